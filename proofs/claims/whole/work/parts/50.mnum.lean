def jX8_tellsLoaf_68 (P : Sk) (a : Nat) (p1 : Int32) (p2 : Int32) (K : Int32 → St → Prop) (f : St) : Prop :=
  kX8_of P f a p1 p2 (fun r71 g71 => K r71 g71)
def jX8_tellsLoaf_83 (P : Sk) (a : Nat) (p1 : Int32) (p2 : Int32) (K : Int32 → St → Prop) (f : St) : Prop :=
  kX8_rings P f a (fun r84 g84 => K r84 g84)
def jX8_tellsLoaf_88 (P : Sk) (a : Nat) (p1 : Int32) (p2 : Int32) (K : Int32 → St → Prop) (f : St) : Prop :=
  kX8_shortLength P f a p1 (fun r90 g90 => K r90 g90)
def vX8_tellsLoaf (P : Sk) (f : St) (a : Nat) (p1 : Int32) (p2 : Int32) (K : Int32 → St → Prop) : Prop :=
  kX8_takes P f a p1 (fun g2 => kX8_walks P g2 a (g2 a 9) (fun g10 => (p2 = 0 → jX8_tellsLoaf_68 P a p1 p2 K  g10) ∧ (¬ p2 = 0 → (p2 = 1 → jX8_tellsLoaf_68 P a p1 p2 K  g10) ∧ (¬ p2 = 1 → (p2 = 2 → kX8_rightLessLeft P g10 a (fun r78 g78 => K (100 + r78) g78)) ∧ (¬ p2 = 2 → (p2 = 3 → jX8_tellsLoaf_83 P a p1 p2 K  g10) ∧ (¬ p2 = 3 → (p2 = 4 → jX8_tellsLoaf_83 P a p1 p2 K  g10) ∧ (¬ p2 = 4 → (p2 = 5 → jX8_tellsLoaf_88 P a p1 p2 K  g10) ∧ (¬ p2 = 5 → (p2 = 6 → jX8_tellsLoaf_88 P a p1 p2 K  g10) ∧ (¬ p2 = 6 → (p2 = 7 → kX8_looseLength P g10 a p1 (fun r96 g96 => K r96 g96)) ∧ (¬ p2 = 7 → (p2 = 8 → kX8_rings P g10 a (fun r101 g101 => (¬ r101 = g101 a 10 → K 0 g101) ∧ (r101 = g101 a 10 → K 1 g101))) ∧ (¬ p2 = 8 → (p2 = 9 → kX8_mostHidden P g10 a (fun r118 g118 => K r118 g118)) ∧ (¬ p2 = 9 → kX8_firstAlike P g10 a p1 (fun r124 g124 => K r124 g124)))))))))))))
set_option maxRecDepth 20000 in
set_option maxHeartbeats 4000000 in
theorem mX8_tellsLoaf (l : Launch) (G : Gl) (P : Sk) (f : St) (sz : Nat) (a : Nat) (ha : IsModel P a) (p1 : Int32) (p2 : Int32) (K : Int32 → St → Prop) (h : vX8_tellsLoaf P f a p1 p2 K)  :
  Met l yX8_tellsLoaf (wU yX8_tellsLoaf cX8_tellsLoaf 3 (some .int)) rmX8_tellsLoaf (PcW G P f sz [.ref a, .int p1, .int p2]) (QcI G P sz K) 0 0 (frA P sz) := by
  refine v_met (own := RX8) [.ref a, .int p1, .int p2] (by decide +kernel) rfl (Nat.le_of_ble_eq_true rfl) (fun p e s m args below meth c hsz o hr hnm => ?_)
  refine v_lv (lv2 := [(0, .ref a), (1, .int p1), (2, .int p2)]) rfl ?_
  have J68 : ∀ (g68 : St), jX8_tellsLoaf_68 P a p1 p2 K  g68 → V p l e rmX8_tellsLoaf s m args below meth c 3 G (frA P sz) (MQ below (QcI G P sz K) args s 0 0 (frA P sz)) 0 0 P [(0, .ref a), (1, .int p1), (2, .int p2)] [] 68 g68 := by
    intro  g68  h
    unfold jX8_tellsLoaf_68 at h
    refine v_aload_n o 0 dX8_tellsLoaf_68 rfl ?_
    refine v_iload_n o 1 dX8_tellsLoaf_69 rfl ?_
    refine v_iload_n o 2 dX8_tellsLoaf_70 rfl ?_
    refine v_cVi o [.int p1, .int p2] [] (fun sz => metX8_of l G P g68 sz a ha p1 p2 _ h) (cwX8_51 o.1.2.2.2.2 (by decide)) ⟨_, _, rfl⟩ (by decide) (wfModel_o ha) rfl (Nat.le_of_ble_eq_true rfl) ⟨Nat.le_of_ble_eq_true rfl, Nat.le_of_ble_eq_true rfl⟩ dX8_tellsLoaf_71 rfl (fun r71 g71 h => ?_)
    exact v_iret o rfl hr dX8_tellsLoaf_74 h
  have J83 : ∀ (g83 : St), jX8_tellsLoaf_83 P a p1 p2 K  g83 → V p l e rmX8_tellsLoaf s m args below meth c 3 G (frA P sz) (MQ below (QcI G P sz K) args s 0 0 (frA P sz)) 0 0 P [(0, .ref a), (1, .int p1), (2, .int p2)] [] 83 g83 := by
    intro  g83  h
    unfold jX8_tellsLoaf_83 at h
    refine v_aload_n o 0 dX8_tellsLoaf_83 rfl ?_
    refine v_cVi o [] [] (fun sz => metX8_rings l G P g83 sz a ha _ h) (cwX8_211 o.1.2.2.2.2 (by decide)) ⟨_, _, rfl⟩ (by decide) (wfModel_o ha) rfl (Nat.le_of_ble_eq_true rfl) ⟨Nat.le_of_ble_eq_true rfl, Nat.le_of_ble_eq_true rfl⟩ dX8_tellsLoaf_84 rfl (fun r84 g84 h => ?_)
    exact v_iret o rfl hr dX8_tellsLoaf_87 h
  have J88 : ∀ (g88 : St), jX8_tellsLoaf_88 P a p1 p2 K  g88 → V p l e rmX8_tellsLoaf s m args below meth c 3 G (frA P sz) (MQ below (QcI G P sz K) args s 0 0 (frA P sz)) 0 0 P [(0, .ref a), (1, .int p1), (2, .int p2)] [] 88 g88 := by
    intro  g88  h
    unfold jX8_tellsLoaf_88 at h
    refine v_aload_n o 0 dX8_tellsLoaf_88 rfl ?_
    refine v_iload_n o 1 dX8_tellsLoaf_89 rfl ?_
    refine v_cVi o [.int p1] [] (fun sz => metX8_shortLength l G P g88 sz a ha p1 _ h) (cwX8_214 o.1.2.2.2.2 (by decide)) ⟨_, _, rfl⟩ (by decide) (wfModel_o ha) rfl (Nat.le_of_ble_eq_true rfl) ⟨Nat.le_of_ble_eq_true rfl, Nat.le_of_ble_eq_true rfl⟩ dX8_tellsLoaf_90 rfl (fun r90 g90 h => ?_)
    exact v_iret o rfl hr dX8_tellsLoaf_93 h
  unfold vX8_tellsLoaf at h
  refine v_aload_n o 0 dX8_tellsLoaf_0 rfl ?_
  refine v_iload_n o 1 dX8_tellsLoaf_1 rfl ?_
  refine v_cVv o [.int p1] [] (fun sz => metX8_takes l G P f sz a ha p1 _ h) (cwX8_107 o.1.2.2.2.2 (by decide)) ⟨_, _, rfl⟩ (by decide) (wfModel_o ha) rfl (Nat.le_of_ble_eq_true rfl) ⟨Nat.le_of_ble_eq_true rfl, Nat.le_of_ble_eq_true rfl⟩ dX8_tellsLoaf_2 rfl (fun g2 h => ?_)
  refine v_aload_n o 0 dX8_tellsLoaf_5 rfl ?_
  refine v_aload_n o 0 dX8_tellsLoaf_6 rfl ?_
  refine v_gfI o lkX8_58 (by decide) (wfModel_o ha) dX8_tellsLoaf_7 ?_
  refine v_cVv o [.int (g2 a 9)] [] (fun sz => metX8_walks l G P g2 sz a ha (g2 a 9) _ h) (cwX8_89 o.1.2.2.2.2 (by decide)) ⟨_, _, rfl⟩ (by decide) (wfModel_o ha) rfl (Nat.le_of_ble_eq_true rfl) ⟨Nat.le_of_ble_eq_true rfl, Nat.le_of_ble_eq_true rfl⟩ dX8_tellsLoaf_10 rfl (fun g10 h => ?_)
  refine v_iload_n o 2 dX8_tellsLoaf_13 rfl ?_
  by_cases c14_0 : p2 = 0
  · replace h := h.1 c14_0
    refine v_tableIn o (off := 54) (tgt := 68) dX8_tellsLoaf_14 (by rw [c14_0]; decide) (by rw [c14_0]; decide) (by rw [c14_0]; decide) (by decide) ?_
    refine v_sub [0, 1, 2] (lv2 := [(0, .ref a), (1, .int p1), (2, .int p2)]) rfl ?_
    exact J68  g10  h
  · replace h := h.2 c14_0
    by_cases c14_1 : p2 = 1
    · replace h := h.1 c14_1
      refine v_tableIn o (off := 54) (tgt := 68) dX8_tellsLoaf_14 (by rw [c14_1]; decide) (by rw [c14_1]; decide) (by rw [c14_1]; decide) (by decide) ?_
      refine v_sub [0, 1, 2] (lv2 := [(0, .ref a), (1, .int p1), (2, .int p2)]) rfl ?_
      exact J68  g10  h
    · replace h := h.2 c14_1
      by_cases c14_2 : p2 = 2
      · replace h := h.1 c14_2
        refine v_tableIn o (off := 61) (tgt := 75) dX8_tellsLoaf_14 (by rw [c14_2]; decide) (by rw [c14_2]; decide) (by rw [c14_2]; decide) (by decide) ?_
        refine v_bipush o (v := 100) dX8_tellsLoaf_75 (by decide) ?_
        refine v_aload_n o 0 dX8_tellsLoaf_77 rfl ?_
        refine v_cVi o [] [.int 100] (fun sz => metX8_rightLessLeft l G P g10 sz a ha _ h) (cwX8_208 o.1.2.2.2.2 (by decide)) ⟨_, _, rfl⟩ (by decide) (wfModel_o ha) rfl (Nat.le_of_ble_eq_true rfl) ⟨Nat.le_of_ble_eq_true rfl, Nat.le_of_ble_eq_true rfl⟩ dX8_tellsLoaf_78 rfl (fun r78 g78 h => ?_)
        refine v_iadd o dX8_tellsLoaf_81 ?_
        exact v_iret o rfl hr dX8_tellsLoaf_82 h
      · replace h := h.2 c14_2
        by_cases c14_3 : p2 = 3
        · replace h := h.1 c14_3
          refine v_tableIn o (off := 69) (tgt := 83) dX8_tellsLoaf_14 (by rw [c14_3]; decide) (by rw [c14_3]; decide) (by rw [c14_3]; decide) (by decide) ?_
          refine v_sub [0, 1, 2] (lv2 := [(0, .ref a), (1, .int p1), (2, .int p2)]) rfl ?_
          exact J83  g10  h
        · replace h := h.2 c14_3
          by_cases c14_4 : p2 = 4
          · replace h := h.1 c14_4
            refine v_tableIn o (off := 69) (tgt := 83) dX8_tellsLoaf_14 (by rw [c14_4]; decide) (by rw [c14_4]; decide) (by rw [c14_4]; decide) (by decide) ?_
            refine v_sub [0, 1, 2] (lv2 := [(0, .ref a), (1, .int p1), (2, .int p2)]) rfl ?_
            exact J83  g10  h
          · replace h := h.2 c14_4
            by_cases c14_5 : p2 = 5
            · replace h := h.1 c14_5
              refine v_tableIn o (off := 74) (tgt := 88) dX8_tellsLoaf_14 (by rw [c14_5]; decide) (by rw [c14_5]; decide) (by rw [c14_5]; decide) (by decide) ?_
              refine v_sub [0, 1, 2] (lv2 := [(0, .ref a), (1, .int p1), (2, .int p2)]) rfl ?_
              exact J88  g10  h
            · replace h := h.2 c14_5
              by_cases c14_6 : p2 = 6
              · replace h := h.1 c14_6
                refine v_tableIn o (off := 74) (tgt := 88) dX8_tellsLoaf_14 (by rw [c14_6]; decide) (by rw [c14_6]; decide) (by rw [c14_6]; decide) (by decide) ?_
                refine v_sub [0, 1, 2] (lv2 := [(0, .ref a), (1, .int p1), (2, .int p2)]) rfl ?_
                exact J88  g10  h
              · replace h := h.2 c14_6
                by_cases c14_7 : p2 = 7
                · replace h := h.1 c14_7
                  refine v_tableIn o (off := 80) (tgt := 94) dX8_tellsLoaf_14 (by rw [c14_7]; decide) (by rw [c14_7]; decide) (by rw [c14_7]; decide) (by decide) ?_
                  refine v_aload_n o 0 dX8_tellsLoaf_94 rfl ?_
                  refine v_iload_n o 1 dX8_tellsLoaf_95 rfl ?_
                  refine v_cVi o [.int p1] [] (fun sz => metX8_looseLength l G P g10 sz a ha p1 _ h) (cwX8_217 o.1.2.2.2.2 (by decide)) ⟨_, _, rfl⟩ (by decide) (wfModel_o ha) rfl (Nat.le_of_ble_eq_true rfl) ⟨Nat.le_of_ble_eq_true rfl, Nat.le_of_ble_eq_true rfl⟩ dX8_tellsLoaf_96 rfl (fun r96 g96 h => ?_)
                  exact v_iret o rfl hr dX8_tellsLoaf_99 h
                · replace h := h.2 c14_7
                  by_cases c14_8 : p2 = 8
                  · replace h := h.1 c14_8
                    refine v_tableIn o (off := 86) (tgt := 100) dX8_tellsLoaf_14 (by rw [c14_8]; decide) (by rw [c14_8]; decide) (by rw [c14_8]; decide) (by decide) ?_
                    refine v_aload_n o 0 dX8_tellsLoaf_100 rfl ?_
                    refine v_cVi o [] [] (fun sz => metX8_rings l G P g10 sz a ha _ h) (cwX8_211 o.1.2.2.2.2 (by decide)) ⟨_, _, rfl⟩ (by decide) (wfModel_o ha) rfl (Nat.le_of_ble_eq_true rfl) ⟨Nat.le_of_ble_eq_true rfl, Nat.le_of_ble_eq_true rfl⟩ dX8_tellsLoaf_101 rfl (fun r101 g101 h => ?_)
                    refine v_aload_n o 0 dX8_tellsLoaf_104 rfl ?_
                    refine v_gfI o lkX8_55 (by decide) (wfModel_o ha) dX8_tellsLoaf_105 ?_
                    refine v_icmp_ne o (tgt := 115) dX8_tellsLoaf_108 (by decide) (fun c108 => ?_) (fun c108 => ?_)
                    · replace h := h.1 c108
                      refine v_iconst o (v := 0) dX8_tellsLoaf_115 (by decide) ?_
                      exact v_iret o rfl hr dX8_tellsLoaf_116 h
                    · replace h := h.2 c108
                      refine v_iconst o (v := 1) dX8_tellsLoaf_111 (by decide) ?_
                      refine v_goto o (tgt := 116) dX8_tellsLoaf_112 (by decide) ?_
                      exact v_iret o rfl hr dX8_tellsLoaf_116 h
                  · replace h := h.2 c14_8
                    by_cases c14_9 : p2 = 9
                    · replace h := h.1 c14_9
                      refine v_tableIn o (off := 103) (tgt := 117) dX8_tellsLoaf_14 (by rw [c14_9]; decide) (by rw [c14_9]; decide) (by rw [c14_9]; decide) (by decide) ?_
                      refine v_aload_n o 0 dX8_tellsLoaf_117 rfl ?_
                      refine v_cVi o [] [] (fun sz => metX8_mostHidden l G P g10 sz a ha _ h) (cwX8_220 o.1.2.2.2.2 (by decide)) ⟨_, _, rfl⟩ (by decide) (wfModel_o ha) rfl (Nat.le_of_ble_eq_true rfl) ⟨Nat.le_of_ble_eq_true rfl, Nat.le_of_ble_eq_true rfl⟩ dX8_tellsLoaf_118 rfl (fun r118 g118 h => ?_)
                      exact v_iret o rfl hr dX8_tellsLoaf_121 h
                    · replace h := h.2 c14_9
                      refine v_tableOut o (tgt := 122) dX8_tellsLoaf_14 (by have q0 := lv_neT c14_0 (a := 0) (by decide); have q1 := lv_neT c14_1 (a := 1) (by decide); have q2 := lv_neT c14_2 (a := 2) (by decide); have q3 := lv_neT c14_3 (a := 3) (by decide); have q4 := lv_neT c14_4 (a := 4) (by decide); have q5 := lv_neT c14_5 (a := 5) (by decide); have q6 := lv_neT c14_6 (a := 6) (by decide); have q7 := lv_neT c14_7 (a := 7) (by decide); have q8 := lv_neT c14_8 (a := 8) (by decide); have q9 := lv_neT c14_9 (a := 9) (by decide); omega) (by decide) ?_
                      refine v_aload_n o 0 dX8_tellsLoaf_122 rfl ?_
                      refine v_iload_n o 1 dX8_tellsLoaf_123 rfl ?_
                      refine v_cVi o [.int p1] [] (fun sz => metX8_firstAlike l G P g10 sz a ha p1 _ h) (cwX8_223 o.1.2.2.2.2 (by decide)) ⟨_, _, rfl⟩ (by decide) (wfModel_o ha) rfl (Nat.le_of_ble_eq_true rfl) ⟨Nat.le_of_ble_eq_true rfl, Nat.le_of_ble_eq_true rfl⟩ dX8_tellsLoaf_124 rfl (fun r124 g124 h => ?_)
                      exact v_iret o rfl hr dX8_tellsLoaf_127 h
abbrev kX8_tellsLoaf := @vX8_tellsLoaf
abbrev metX8_tellsLoaf := @mX8_tellsLoaf
theorem u8_tellsLoaf {P : Sk} {f : St} {a i what : Nat} {bd : Bd} {K : Int32 → St → Prop} (hS : StM f (a + 1) 0 bd) (hb : Bok bd) (hi : i < bd.1.length) (hw : what < 11) (hK : LkM f a (nL bd.1 i what) K) : kX8_tellsLoaf P f a (nI i) (nI what) K := by
  show vX8_tellsLoaf P f a (nI i) (nI what) K
  unfold vX8_tellsLoaf jX8_tellsLoaf_68 jX8_tellsLoaf_83 jX8_tellsLoaf_88
  obtain ⟨hp, hy⟩ := hasB_n (bd := bd) hi hb
  have ho := (hb.has hp).1
  refine u8_walked hS hb hp (fun g r m n W => ?_)
  have S := hS.sc9 r
  have hK2 := hK.fr r
  have hL := S.has hp
  unfold nL at hK2
  rw [← hy] at hK2
  have R : ∀ K2 : Int32 → St → Prop, K2 (nI (rgV (lfP bd (nI i)))) g → kX8_rings P g a K2 := fun K2 h => ⟨lfP bd (nI i), ho, n, W, h⟩
  have T : ∀ {x y : Nat}, x < 100 → y < 100 → x ≠ y → ¬ nI x = nI y := fun hx hy h q => h ((nI_eq (by omega) (by omega)).mp q)
  match what, hw, hK2 with
  | 0, _, hK2 => exact ⟨fun _ => u8_ofP (w := 0) hb hp (by decide) hL.1 (hK2 g (Sc9.refl _ _)), fun q => absurd rfl q⟩
  | 1, _, hK2 => exact ⟨fun q => absurd q (by decide), fun _ => ⟨fun _ => u8_ofP (w := 1) hb hp (by decide) hL.2.1 (hK2 g (Sc9.refl _ _)), fun q => absurd rfl q⟩⟩
  | 2, _, hK2 => exact ⟨fun q => absurd q (by decide), fun _ => ⟨fun q => absurd q (by decide), fun _ => ⟨fun _ => ⟨_, m, cok_of ho, hK2 g (Sc9.refl _ _)⟩, fun q => absurd rfl q⟩⟩⟩
  | 3, _, hK2 => exact ⟨fun q => absurd q (by decide), fun _ => ⟨fun q => absurd q (by decide), fun _ => ⟨fun q => absurd q (by decide), fun _ => ⟨fun _ => R _ (hK2 g (Sc9.refl _ _)), fun q => absurd rfl q⟩⟩⟩⟩
  | 4, _, hK2 => exact ⟨fun q => absurd q (by decide), fun _ => ⟨fun q => absurd q (by decide), fun _ => ⟨fun q => absurd q (by decide), fun _ => ⟨fun q => absurd q (by decide), fun _ => ⟨fun _ => R _ (hK2 g (Sc9.refl _ _)), fun q => absurd rfl q⟩⟩⟩⟩⟩
  | 5, _, hK2 => exact ⟨fun q => absurd q (by decide), fun _ => ⟨fun q => absurd q (by decide), fun _ => ⟨fun q => absurd q (by decide), fun _ => ⟨fun q => absurd q (by decide), fun _ => ⟨fun q => absurd q (by decide), fun _ => ⟨fun _ => u8_shortLength S hb hp hK2, fun q => absurd rfl q⟩⟩⟩⟩⟩⟩
  | 6, _, hK2 => exact ⟨fun q => absurd q (by decide), fun _ => ⟨fun q => absurd q (by decide), fun _ => ⟨fun q => absurd q (by decide), fun _ => ⟨fun q => absurd q (by decide), fun _ => ⟨fun q => absurd q (by decide), fun _ => ⟨fun q => absurd q (by decide), fun _ => ⟨fun _ => u8_shortLength S hb hp hK2, fun q => absurd rfl q⟩⟩⟩⟩⟩⟩⟩
  | 7, _, hK2 => exact ⟨fun q => absurd q (by decide), fun _ => ⟨fun q => absurd q (by decide), fun _ => ⟨fun q => absurd q (by decide), fun _ => ⟨fun q => absurd q (by decide), fun _ => ⟨fun q => absurd q (by decide), fun _ => ⟨fun q => absurd q (by decide), fun _ => ⟨fun q => absurd q (by decide), fun _ => ⟨fun _ => u8_looseLength S hb hp (fun g2 r2 _ => hK2 g2 r2), fun q => absurd rfl q⟩⟩⟩⟩⟩⟩⟩⟩
  | 8, _, hK2 =>
    refine ⟨fun q => absurd q (by decide), fun _ => ⟨fun q => absurd q (by decide), fun _ => ⟨fun q => absurd q (by decide), fun _ => ⟨fun q => absurd q (by decide), fun _ => ⟨fun q => absurd q (by decide), fun _ => ⟨fun q => absurd q (by decide), fun _ => ⟨fun q => absurd q (by decide), fun _ => ⟨fun q => absurd q (by decide), fun _ => ⟨fun _ => R _ ?_, fun q => absurd rfl q⟩⟩⟩⟩⟩⟩⟩⟩⟩
    have hv := hK2 g (Sc9.refl _ _)
    have h7 := ho.2.1
    have hr : rgV (lfP bd (nI i)) < 2 ^ 31 := rgV_lt ho
    change _ ∧ _
    rw [n, nI_eq hr (by omega)]
    refine ⟨fun c => ?_, fun c => ?_⟩
    · rw [if_neg (by decide), if_neg (by decide), if_neg (by decide), if_neg (by decide), if_neg (by decide), if_neg (by decide), if_neg (by decide), if_neg (by decide), if_pos rfl, if_neg c] at hv
      exact hv
    · rw [if_neg (by decide), if_neg (by decide), if_neg (by decide), if_neg (by decide), if_neg (by decide), if_neg (by decide), if_neg (by decide), if_neg (by decide), if_pos rfl, if_pos c] at hv
      exact hv
  | 9, _, hK2 => exact ⟨fun q => absurd q (by decide), fun _ => ⟨fun q => absurd q (by decide), fun _ => ⟨fun q => absurd q (by decide), fun _ => ⟨fun q => absurd q (by decide), fun _ => ⟨fun q => absurd q (by decide), fun _ => ⟨fun q => absurd q (by decide), fun _ => ⟨fun q => absurd q (by decide), fun _ => ⟨fun q => absurd q (by decide), fun _ => ⟨fun q => absurd q (by decide), fun _ => ⟨fun _ => ⟨lfP bd (nI i), ho, n, W, hK2 g (Sc9.refl _ _)⟩, fun q => absurd rfl q⟩⟩⟩⟩⟩⟩⟩⟩⟩⟩
  | 10, _, hK2 => exact ⟨fun q => absurd q (by decide), fun _ => ⟨fun q => absurd q (by decide), fun _ => ⟨fun q => absurd q (by decide), fun _ => ⟨fun q => absurd q (by decide), fun _ => ⟨fun q => absurd q (by decide), fun _ => ⟨fun q => absurd q (by decide), fun _ => ⟨fun q => absurd q (by decide), fun _ => ⟨fun q => absurd q (by decide), fun _ => ⟨fun q => absurd q (by decide), fun _ => ⟨fun q => absurd q (by decide), fun _ => ⟨bd, i, rfl, hi, S, hb, hK2⟩⟩⟩⟩⟩⟩⟩⟩⟩⟩⟩

def vX8_loaf (P : Sk) (f : St) (a : Nat) (p1 : Int32) (p2 : Int32) (K : Int32 → St → Prop) : Prop :=
  ∀ g2 : St, g2 = setf f a 0 0 → kX8_isLoaf P g2 a p1 (fun r7 g7 => (¬ r7 = 0 → kX8_in P g7 p2 0 10 (fun r23 g23 => (r23 = 0 → kX8_fails P g23 a 2 (fun r40 g40 => K r40 g40)) ∧ (¬ r23 = 0 → kX8_tellsLoaf P g23 a p1 p2 (fun r32 g32 => K r32 g32)))) ∧ (r7 = 0 → kX8_fails P g7 a 1 (fun r15 g15 => K r15 g15)))
set_option maxRecDepth 20000 in
set_option maxHeartbeats 4000000 in
theorem mX8_loaf (l : Launch) (G : Gl) (P : Sk) (f : St) (sz : Nat) (a : Nat) (ha : IsModel P a) (p1 : Int32) (p2 : Int32) (K : Int32 → St → Prop) (h : vX8_loaf P f a p1 p2 K)  :
  Met l yX8_loaf (wU yX8_loaf cX8_loaf 3 (some .int)) rmX8_loaf (PcW G P f sz [.ref a, .int p1, .int p2]) (QcI G P sz K) 0 0 (frA P sz) := by
  refine v_met (own := RX8) [.ref a, .int p1, .int p2] (by decide +kernel) rfl (Nat.le_of_ble_eq_true rfl) (fun p e s m args below meth c hsz o hr hnm => ?_)
  refine v_lv (lv2 := [(0, .ref a), (1, .int p1), (2, .int p2)]) rfl ?_
  unfold vX8_loaf at h
  refine v_aload_n o 0 dX8_loaf_0 rfl ?_
  refine v_iconst o (v := 0) dX8_loaf_1 (by decide) ?_
  refine v_pf o lpX8_40 (wfModel_o ha) ⟨rfl, rfl⟩ dX8_loaf_2 ?_
  refine v_nmf (fun g2 eg2 => ?_)
  replace h := h g2 eg2
  refine v_aload_n o 0 dX8_loaf_5 rfl ?_
  refine v_iload_n o 1 dX8_loaf_6 rfl ?_
  refine v_cVi o [.int p1] [] (fun sz => metX8_isLoaf l G P g2 sz a ha p1 _ h) (cwX8_104 o.1.2.2.2.2 (by decide)) ⟨_, _, rfl⟩ (by decide) (wfModel_o ha) rfl (Nat.le_of_ble_eq_true rfl) ⟨Nat.le_of_ble_eq_true rfl, Nat.le_of_ble_eq_true rfl⟩ dX8_loaf_7 rfl (fun r7 g7 h => ?_)
  refine v_if_ne o (tgt := 19) dX8_loaf_10 (by decide) (fun c10 => ?_) (fun c10 => ?_)
  · replace h := h.1 c10
    refine v_iload_n o 2 dX8_loaf_19 rfl ?_
    refine v_iconst o (v := 0) dX8_loaf_20 (by decide) ?_
    refine v_bipush o (v := 10) dX8_loaf_21 (by decide) ?_
    refine v_cSi o [.int p2, .int 0, .int 10] [] (fun sz => metX8_in l G P g7 sz p2 0 10 _ h) (cwX8_44 o.1.2.2.2.2 (by decide)) rfl (Nat.le_of_ble_eq_true rfl) ⟨Nat.le_of_ble_eq_true rfl, Nat.le_of_ble_eq_true rfl⟩ dX8_loaf_23 rfl (fun r23 g23 h => ?_)
    refine v_if_eq o (tgt := 38) dX8_loaf_26 (by decide) (fun c26 => ?_) (fun c26 => ?_)
    · replace h := h.1 c26
      refine v_aload_n o 0 dX8_loaf_38 rfl ?_
      refine v_iconst o (v := 2) dX8_loaf_39 (by decide) ?_
      refine v_cVi o [.int 2] [] (fun sz => metX8_fails l G P g23 sz a ha 2 _ h) (cwX8_123 o.1.2.2.2.2 (by decide)) ⟨_, _, rfl⟩ (by decide) (wfModel_o ha) rfl (Nat.le_of_ble_eq_true rfl) ⟨Nat.le_of_ble_eq_true rfl, Nat.le_of_ble_eq_true rfl⟩ dX8_loaf_40 rfl (fun r40 g40 h => ?_)
      exact v_iret o rfl hr dX8_loaf_43 h
    · replace h := h.2 c26
      refine v_aload_n o 0 dX8_loaf_29 rfl ?_
      refine v_iload_n o 1 dX8_loaf_30 rfl ?_
      refine v_iload_n o 2 dX8_loaf_31 rfl ?_
      refine v_cVi o [.int p1, .int p2] [] (fun sz => metX8_tellsLoaf l G P g23 sz a ha p1 p2 _ h) (cwX8_226 o.1.2.2.2.2 (by decide)) ⟨_, _, rfl⟩ (by decide) (wfModel_o ha) rfl (Nat.le_of_ble_eq_true rfl) ⟨Nat.le_of_ble_eq_true rfl, Nat.le_of_ble_eq_true rfl⟩ dX8_loaf_32 rfl (fun r32 g32 h => ?_)
      refine v_goto o (tgt := 43) dX8_loaf_35 (by decide) ?_
      exact v_iret o rfl hr dX8_loaf_43 h
  · replace h := h.2 c10
    refine v_aload_n o 0 dX8_loaf_13 rfl ?_
    refine v_iconst o (v := 1) dX8_loaf_14 (by decide) ?_
    refine v_cVi o [.int 1] [] (fun sz => metX8_fails l G P g7 sz a ha 1 _ h) (cwX8_123 o.1.2.2.2.2 (by decide)) ⟨_, _, rfl⟩ (by decide) (wfModel_o ha) rfl (Nat.le_of_ble_eq_true rfl) ⟨Nat.le_of_ble_eq_true rfl, Nat.le_of_ble_eq_true rfl⟩ dX8_loaf_15 rfl (fun r15 g15 h => ?_)
    exact v_iret o rfl hr dX8_loaf_18 h
abbrev kX8_loaf := @vX8_loaf
abbrev metX8_loaf := @mX8_loaf
theorem u8_loaf {P : Sk} {f : St} {a : Nat} {p q : Int32} {A : Ab} {K : Int32 → St → Prop} (hM : MIs f a A) (hF : FinM f a (opLoaf A p q) K) : kX8_loaf P f a p q K := by
  show vX8_loaf P f a p q K
  unfold vX8_loaf
  intro g2 e2
  obtain ⟨M, z, r0⟩ := mi_start hM e2
  unfold opLoaf at hF
  refine u8_isLoaf M.1 M.bok (fun c1 => ?_) (fun c1 => ?_)
  · refine ⟨fun _ => ?_, fun q => absurd q (by decide)⟩
    rw [cif_pos c1] at hF
    refine u8_in0 (m := 10) (by decide) (fun c2 => ⟨fun q => absurd q (by decide), fun _ => ?_⟩) (fun c2 => ⟨fun _ => ?_, fun q => absurd rfl q⟩)
    · rw [cif_pos c2] at hF
      have h := u8_tellsLoaf (P := P) M.1 M.bok c1.2 (what := q.toNatClampNeg) c2.2 (hF.lk M z r0)
      rw [← nI_cl c2.1, ← nI_cl c1.1] at h
      exact h
    · rw [cif_neg c2] at hF
      exact u8_fails (hF.no M r0)
  · refine ⟨fun q => absurd rfl q, fun _ => ?_⟩
    rw [cif_neg c1] at hF
    exact u8_fails (hF.no M r0)

def vX8_tellsLoose (P : Sk) (f : St) (a : Nat) (p1 : Int32) (p2 : Int32) (K : Int32 → St → Prop) : Prop :=
  kX8_looseLength P f a p1 (fun r3 g3 => (r3 ≤ p2 → K (-1) g3) ∧ (¬ r3 ≤ p2 → vp_in p2 50 ∧ (K (g3 (a + 5) p2.toNatClampNeg) g3)))
set_option maxRecDepth 20000 in
set_option maxHeartbeats 4000000 in
theorem mX8_tellsLoose (l : Launch) (G : Gl) (P : Sk) (f : St) (sz : Nat) (a : Nat) (ha : IsModel P a) (p1 : Int32) (p2 : Int32) (K : Int32 → St → Prop) (h : vX8_tellsLoose P f a p1 p2 K)  :
  Met l yX8_tellsLoose (wU yX8_tellsLoose cX8_tellsLoose 3 (some .int)) rmX8_tellsLoose (PcW G P f sz [.ref a, .int p1, .int p2]) (QcI G P sz K) 0 0 (frA P sz) := by
  refine v_met (own := RX8) [.ref a, .int p1, .int p2] (by decide +kernel) rfl (Nat.le_of_ble_eq_true rfl) (fun p e s m args below meth c hsz o hr hnm => ?_)
  refine v_lv (lv2 := [(0, .ref a), (1, .int p1), (2, .int p2)]) rfl ?_
  unfold vX8_tellsLoose at h
  refine v_iload_n o 2 dX8_tellsLoose_0 rfl ?_
  refine v_aload_n o 0 dX8_tellsLoose_1 rfl ?_
  refine v_iload_n o 1 dX8_tellsLoose_2 rfl ?_
  refine v_cVi o [.int p1] [.int p2] (fun sz => metX8_looseLength l G P f sz a ha p1 _ h) (cwX8_217 o.1.2.2.2.2 (by decide)) ⟨_, _, rfl⟩ (by decide) (wfModel_o ha) rfl (Nat.le_of_ble_eq_true rfl) ⟨Nat.le_of_ble_eq_true rfl, Nat.le_of_ble_eq_true rfl⟩ dX8_tellsLoose_3 rfl (fun r3 g3 h => ?_)
  refine v_icmp_ge o (tgt := 18) dX8_tellsLoose_6 (by decide) (fun c6 => ?_) (fun c6 => ?_)
  · replace h := h.1 c6
    refine v_iconst o (v := (-1)) dX8_tellsLoose_18 (by decide) ?_
    exact v_iret o rfl hr dX8_tellsLoose_19 h
  · replace h := h.2 c6
    refine v_aload_n o 0 dX8_tellsLoose_9 rfl ?_
    refine v_gfR o lkX8_22 (by decide) (wfModel_o ha) (wfModel_r8 ha) dX8_tellsLoose_10 ?_
    refine v_iload_n o 2 dX8_tellsLoose_13 rfl ?_
    refine v_iald o (wfModel_t8 ha) (wfModel_n8 ha) h.1 dX8_tellsLoose_14 ?_
    replace h := h.2
    refine v_goto o (tgt := 19) dX8_tellsLoose_15 (by decide) ?_
    exact v_iret o rfl hr dX8_tellsLoose_19 h
abbrev kX8_tellsLoose := @vX8_tellsLoose
abbrev metX8_tellsLoose := @mX8_tellsLoose
theorem u8_tellsLoose {P : Sk} {f : St} {a k : Nat} {p : Int32} {bd : Bd} {K : Int32 → St → Prop} (hS : StM f (a + 1) 0 bd) (hb : Bok bd) (hp : hasB bd p) (hk : k < 1000) (hK : LkM f a (if k < (NF (lfP bd p).2).length then nI ((NF (lfP bd p).2).getD k 0) else -1) K) : kX8_tellsLoose P f a p (nI k) K := by
  show vX8_tellsLoose P f a p (nI k) K
  unfold vX8_tellsLoose
  have h24 := (hb.has hp).1.NF.2.2.1
  refine u8_looseLength hS hb hp (fun g r m => ?_)
  change _ ∧ _
  rw [nI_leI (by omega) (by omega)]
  refine ⟨fun q => ?_, fun q => ⟨vp_nI (by omega) (by decide), ?_⟩⟩
  · rw [if_neg (by omega)] at hK
    exact hK g r
  · rw [if_pos (by omega)] at hK
    rw [nI_clamp (by omega), m.2 k (by omega)]
    exact hK g r

def vX8_loose (P : Sk) (f : St) (a : Nat) (p1 : Int32) (p2 : Int32) (K : Int32 → St → Prop) : Prop :=
  ∀ g2 : St, g2 = setf f a 0 0 → kX8_isLoaf P g2 a p1 (fun r7 g7 => (¬ r7 = 0 → kX8_in P g7 p2 0 23 (fun r23 g23 => (r23 = 0 → kX8_fails P g23 a 2 (fun r40 g40 => K r40 g40)) ∧ (¬ r23 = 0 → kX8_tellsLoose P g23 a p1 p2 (fun r32 g32 => K r32 g32)))) ∧ (r7 = 0 → kX8_fails P g7 a 1 (fun r15 g15 => K r15 g15)))
set_option maxRecDepth 20000 in
set_option maxHeartbeats 4000000 in
theorem mX8_loose (l : Launch) (G : Gl) (P : Sk) (f : St) (sz : Nat) (a : Nat) (ha : IsModel P a) (p1 : Int32) (p2 : Int32) (K : Int32 → St → Prop) (h : vX8_loose P f a p1 p2 K)  :
  Met l yX8_loose (wU yX8_loose cX8_loose 3 (some .int)) rmX8_loose (PcW G P f sz [.ref a, .int p1, .int p2]) (QcI G P sz K) 0 0 (frA P sz) := by
  refine v_met (own := RX8) [.ref a, .int p1, .int p2] (by decide +kernel) rfl (Nat.le_of_ble_eq_true rfl) (fun p e s m args below meth c hsz o hr hnm => ?_)
  refine v_lv (lv2 := [(0, .ref a), (1, .int p1), (2, .int p2)]) rfl ?_
  unfold vX8_loose at h
  refine v_aload_n o 0 dX8_loose_0 rfl ?_
  refine v_iconst o (v := 0) dX8_loose_1 (by decide) ?_
  refine v_pf o lpX8_40 (wfModel_o ha) ⟨rfl, rfl⟩ dX8_loose_2 ?_
  refine v_nmf (fun g2 eg2 => ?_)
  replace h := h g2 eg2
  refine v_aload_n o 0 dX8_loose_5 rfl ?_
  refine v_iload_n o 1 dX8_loose_6 rfl ?_
  refine v_cVi o [.int p1] [] (fun sz => metX8_isLoaf l G P g2 sz a ha p1 _ h) (cwX8_104 o.1.2.2.2.2 (by decide)) ⟨_, _, rfl⟩ (by decide) (wfModel_o ha) rfl (Nat.le_of_ble_eq_true rfl) ⟨Nat.le_of_ble_eq_true rfl, Nat.le_of_ble_eq_true rfl⟩ dX8_loose_7 rfl (fun r7 g7 h => ?_)
  refine v_if_ne o (tgt := 19) dX8_loose_10 (by decide) (fun c10 => ?_) (fun c10 => ?_)
  · replace h := h.1 c10
    refine v_iload_n o 2 dX8_loose_19 rfl ?_
    refine v_iconst o (v := 0) dX8_loose_20 (by decide) ?_
    refine v_bipush o (v := 23) dX8_loose_21 (by decide) ?_
    refine v_cSi o [.int p2, .int 0, .int 23] [] (fun sz => metX8_in l G P g7 sz p2 0 23 _ h) (cwX8_44 o.1.2.2.2.2 (by decide)) rfl (Nat.le_of_ble_eq_true rfl) ⟨Nat.le_of_ble_eq_true rfl, Nat.le_of_ble_eq_true rfl⟩ dX8_loose_23 rfl (fun r23 g23 h => ?_)
    refine v_if_eq o (tgt := 38) dX8_loose_26 (by decide) (fun c26 => ?_) (fun c26 => ?_)
    · replace h := h.1 c26
      refine v_aload_n o 0 dX8_loose_38 rfl ?_
      refine v_iconst o (v := 2) dX8_loose_39 (by decide) ?_
      refine v_cVi o [.int 2] [] (fun sz => metX8_fails l G P g23 sz a ha 2 _ h) (cwX8_123 o.1.2.2.2.2 (by decide)) ⟨_, _, rfl⟩ (by decide) (wfModel_o ha) rfl (Nat.le_of_ble_eq_true rfl) ⟨Nat.le_of_ble_eq_true rfl, Nat.le_of_ble_eq_true rfl⟩ dX8_loose_40 rfl (fun r40 g40 h => ?_)
      exact v_iret o rfl hr dX8_loose_43 h
    · replace h := h.2 c26
      refine v_aload_n o 0 dX8_loose_29 rfl ?_
      refine v_iload_n o 1 dX8_loose_30 rfl ?_
      refine v_iload_n o 2 dX8_loose_31 rfl ?_
      refine v_cVi o [.int p1, .int p2] [] (fun sz => metX8_tellsLoose l G P g23 sz a ha p1 p2 _ h) (cwX8_229 o.1.2.2.2.2 (by decide)) ⟨_, _, rfl⟩ (by decide) (wfModel_o ha) rfl (Nat.le_of_ble_eq_true rfl) ⟨Nat.le_of_ble_eq_true rfl, Nat.le_of_ble_eq_true rfl⟩ dX8_loose_32 rfl (fun r32 g32 h => ?_)
      refine v_goto o (tgt := 43) dX8_loose_35 (by decide) ?_
      exact v_iret o rfl hr dX8_loose_43 h
  · replace h := h.2 c10
    refine v_aload_n o 0 dX8_loose_13 rfl ?_
    refine v_iconst o (v := 1) dX8_loose_14 (by decide) ?_
    refine v_cVi o [.int 1] [] (fun sz => metX8_fails l G P g7 sz a ha 1 _ h) (cwX8_123 o.1.2.2.2.2 (by decide)) ⟨_, _, rfl⟩ (by decide) (wfModel_o ha) rfl (Nat.le_of_ble_eq_true rfl) ⟨Nat.le_of_ble_eq_true rfl, Nat.le_of_ble_eq_true rfl⟩ dX8_loose_15 rfl (fun r15 g15 h => ?_)
    exact v_iret o rfl hr dX8_loose_18 h
abbrev kX8_loose := @vX8_loose
abbrev metX8_loose := @mX8_loose
theorem u8_loose {P : Sk} {f : St} {a : Nat} {p q : Int32} {A : Ab} {K : Int32 → St → Prop} (hM : MIs f a A) (hF : FinM f a (opLoose A p q) K) : kX8_loose P f a p q K := by
  show vX8_loose P f a p q K
  unfold vX8_loose
  intro g2 e2
  obtain ⟨M, z, r0⟩ := mi_start hM e2
  unfold opLoose at hF
  refine u8_isLoaf M.1 M.bok (fun c1 => ?_) (fun c1 => ?_)
  · refine ⟨fun _ => ?_, fun q => absurd q (by decide)⟩
    rw [cif_pos c1] at hF
    refine u8_in0 (m := 23) (by decide) (fun c2 => ⟨fun q => absurd q (by decide), fun _ => ?_⟩) (fun c2 => ⟨fun _ => ?_, fun q => absurd rfl q⟩)
    · rw [cif_pos c2] at hF
      have h := u8_tellsLoose (P := P) M.1 M.bok c1 (k := q.toNatClampNeg) (by have := c2.2; omega) (hF.lk M z r0)
      rw [← nI_cl c2.1] at h
      exact h
    · rw [cif_neg c2] at hF
      exact u8_fails (hF.no M r0)
  · refine ⟨fun q => absurd rfl q, fun _ => ?_⟩
    rw [cif_neg c1] at hF
    exact u8_fails (hF.no M r0)

def bX8_crossings_4 (P : Sk) (a : Nat) (L4 : St → Int32 → Int32 → Prop) (K : Int32 → St → Prop) (f : St) (x1 : Int32) (x2 : Int32) : Prop :=
  vp_in 0 160 ∧ ((f (a + 1) ((0 : Int32)).toNatClampNeg ≤ x2 → K x1 f) ∧ (¬ f (a + 1) ((0 : Int32)).toNatClampNeg ≤ x2 → kX8_of P f a x2 1 (fun r18 g18 => ∀ x1_22 : Int32, x1_22 = x1 + r18 → ∀ x2_23 : Int32, x2_23 = x2 + 1 → L4 g18 x1_22 x2_23)))
def vX8_crossings (P : Sk) (f : St) (a : Nat) (L4 : St → Int32 → Int32 → Prop) (K : Int32 → St → Prop) : Prop :=
  L4 f 0 0
set_option maxRecDepth 20000 in
set_option maxHeartbeats 4000000 in
theorem mX8_crossings (l : Launch) (G : Gl) (P : Sk) (f : St) (sz : Nat) (a : Nat) (ha : IsModel P a) (K : Int32 → St → Prop) (I4 : St → Int32 → Int32 → Prop) (μ4 : St → Int32 → Int32 → Nat) 
  (h : vX8_crossings P f a I4 K)
  (h4 : ∀ (g : St) (x1 : Int32) (x2 : Int32) , I4 g x1 x2 → bX8_crossings_4 P a (fun g' z0 z1 => I4 g' z0 z1 ∧ μ4 g' z0 z1 < μ4 g x1 x2) K g x1 x2) :
  Met l yX8_crossings (wU yX8_crossings cX8_crossings 3 (some .int)) rmX8_crossings (PcW G P f sz [.ref a]) (QcI G P sz K) 0 0 (frA P sz) := by
  refine v_met (own := RX8) [.ref a] (by decide +kernel) rfl (Nat.le_of_ble_eq_true rfl) (fun p e s m args below meth c hsz o hr hnm => ?_)
  refine v_lv (lv2 := [(0, .ref a)]) rfl ?_
  have main : ∀ n : Nat, (∀ (g : St) (x1 : Int32) (x2 : Int32) , I4 g x1 x2 → μ4 g x1 x2 < n → V p l e rmX8_crossings s m args below meth c 3 G (frA P sz) (MQ below (QcI G P sz K) args s 0 0 (frA P sz)) 0 0 P [(0, .ref a), (1, .int x1), (2, .int x2)] [] 4 g) := by
    intro n
    induction n with
    | zero => exact fun g x1 x2 hI hm => absurd hm (Nat.not_lt_zero _)
    | succ n ih =>
      intro g x1 x2 hI hm
      have h := h4 g x1 x2 hI
      clear hI
      unfold bX8_crossings_4 at h
      refine v_iload_n o 2 dX8_crossings_4 rfl ?_
      refine v_aload_n o 0 dX8_crossings_5 rfl ?_
      refine v_gfR o lkX8_7 (by decide) (wfModel_o ha) (wfModel_r1 ha) dX8_crossings_6 ?_
      refine v_iconst o (v := 0) dX8_crossings_9 (by decide) ?_
      refine v_iald o (wfModel_t1 ha) (wfModel_n1 ha) h.1 dX8_crossings_10 ?_
      replace h := h.2
      refine v_icmp_ge o (tgt := 29) dX8_crossings_11 (by decide) (fun c11 => ?_) (fun c11 => ?_)
      · replace h := h.1 c11
        refine v_iload_n o 1 dX8_crossings_29 rfl ?_
        exact v_iret o rfl hr dX8_crossings_30 h
      · replace h := h.2 c11
        refine v_iload_n o 1 dX8_crossings_14 rfl ?_
        refine v_aload_n o 0 dX8_crossings_15 rfl ?_
        refine v_iload_n o 2 dX8_crossings_16 rfl ?_
        refine v_iconst o (v := 1) dX8_crossings_17 (by decide) ?_
        refine v_cVi o [.int x2, .int 1] [.int x1] (fun sz => metX8_of l G P g sz a ha x2 1 _ h) (cwX8_51 o.1.2.2.2.2 (by decide)) ⟨_, _, rfl⟩ (by decide) (wfModel_o ha) rfl (Nat.le_of_ble_eq_true rfl) ⟨Nat.le_of_ble_eq_true rfl, Nat.le_of_ble_eq_true rfl⟩ dX8_crossings_18 rfl (fun r18 g18 h => ?_)
        refine v_iadd o dX8_crossings_21 ?_
        refine v_topi (fun x1_22 ex1_22 => ?_)
        replace h := h x1_22 ex1_22
        refine v_istore_n o (lv' := [(1, .int x1_22), (0, .ref a), (2, .int x2)]) dX8_crossings_22 rfl (by decide) rfl ?_
        obtain ⟨x2_23, ex2_23⟩ : ∃ y : Int32, y = x2 + 1 := ⟨_, rfl⟩
        replace h := h x2_23 ex2_23
        refine v_iinc o (v := x2_23) (lv' := [(2, .int x2_23), (1, .int x1_22), (0, .ref a)]) 2 dX8_crossings_23 rfl (by rw [ex2_23]; rfl) (by decide) rfl ?_
        refine v_goto o (tgt := 4) dX8_crossings_26 (by decide) ?_
        refine v_sub [2, 1, 0] (lv2 := [(0, .ref a), (1, .int x1_22), (2, .int x2_23)]) rfl ?_
        exact ih g18 x1_22 x2_23  h.1 (by have := h.2; omega)
  unfold vX8_crossings at h
  refine v_iconst o (v := 0) dX8_crossings_0 (by decide) ?_
  refine v_istore_n o (lv' := [(1, .int 0), (0, .ref a)]) dX8_crossings_1 rfl (by decide) rfl ?_
  refine v_iconst o (v := 0) dX8_crossings_2 (by decide) ?_
  refine v_istore_n o (lv' := [(2, .int 0), (1, .int 0), (0, .ref a)]) dX8_crossings_3 rfl (by decide) rfl ?_
  refine v_sub [2, 1, 0] (lv2 := [(0, .ref a), (1, .int 0), (2, .int 0)]) rfl ?_
  exact (main (μ4 f 0 0 + 1)) f 0 0  h (Nat.lt_succ_self _)
def WX8_crossings (P : Sk) (f : St) (a : Nat) (K : Int32 → St → Prop) : Prop := ∃ (I4 : St → Int32 → Int32 → Prop) (μ4 : St → Int32 → Int32 → Nat), (vX8_crossings P f a I4 K) ∧ (∀ (g : St) (x1 : Int32) (x2 : Int32) , I4 g x1 x2 → bX8_crossings_4 P a (fun g' z0 z1 => I4 g' z0 z1 ∧ μ4 g' z0 z1 < μ4 g x1 x2) K g x1 x2)
def kX8_crossings (P : Sk) (f : St) (a : Nat) (K : Int32 → St → Prop) : Prop := ∃ bd, StM f (a + 1) 0 bd ∧ Bok bd ∧ K (nI (smL lnW bd.1 bd.1.length)) f
theorem wX8_crossings (P : Sk) (f : St) (a : Nat) (ha : IsModel P a) (K : Int32 → St → Prop) (h : kX8_crossings P f a K) : WX8_crossings P f a K := by
  obtain ⟨bd, hS, hb, hK⟩ := h
  have h6 := hb.1
  have in0 : vp_in 0 160 := vp_nI (i := 0) (by decide) (by decide)
  refine ⟨fun g x1 x2 => g = f ∧ ∃ k, x2 = nI k ∧ k ≤ bd.1.length ∧ x1 = nI (smL lnW bd.1 k), fun g x1 x2 => bd.1.length - x2.toNatClampNeg, ?_, ?_⟩
  · unfold vX8_crossings
    exact ⟨rfl, 0, rfl, Nat.zero_le _, rfl⟩
  · rintro g x1 x2 ⟨rfl, k, rfl, hk, rfl⟩
    unfold bX8_crossings_4
    rw [tn0, hS.1, nI_leI (by omega) (by omega)]
    refine ⟨in0, fun q => ?_, fun q => ?_⟩
    · rw [show k = bd.1.length by omega]
      exact hK
    · refine u8_of (w := 1) (by omega) (by decide) (hS.lf (by omega)).2.1 ?_
      intro z ez y ey
      rw [nI_1] at ey
      rw [nI_add] at ez
      exact ⟨⟨rfl, k + 1, ey, by omega, ez⟩, mu_up ey (by omega) (by omega)⟩

theorem metX8_crossings (l : Launch) (G : Gl) (P : Sk) (f : St) (sz : Nat) (a : Nat) (ha : IsModel P a) (K : Int32 → St → Prop) (h : kX8_crossings P f a K) : Met l yX8_crossings (wU yX8_crossings cX8_crossings 3 (some .int)) rmX8_crossings (PcW G P f sz [.ref a]) (QcI G P sz K) 0 0 (frA P sz) := by
  obtain ⟨I4, μ4, qh, qh4⟩ := wX8_crossings P f a ha K h
  exact mX8_crossings l G P f sz a ha K I4 μ4 qh qh4

def jX8_kinds_29 (P : Sk) (a : Nat) (L4 : St → Int32 → Int32 → Prop) (K : Int32 → St → Prop) (x1 : Int32) (x2 : Int32) (y0 : Int32) (y1 : Int32) (f : St) : Prop :=
  ∀ x1_30 : Int32, x1_30 = y0 + y1 → ∀ x2_31 : Int32, x2_31 = x2 + 1 → L4 f x1_30 x2_31
def bX8_kinds_4 (P : Sk) (a : Nat) (L4 : St → Int32 → Int32 → Prop) (K : Int32 → St → Prop) (f : St) (x1 : Int32) (x2 : Int32) : Prop :=
  vp_in 0 160 ∧ ((f (a + 1) ((0 : Int32)).toNatClampNeg ≤ x2 → K x1 f) ∧ (¬ f (a + 1) ((0 : Int32)).toNatClampNeg ≤ x2 → kX8_firstAlike P f a x2 (fun r17 g17 => (¬ r17 = x2 → jX8_kinds_29 P a L4 K x1 x2 x1 0 g17) ∧ (r17 = x2 → jX8_kinds_29 P a L4 K x1 x2 x1 1 g17))))
def vX8_kinds (P : Sk) (f : St) (a : Nat) (L4 : St → Int32 → Int32 → Prop) (K : Int32 → St → Prop) : Prop :=
  L4 f 0 0
set_option maxRecDepth 20000 in
set_option maxHeartbeats 4000000 in
theorem mX8_kinds (l : Launch) (G : Gl) (P : Sk) (f : St) (sz : Nat) (a : Nat) (ha : IsModel P a) (K : Int32 → St → Prop) (I4 : St → Int32 → Int32 → Prop) (μ4 : St → Int32 → Int32 → Nat) 
  (h : vX8_kinds P f a I4 K)
  (h4 : ∀ (g : St) (x1 : Int32) (x2 : Int32) , I4 g x1 x2 → bX8_kinds_4 P a (fun g' z0 z1 => I4 g' z0 z1 ∧ μ4 g' z0 z1 < μ4 g x1 x2) K g x1 x2) :
  Met l yX8_kinds (wU yX8_kinds cX8_kinds 3 (some .int)) rmX8_kinds (PcW G P f sz [.ref a]) (QcI G P sz K) 0 0 (frA P sz) := by
  refine v_met (own := RX8) [.ref a] (by decide +kernel) rfl (Nat.le_of_ble_eq_true rfl) (fun p e s m args below meth c hsz o hr hnm => ?_)
  refine v_lv (lv2 := [(0, .ref a)]) rfl ?_
  have main : ∀ n : Nat, (∀ (g : St) (x1 : Int32) (x2 : Int32) , I4 g x1 x2 → μ4 g x1 x2 < n → V p l e rmX8_kinds s m args below meth c 3 G (frA P sz) (MQ below (QcI G P sz K) args s 0 0 (frA P sz)) 0 0 P [(0, .ref a), (1, .int x1), (2, .int x2)] [] 4 g) := by
    intro n
    induction n with
    | zero => exact fun g x1 x2 hI hm => absurd hm (Nat.not_lt_zero _)
    | succ n ih =>
      intro g x1 x2 hI hm
      have h := h4 g x1 x2 hI
      clear hI
      have J29 : ∀ (x1_29 : Int32) (x2_29 : Int32) (y0_29 : Int32) (y1_29 : Int32) (g29 : St), jX8_kinds_29 P a (fun g' z0 z1 => I4 g' z0 z1 ∧ μ4 g' z0 z1 < μ4 g x1 x2) K x1_29 x2_29 y0_29 y1_29 g29 → V p l e rmX8_kinds s m args below meth c 3 G (frA P sz) (MQ below (QcI G P sz K) args s 0 0 (frA P sz)) 0 0 P [(0, .ref a), (1, .int x1_29), (2, .int x2_29)] [.int y1_29, .int y0_29] 29 g29 := by
        intro x1_29 x2_29 y0_29 y1_29 g29  h
        unfold jX8_kinds_29 at h
        refine v_iadd o dX8_kinds_29 ?_
        refine v_topi (fun x1_30 ex1_30 => ?_)
        replace h := h x1_30 ex1_30
        refine v_istore_n o (lv' := [(1, .int x1_30), (0, .ref a), (2, .int x2_29)]) dX8_kinds_30 rfl (by decide) rfl ?_
        obtain ⟨x2_31, ex2_31⟩ : ∃ y : Int32, y = x2_29 + 1 := ⟨_, rfl⟩
        replace h := h x2_31 ex2_31
        refine v_iinc o (v := x2_31) (lv' := [(2, .int x2_31), (1, .int x1_30), (0, .ref a)]) 2 dX8_kinds_31 rfl (by rw [ex2_31]; rfl) (by decide) rfl ?_
        refine v_goto o (tgt := 4) dX8_kinds_34 (by decide) ?_
        refine v_sub [2, 1, 0] (lv2 := [(0, .ref a), (1, .int x1_30), (2, .int x2_31)]) rfl ?_
        exact ih g29 x1_30 x2_31  h.1 (by have := h.2; omega)
      unfold bX8_kinds_4 at h
      refine v_iload_n o 2 dX8_kinds_4 rfl ?_
      refine v_aload_n o 0 dX8_kinds_5 rfl ?_
      refine v_gfR o lkX8_7 (by decide) (wfModel_o ha) (wfModel_r1 ha) dX8_kinds_6 ?_
      refine v_iconst o (v := 0) dX8_kinds_9 (by decide) ?_
      refine v_iald o (wfModel_t1 ha) (wfModel_n1 ha) h.1 dX8_kinds_10 ?_
      replace h := h.2
      refine v_icmp_ge o (tgt := 37) dX8_kinds_11 (by decide) (fun c11 => ?_) (fun c11 => ?_)
      · replace h := h.1 c11
        refine v_iload_n o 1 dX8_kinds_37 rfl ?_
        exact v_iret o rfl hr dX8_kinds_38 h
      · replace h := h.2 c11
        refine v_iload_n o 1 dX8_kinds_14 rfl ?_
        refine v_aload_n o 0 dX8_kinds_15 rfl ?_
        refine v_iload_n o 2 dX8_kinds_16 rfl ?_
        refine v_cVi o [.int x2] [.int x1] (fun sz => metX8_firstAlike l G P g sz a ha x2 _ h) (cwX8_223 o.1.2.2.2.2 (by decide)) ⟨_, _, rfl⟩ (by decide) (wfModel_o ha) rfl (Nat.le_of_ble_eq_true rfl) ⟨Nat.le_of_ble_eq_true rfl, Nat.le_of_ble_eq_true rfl⟩ dX8_kinds_17 rfl (fun r17 g17 h => ?_)
        refine v_iload_n o 2 dX8_kinds_20 rfl ?_
        refine v_icmp_ne o (tgt := 28) dX8_kinds_21 (by decide) (fun c21 => ?_) (fun c21 => ?_)
        · replace h := h.1 c21
          refine v_iconst o (v := 0) dX8_kinds_28 (by decide) ?_
          refine v_sub [0, 1, 2] (lv2 := [(0, .ref a), (1, .int x1), (2, .int x2)]) rfl ?_
          exact J29 x1 x2 x1 0 g17  h
        · replace h := h.2 c21
          refine v_iconst o (v := 1) dX8_kinds_24 (by decide) ?_
          refine v_goto o (tgt := 29) dX8_kinds_25 (by decide) ?_
          refine v_sub [0, 1, 2] (lv2 := [(0, .ref a), (1, .int x1), (2, .int x2)]) rfl ?_
          exact J29 x1 x2 x1 1 g17  h
  unfold vX8_kinds at h
  refine v_iconst o (v := 0) dX8_kinds_0 (by decide) ?_
  refine v_istore_n o (lv' := [(1, .int 0), (0, .ref a)]) dX8_kinds_1 rfl (by decide) rfl ?_
  refine v_iconst o (v := 0) dX8_kinds_2 (by decide) ?_
  refine v_istore_n o (lv' := [(2, .int 0), (1, .int 0), (0, .ref a)]) dX8_kinds_3 rfl (by decide) rfl ?_
  refine v_sub [2, 1, 0] (lv2 := [(0, .ref a), (1, .int 0), (2, .int 0)]) rfl ?_
  exact (main (μ4 f 0 0 + 1)) f 0 0  h (Nat.lt_succ_self _)
def WX8_kinds (P : Sk) (f : St) (a : Nat) (K : Int32 → St → Prop) : Prop := ∃ (I4 : St → Int32 → Int32 → Prop) (μ4 : St → Int32 → Int32 → Nat), (vX8_kinds P f a I4 K) ∧ (∀ (g : St) (x1 : Int32) (x2 : Int32) , I4 g x1 x2 → bX8_kinds_4 P a (fun g' z0 z1 => I4 g' z0 z1 ∧ μ4 g' z0 z1 < μ4 g x1 x2) K g x1 x2)
def kX8_kinds (P : Sk) (f : St) (a : Nat) (K : Int32 → St → Prop) : Prop := ∃ bd, StM f (a + 1) 0 bd ∧ Bok bd ∧ LkM f a (nI (kdN bd.1 bd.1.length)) K
theorem wX8_kinds (P : Sk) (f : St) (a : Nat) (ha : IsModel P a) (K : Int32 → St → Prop) (h : kX8_kinds P f a K) : WX8_kinds P f a K := by
  obtain ⟨bd, hS, hb, hK⟩ := h
  have h6 := hb.1
  have in0 : vp_in 0 160 := vp_nI (i := 0) (by decide) (by decide)
  refine ⟨fun g x1 x2 => Sc9 f g a ∧ ∃ k, x2 = nI k ∧ k ≤ bd.1.length ∧ x1 = nI (kdN bd.1 k), fun g x1 x2 => bd.1.length - x2.toNatClampNeg, ?_, ?_⟩
  · unfold vX8_kinds
    exact ⟨Sc9.refl _ _, 0, rfl, Nat.zero_le _, rfl⟩
  · rintro g x1 x2 ⟨s, k, rfl, hk, rfl⟩
    unfold bX8_kinds_4 jX8_kinds_29
    have S := hS.sc9 s
    rw [tn0, S.1, nI_leI (by omega) (by omega)]
    refine ⟨in0, fun q => ?_, fun q => ?_⟩
    · rw [show k = bd.1.length by omega]
      exact hK g s
    · refine ⟨bd, k, rfl, by omega, S, hb, fun g2 s2 => ?_⟩
      have hf := fa_le bd.1 k
      change _ ∧ _
      rw [nI_eq (by omega) (by omega)]
      refine ⟨fun c z ez y ey => ?_, fun c z ez y ey => ?_⟩
      · rw [nI_1] at ey
        refine ⟨⟨s.tr s2, k + 1, ey, by omega, ?_⟩, mu_up ey (by omega) (by omega)⟩
        rw [ez, Int32.add_zero, kdN, if_neg c]
      · rw [nI_1] at ey
        refine ⟨⟨s.tr s2, k + 1, ey, by omega, ?_⟩, mu_up ey (by omega) (by omega)⟩
        rw [ez, nI_1, kdN, if_pos c]

theorem metX8_kinds (l : Launch) (G : Gl) (P : Sk) (f : St) (sz : Nat) (a : Nat) (ha : IsModel P a) (K : Int32 → St → Prop) (h : kX8_kinds P f a K) : Met l yX8_kinds (wU yX8_kinds cX8_kinds 3 (some .int)) rmX8_kinds (PcW G P f sz [.ref a]) (QcI G P sz K) 0 0 (frA P sz) := by
  obtain ⟨I4, μ4, qh, qh4⟩ := wX8_kinds P f a ha K h
  exact mX8_kinds l G P f sz a ha K I4 μ4 qh qh4

def jX8_tellsCount_52 (P : Sk) (a : Nat) (p1 : Int32) (K : Int32 → St → Prop) (f : St) : Prop :=
  kX8_crossings P f a (fun r54 g54 => K (3 * r54) g54)
def vX8_tellsCount (P : Sk) (f : St) (a : Nat) (p1 : Int32) (K : Int32 → St → Prop) : Prop :=
  (p1 = 0 → vp_in 0 160 ∧ (K (f (a + 1) ((0 : Int32)).toNatClampNeg) f)) ∧ (¬ p1 = 0 → (p1 = 1 → kX8_crossings P f a (fun r48 g48 => K r48 g48)) ∧ (¬ p1 = 1 → (p1 = 2 → jX8_tellsCount_52 P a p1 K  f) ∧ (¬ p1 = 2 → (p1 = 3 → jX8_tellsCount_52 P a p1 K  f) ∧ (¬ p1 = 3 → (p1 = 4 → kX8_kinds P f a (fun r60 g60 => K r60 g60)) ∧ (¬ p1 = 4 → (p1 = 5 → vp_in 1 160 ∧ (K (f (a + 1) ((1 : Int32)).toNatClampNeg) f)) ∧ (¬ p1 = 5 → K (f a 3) f))))))
set_option maxRecDepth 20000 in
set_option maxHeartbeats 4000000 in
theorem mX8_tellsCount (l : Launch) (G : Gl) (P : Sk) (f : St) (sz : Nat) (a : Nat) (ha : IsModel P a) (p1 : Int32) (K : Int32 → St → Prop) (h : vX8_tellsCount P f a p1 K)  :
  Met l yX8_tellsCount (wU yX8_tellsCount cX8_tellsCount 2 (some .int)) rmX8_tellsCount (PcW G P f sz [.ref a, .int p1]) (QcI G P sz K) 0 0 (frA P sz) := by
  refine v_met (own := RX8) [.ref a, .int p1] (by decide +kernel) rfl (Nat.le_of_ble_eq_true rfl) (fun p e s m args below meth c hsz o hr hnm => ?_)
  refine v_lv (lv2 := [(0, .ref a), (1, .int p1)]) rfl ?_
  have J52 : ∀ (g52 : St), jX8_tellsCount_52 P a p1 K  g52 → V p l e rmX8_tellsCount s m args below meth c 2 G (frA P sz) (MQ below (QcI G P sz K) args s 0 0 (frA P sz)) 0 0 P [(0, .ref a), (1, .int p1)] [] 52 g52 := by
    intro  g52  h
    unfold jX8_tellsCount_52 at h
    refine v_iconst o (v := 3) dX8_tellsCount_52 (by decide) ?_
    refine v_aload_n o 0 dX8_tellsCount_53 rfl ?_
    refine v_cVi o [] [.int 3] (fun sz => metX8_crossings l G P g52 sz a ha _ h) (cwX8_232 o.1.2.2.2.2 (by decide)) ⟨_, _, rfl⟩ (by decide) (wfModel_o ha) rfl (Nat.le_of_ble_eq_true rfl) ⟨Nat.le_of_ble_eq_true rfl, Nat.le_of_ble_eq_true rfl⟩ dX8_tellsCount_54 rfl (fun r54 g54 h => ?_)
    refine v_imul o dX8_tellsCount_57 ?_
    exact v_iret o rfl hr dX8_tellsCount_58 h
  unfold vX8_tellsCount at h
  refine v_iload_n o 1 dX8_tellsCount_0 rfl ?_
  by_cases c1_0 : p1 = 0
  · replace h := h.1 c1_0
    refine v_tableIn o (off := 39) (tgt := 40) dX8_tellsCount_1 (by rw [c1_0]; decide) (by rw [c1_0]; decide) (by rw [c1_0]; decide) (by decide) ?_
    refine v_aload_n o 0 dX8_tellsCount_40 rfl ?_
    refine v_gfR o lkX8_7 (by decide) (wfModel_o ha) (wfModel_r1 ha) dX8_tellsCount_41 ?_
    refine v_iconst o (v := 0) dX8_tellsCount_44 (by decide) ?_
    refine v_iald o (wfModel_t1 ha) (wfModel_n1 ha) h.1 dX8_tellsCount_45 ?_
    replace h := h.2
    exact v_iret o rfl hr dX8_tellsCount_46 h
  · replace h := h.2 c1_0
    by_cases c1_1 : p1 = 1
    · replace h := h.1 c1_1
      refine v_tableIn o (off := 46) (tgt := 47) dX8_tellsCount_1 (by rw [c1_1]; decide) (by rw [c1_1]; decide) (by rw [c1_1]; decide) (by decide) ?_
      refine v_aload_n o 0 dX8_tellsCount_47 rfl ?_
      refine v_cVi o [] [] (fun sz => metX8_crossings l G P f sz a ha _ h) (cwX8_232 o.1.2.2.2.2 (by decide)) ⟨_, _, rfl⟩ (by decide) (wfModel_o ha) rfl (Nat.le_of_ble_eq_true rfl) ⟨Nat.le_of_ble_eq_true rfl, Nat.le_of_ble_eq_true rfl⟩ dX8_tellsCount_48 rfl (fun r48 g48 h => ?_)
      exact v_iret o rfl hr dX8_tellsCount_51 h
    · replace h := h.2 c1_1
      by_cases c1_2 : p1 = 2
      · replace h := h.1 c1_2
        refine v_tableIn o (off := 51) (tgt := 52) dX8_tellsCount_1 (by rw [c1_2]; decide) (by rw [c1_2]; decide) (by rw [c1_2]; decide) (by decide) ?_
        refine v_sub [0, 1] (lv2 := [(0, .ref a), (1, .int p1)]) rfl ?_
        exact J52  f  h
      · replace h := h.2 c1_2
        by_cases c1_3 : p1 = 3
        · replace h := h.1 c1_3
          refine v_tableIn o (off := 51) (tgt := 52) dX8_tellsCount_1 (by rw [c1_3]; decide) (by rw [c1_3]; decide) (by rw [c1_3]; decide) (by decide) ?_
          refine v_sub [0, 1] (lv2 := [(0, .ref a), (1, .int p1)]) rfl ?_
          exact J52  f  h
        · replace h := h.2 c1_3
          by_cases c1_4 : p1 = 4
          · replace h := h.1 c1_4
            refine v_tableIn o (off := 58) (tgt := 59) dX8_tellsCount_1 (by rw [c1_4]; decide) (by rw [c1_4]; decide) (by rw [c1_4]; decide) (by decide) ?_
            refine v_aload_n o 0 dX8_tellsCount_59 rfl ?_
            refine v_cVi o [] [] (fun sz => metX8_kinds l G P f sz a ha _ h) (cwX8_235 o.1.2.2.2.2 (by decide)) ⟨_, _, rfl⟩ (by decide) (wfModel_o ha) rfl (Nat.le_of_ble_eq_true rfl) ⟨Nat.le_of_ble_eq_true rfl, Nat.le_of_ble_eq_true rfl⟩ dX8_tellsCount_60 rfl (fun r60 g60 h => ?_)
            exact v_iret o rfl hr dX8_tellsCount_63 h
          · replace h := h.2 c1_4
            by_cases c1_5 : p1 = 5
            · replace h := h.1 c1_5
              refine v_tableIn o (off := 63) (tgt := 64) dX8_tellsCount_1 (by rw [c1_5]; decide) (by rw [c1_5]; decide) (by rw [c1_5]; decide) (by decide) ?_
              refine v_aload_n o 0 dX8_tellsCount_64 rfl ?_
              refine v_gfR o lkX8_7 (by decide) (wfModel_o ha) (wfModel_r1 ha) dX8_tellsCount_65 ?_
              refine v_iconst o (v := 1) dX8_tellsCount_68 (by decide) ?_
              refine v_iald o (wfModel_t1 ha) (wfModel_n1 ha) h.1 dX8_tellsCount_69 ?_
              replace h := h.2
              exact v_iret o rfl hr dX8_tellsCount_70 h
            · replace h := h.2 c1_5
              refine v_tableOut o (tgt := 71) dX8_tellsCount_1 (by have q0 := lv_neT c1_0 (a := 0) (by decide); have q1 := lv_neT c1_1 (a := 1) (by decide); have q2 := lv_neT c1_2 (a := 2) (by decide); have q3 := lv_neT c1_3 (a := 3) (by decide); have q4 := lv_neT c1_4 (a := 4) (by decide); have q5 := lv_neT c1_5 (a := 5) (by decide); omega) (by decide) ?_
              refine v_aload_n o 0 dX8_tellsCount_71 rfl ?_
              refine v_gfI o lkX8_48 (by decide) (wfModel_o ha) dX8_tellsCount_72 ?_
              exact v_iret o rfl hr dX8_tellsCount_75 h
abbrev kX8_tellsCount := @vX8_tellsCount
abbrev metX8_tellsCount := @mX8_tellsCount
theorem u8_tellsCount {P : Sk} {f : St} {a what : Nat} {A : Ab} {K : Int32 → St → Prop} (hM : MIs f a A) (hw : what < 7) (hK : LkM f a (nB A what) K) : kX8_tellsCount P f a (nI what) K := by
  show vX8_tellsCount P f a (nI what) K
  unfold vX8_tellsCount jX8_tellsCount_52
  have in0 : vp_in 0 160 := vp_nI (i := 0) (by decide) (by decide)
  have in1 : vp_in 1 160 := vp_nI (i := 1) (by decide) (by decide)
  have S := hM.1
  have hb := hM.bok
  have r := Sc9.refl f a
  have h3 : ∀ n, (3 : Int32) * nI n = nI (3 * n) := fun n => nI_mul 3 n
  unfold nB at hK
  match what, hw, hK with
  | 0, _, hK =>
    refine ⟨fun _ => ⟨in0, ?_⟩, fun q => absurd rfl q⟩
    rw [tn0, show f (a + 1) 0 = nI A.1.1.length from S.1]
    exact hK f r
  | 1, _, hK => exact ⟨fun q => absurd q (by decide), fun _ => ⟨fun _ => ⟨A.1, S, hb, hK f r⟩, fun q => absurd rfl q⟩⟩
  | 2, _, hK =>
    refine ⟨fun q => absurd q (by decide), fun _ => ⟨fun q => absurd q (by decide), fun _ => ⟨fun _ => ⟨A.1, S, hb, ?_⟩, fun q => absurd rfl q⟩⟩⟩
    change K (3 * nI _) f
    rw [h3]
    exact hK f r
  | 3, _, hK =>
    refine ⟨fun q => absurd q (by decide), fun _ => ⟨fun q => absurd q (by decide), fun _ => ⟨fun q => absurd q (by decide), fun _ => ⟨fun _ => ⟨A.1, S, hb, ?_⟩, fun q => absurd rfl q⟩⟩⟩⟩
    change K (3 * nI _) f
    rw [h3]
    exact hK f r
  | 4, _, hK => exact ⟨fun q => absurd q (by decide), fun _ => ⟨fun q => absurd q (by decide), fun _ => ⟨fun q => absurd q (by decide), fun _ => ⟨fun q => absurd q (by decide), fun _ => ⟨fun _ => ⟨A.1, S, hb, hK⟩, fun q => absurd rfl q⟩⟩⟩⟩⟩
  | 5, _, hK =>
    refine ⟨fun q => absurd q (by decide), fun _ => ⟨fun q => absurd q (by decide), fun _ => ⟨fun q => absurd q (by decide), fun _ => ⟨fun q => absurd q (by decide), fun _ => ⟨fun q => absurd q (by decide), fun _ => ⟨fun _ => ⟨in1, ?_⟩, fun q => absurd rfl q⟩⟩⟩⟩⟩⟩
    rw [tn1, show f (a + 1) 1 = A.1.2.1 from S.2.1]
    exact hK f r
  | 6, _, hK =>
    refine ⟨fun q => absurd q (by decide), fun _ => ⟨fun q => absurd q (by decide), fun _ => ⟨fun q => absurd q (by decide), fun _ => ⟨fun q => absurd q (by decide), fun _ => ⟨fun q => absurd q (by decide), fun _ => ⟨fun q => absurd q (by decide), fun _ => ?_⟩⟩⟩⟩⟩⟩
    rw [hM.2.1.1]
    exact hK f r

def vX8_count (P : Sk) (f : St) (a : Nat) (p1 : Int32) (K : Int32 → St → Prop) : Prop :=
  ∀ g2 : St, g2 = setf f a 0 0 → kX8_in P g2 p1 0 6 (fun r9 g9 => (r9 = 0 → kX8_fails P g9 a 1 (fun r25 g25 => K r25 g25)) ∧ (¬ r9 = 0 → kX8_tellsCount P g9 a p1 (fun r17 g17 => K r17 g17)))
set_option maxRecDepth 20000 in
set_option maxHeartbeats 4000000 in
theorem mX8_count (l : Launch) (G : Gl) (P : Sk) (f : St) (sz : Nat) (a : Nat) (ha : IsModel P a) (p1 : Int32) (K : Int32 → St → Prop) (h : vX8_count P f a p1 K)  :
  Met l yX8_count (wU yX8_count cX8_count 2 (some .int)) rmX8_count (PcW G P f sz [.ref a, .int p1]) (QcI G P sz K) 0 0 (frA P sz) := by
  refine v_met (own := RX8) [.ref a, .int p1] (by decide +kernel) rfl (Nat.le_of_ble_eq_true rfl) (fun p e s m args below meth c hsz o hr hnm => ?_)
  refine v_lv (lv2 := [(0, .ref a), (1, .int p1)]) rfl ?_
  unfold vX8_count at h
  refine v_aload_n o 0 dX8_count_0 rfl ?_
  refine v_iconst o (v := 0) dX8_count_1 (by decide) ?_
  refine v_pf o lpX8_40 (wfModel_o ha) ⟨rfl, rfl⟩ dX8_count_2 ?_
  refine v_nmf (fun g2 eg2 => ?_)
  replace h := h g2 eg2
  refine v_iload_n o 1 dX8_count_5 rfl ?_
  refine v_iconst o (v := 0) dX8_count_6 (by decide) ?_
  refine v_bipush o (v := 6) dX8_count_7 (by decide) ?_
  refine v_cSi o [.int p1, .int 0, .int 6] [] (fun sz => metX8_in l G P g2 sz p1 0 6 _ h) (cwX8_44 o.1.2.2.2.2 (by decide)) rfl (Nat.le_of_ble_eq_true rfl) ⟨Nat.le_of_ble_eq_true rfl, Nat.le_of_ble_eq_true rfl⟩ dX8_count_9 rfl (fun r9 g9 h => ?_)
  refine v_if_eq o (tgt := 23) dX8_count_12 (by decide) (fun c12 => ?_) (fun c12 => ?_)
  · replace h := h.1 c12
    refine v_aload_n o 0 dX8_count_23 rfl ?_
    refine v_iconst o (v := 1) dX8_count_24 (by decide) ?_
    refine v_cVi o [.int 1] [] (fun sz => metX8_fails l G P g9 sz a ha 1 _ h) (cwX8_123 o.1.2.2.2.2 (by decide)) ⟨_, _, rfl⟩ (by decide) (wfModel_o ha) rfl (Nat.le_of_ble_eq_true rfl) ⟨Nat.le_of_ble_eq_true rfl, Nat.le_of_ble_eq_true rfl⟩ dX8_count_25 rfl (fun r25 g25 h => ?_)
    exact v_iret o rfl hr dX8_count_28 h
  · replace h := h.2 c12
    refine v_aload_n o 0 dX8_count_15 rfl ?_
    refine v_iload_n o 1 dX8_count_16 rfl ?_
    refine v_cVi o [.int p1] [] (fun sz => metX8_tellsCount l G P g9 sz a ha p1 _ h) (cwX8_238 o.1.2.2.2.2 (by decide)) ⟨_, _, rfl⟩ (by decide) (wfModel_o ha) rfl (Nat.le_of_ble_eq_true rfl) ⟨Nat.le_of_ble_eq_true rfl, Nat.le_of_ble_eq_true rfl⟩ dX8_count_17 rfl (fun r17 g17 h => ?_)
    refine v_goto o (tgt := 28) dX8_count_20 (by decide) ?_
    exact v_iret o rfl hr dX8_count_28 h
abbrev kX8_count := @vX8_count
abbrev metX8_count := @mX8_count
theorem u8_count {P : Sk} {f : St} {a : Nat} {p : Int32} {A : Ab} {K : Int32 → St → Prop} (hM : MIs f a A) (hF : FinM f a (opCount A p) K) : kX8_count P f a p K := by
  show vX8_count P f a p K
  unfold vX8_count
  intro g2 e2
  obtain ⟨M, z, r0⟩ := mi_start hM e2
  unfold opCount at hF
  refine u8_in0 (m := 6) (by decide) (fun c2 => ⟨fun q => absurd q (by decide), fun _ => ?_⟩) (fun c2 => ⟨fun _ => ?_, fun q => absurd rfl q⟩)
  · rw [cif_pos c2] at hF
    have h := u8_tellsCount (P := P) M (what := p.toNatClampNeg) c2.2 (hF.lk M z r0)
    rw [← nI_cl c2.1] at h
    exact h
  · rw [cif_neg c2] at hF
    exact u8_fails (hF.no M r0)

def jX8_whyNot_17 (P : Sk) (a : Nat) (p1 : Int32) (p2 : Int32) (p3 : Int32) (K : Int32 → St → Prop) (y3 : Int32) (f : St) : Prop :=
  kX8_refusesCross P f a p1 p2 y3 (fun r17 g17 => (3 ≤ r17 → kX8_fails P g17 a 1 (fun r35 g35 => K r35 g35)) ∧ (¬ 3 ≤ r17 → K r17 g17))
def vX8_whyNot (P : Sk) (f : St) (a : Nat) (p1 : Int32) (p2 : Int32) (p3 : Int32) (K : Int32 → St → Prop) : Prop :=
  ∀ g2 : St, g2 = setf f a 0 0 → (p3 = 0 → jX8_whyNot_17 P a p1 p2 p3 K 0 g2) ∧ (¬ p3 = 0 → jX8_whyNot_17 P a p1 p2 p3 K 1 g2)
set_option maxRecDepth 20000 in
set_option maxHeartbeats 4000000 in
theorem mX8_whyNot (l : Launch) (G : Gl) (P : Sk) (f : St) (sz : Nat) (a : Nat) (ha : IsModel P a) (p1 : Int32) (p2 : Int32) (p3 : Int32) (K : Int32 → St → Prop) (h : vX8_whyNot P f a p1 p2 p3 K)  :
  Met l yX8_whyNot (wU yX8_whyNot cX8_whyNot 5 (some .int)) rmX8_whyNot (PcW G P f sz [.ref a, .int p1, .int p2, .int p3]) (QcI G P sz K) 0 0 (frA P sz) := by
  refine v_met (own := RX8) [.ref a, .int p1, .int p2, .int p3] (by decide +kernel) rfl (Nat.le_of_ble_eq_true rfl) (fun p e s m args below meth c hsz o hr hnm => ?_)
  refine v_lv (lv2 := [(0, .ref a), (1, .int p1), (2, .int p2), (3, .int p3)]) rfl ?_
  have J17 : ∀ (y3_17 : Int32) (g17 : St), jX8_whyNot_17 P a p1 p2 p3 K y3_17 g17 → V p l e rmX8_whyNot s m args below meth c 5 G (frA P sz) (MQ below (QcI G P sz K) args s 0 0 (frA P sz)) 0 0 P [(0, .ref a), (1, .int p1), (2, .int p2), (3, .int p3)] [.int y3_17, .int p2, .int p1, .ref a] 17 g17 := by
    intro y3_17 g17  h
    unfold jX8_whyNot_17 at h
    refine v_cVi o [.int p1, .int p2, .int y3_17] [] (fun sz => metX8_refusesCross l G P g17 sz a ha p1 p2 y3_17 _ h) (cwX8_136 o.1.2.2.2.2 (by decide)) ⟨_, _, rfl⟩ (by decide) (wfModel_o ha) rfl (Nat.le_of_ble_eq_true rfl) ⟨Nat.le_of_ble_eq_true rfl, Nat.le_of_ble_eq_true rfl⟩ dX8_whyNot_17 rfl (fun r17 g17 h => ?_)
    refine v_istore o (lv' := [(4, .int r17), (0, .ref a), (1, .int p1), (2, .int p2), (3, .int p3)]) dX8_whyNot_20 (by decide) rfl ?_
    refine v_iload o 0 dX8_whyNot_22 rfl ?_
    refine v_iconst o (v := 3) dX8_whyNot_24 (by decide) ?_
    refine v_icmp_ge o (tgt := 33) dX8_whyNot_25 (by decide) (fun c25 => ?_) (fun c25 => ?_)
    · replace h := h.1 c25
      refine v_aload_n o 1 dX8_whyNot_33 rfl ?_
      refine v_iconst o (v := 1) dX8_whyNot_34 (by decide) ?_
      refine v_cVi o [.int 1] [] (fun sz => metX8_fails l G P g17 sz a ha 1 _ h) (cwX8_123 o.1.2.2.2.2 (by decide)) ⟨_, _, rfl⟩ (by decide) (wfModel_o ha) rfl (Nat.le_of_ble_eq_true rfl) ⟨Nat.le_of_ble_eq_true rfl, Nat.le_of_ble_eq_true rfl⟩ dX8_whyNot_35 rfl (fun r35 g35 h => ?_)
      exact v_iret o rfl hr dX8_whyNot_38 h
    · replace h := h.2 c25
      refine v_iload o 0 dX8_whyNot_28 rfl ?_
      refine v_goto o (tgt := 38) dX8_whyNot_30 (by decide) ?_
      exact v_iret o rfl hr dX8_whyNot_38 h
  unfold vX8_whyNot at h
  refine v_aload_n o 0 dX8_whyNot_0 rfl ?_
  refine v_iconst o (v := 0) dX8_whyNot_1 (by decide) ?_
  refine v_pf o lpX8_40 (wfModel_o ha) ⟨rfl, rfl⟩ dX8_whyNot_2 ?_
  refine v_nmf (fun g2 eg2 => ?_)
  replace h := h g2 eg2
  refine v_aload_n o 0 dX8_whyNot_5 rfl ?_
  refine v_iload_n o 1 dX8_whyNot_6 rfl ?_
  refine v_iload_n o 2 dX8_whyNot_7 rfl ?_
  refine v_iload_n o 3 dX8_whyNot_8 rfl ?_
  refine v_if_eq o (tgt := 16) dX8_whyNot_9 (by decide) (fun c9 => ?_) (fun c9 => ?_)
  · replace h := h.1 c9
    refine v_iconst o (v := 0) dX8_whyNot_16 (by decide) ?_
    refine v_sub [0, 1, 2, 3] (lv2 := [(0, .ref a), (1, .int p1), (2, .int p2), (3, .int p3)]) rfl ?_
    exact J17 0 g2  h
  · replace h := h.2 c9
    refine v_iconst o (v := 1) dX8_whyNot_12 (by decide) ?_
    refine v_goto o (tgt := 17) dX8_whyNot_13 (by decide) ?_
    refine v_sub [0, 1, 2, 3] (lv2 := [(0, .ref a), (1, .int p1), (2, .int p2), (3, .int p3)]) rfl ?_
    exact J17 1 g2  h
abbrev kX8_whyNot := @vX8_whyNot
abbrev metX8_whyNot := @mX8_whyNot
theorem u8_whyNot {P : Sk} {f : St} {a r : Nat} {p q : Int32} {A : Ab} {K : Int32 → St → Prop} (hr : r < 2) (hM : MIs f a A) (hF : FinM f a (opWhy A p q r) K) : kX8_whyNot P f a p q (nI r) K := by
  show vX8_whyNot P f a p q (nI r) K
  unfold vX8_whyNot
  intro g2 e2
  obtain ⟨M2, z2, r2⟩ := mi_start hM e2
  have key : jX8_whyNot_17 P a p q (nI r) K (nI r) g2 := by
    unfold jX8_whyNot_17
    refine u8_refusesCross M2.1 M2.bok hr (fun g s _ => ?_)
    have M := M2.scr s.scr
    have z : g a 0 = 0 := by rw [s.2 0 (by omega)]; exact z2
    have r0 : An f g a := MF.trans r2 s.scr.an
    have hv : (rsCross A.1 p q r).1 < 8 := by
      by_cases c : hasB A.1 p ∧ plB (lfP A.1 p) q
      · have := rsCross_v (r := r) c.1 c.2
        omega
      · have := rsCross_n (r := r) c
        omega
    unfold opWhy at hF
    rw [show (3 : Int32) = nI 3 from rfl, nI_leI (by omega) (by omega)]
    refine ⟨fun q3 => ?_, fun q3 => ?_⟩
    · rw [if_neg (by omega)] at hF
      exact u8_fails (hF.no M r0)
    · rw [if_pos (by omega)] at hF
      exact hF.ok M z r0
  match r, hr, key with
  | 0, _, key => exact ⟨fun _ => key, fun q => absurd rfl q⟩
  | 1, _, key => exact ⟨fun q => absurd q (by decide), fun _ => key⟩

def vX8_looseBehind (P : Sk) (f : St) (a : Nat) (p1 : Int32) (p2 : Int32) (K : Int32 → St → Prop) : Prop :=
  kX8_takes P f a p1 (fun g2 => kX8_changes P g2 a p2 (fun g7 => kX8_loosens P g7 a (fun g11 => K (g11 a 9) g11)))
set_option maxRecDepth 20000 in
set_option maxHeartbeats 4000000 in
theorem mX8_looseBehind (l : Launch) (G : Gl) (P : Sk) (f : St) (sz : Nat) (a : Nat) (ha : IsModel P a) (p1 : Int32) (p2 : Int32) (K : Int32 → St → Prop) (h : vX8_looseBehind P f a p1 p2 K)  :
  Met l yX8_looseBehind (wU yX8_looseBehind cX8_looseBehind 3 (some .int)) rmX8_looseBehind (PcW G P f sz [.ref a, .int p1, .int p2]) (QcI G P sz K) 0 0 (frA P sz) := by
  refine v_met (own := RX8) [.ref a, .int p1, .int p2] (by decide +kernel) rfl (Nat.le_of_ble_eq_true rfl) (fun p e s m args below meth c hsz o hr hnm => ?_)
  refine v_lv (lv2 := [(0, .ref a), (1, .int p1), (2, .int p2)]) rfl ?_
  unfold vX8_looseBehind at h
  refine v_aload_n o 0 dX8_looseBehind_0 rfl ?_
  refine v_iload_n o 1 dX8_looseBehind_1 rfl ?_
  refine v_cVv o [.int p1] [] (fun sz => metX8_takes l G P f sz a ha p1 _ h) (cwX8_107 o.1.2.2.2.2 (by decide)) ⟨_, _, rfl⟩ (by decide) (wfModel_o ha) rfl (Nat.le_of_ble_eq_true rfl) ⟨Nat.le_of_ble_eq_true rfl, Nat.le_of_ble_eq_true rfl⟩ dX8_looseBehind_2 rfl (fun g2 h => ?_)
  refine v_aload_n o 0 dX8_looseBehind_5 rfl ?_
  refine v_iload_n o 2 dX8_looseBehind_6 rfl ?_
  refine v_cVv o [.int p2] [] (fun sz => metX8_changes l G P g2 sz a ha p2 _ h) (cwX8_113 o.1.2.2.2.2 (by decide)) ⟨_, _, rfl⟩ (by decide) (wfModel_o ha) rfl (Nat.le_of_ble_eq_true rfl) ⟨Nat.le_of_ble_eq_true rfl, Nat.le_of_ble_eq_true rfl⟩ dX8_looseBehind_7 rfl (fun g7 h => ?_)
  refine v_aload_n o 0 dX8_looseBehind_10 rfl ?_
  refine v_cVv o [] [] (fun sz => metX8_loosens l G P g7 sz a ha _ h) (cwX8_101 o.1.2.2.2.2 (by decide)) ⟨_, _, rfl⟩ (by decide) (wfModel_o ha) rfl (Nat.le_of_ble_eq_true rfl) ⟨Nat.le_of_ble_eq_true rfl, Nat.le_of_ble_eq_true rfl⟩ dX8_looseBehind_11 rfl (fun g11 h => ?_)
  refine v_aload_n o 0 dX8_looseBehind_14 rfl ?_
  refine v_gfI o lkX8_58 (by decide) (wfModel_o ha) dX8_looseBehind_15 ?_
  exact v_iret o rfl hr dX8_looseBehind_18 h
abbrev kX8_looseBehind := @vX8_looseBehind
abbrev metX8_looseBehind := @mX8_looseBehind
theorem u8_looseBehind {P : Sk} {f : St} {a how : Nat} {p : Int32} {bd : Bd} {K : Int32 → St → Prop} (hS : StM f (a + 1) 0 bd) (hb : Bok bd) (hp : hasB bd p) (hh : how < 4) (hK : LkM f a (nI (NF (chg (lfP bd p).1 (lfP bd p).2 how)).length) K) : kX8_looseBehind P f a p (nI how) K := by
  show vX8_looseBehind P f a p (nI how) K
  unfold vX8_looseBehind
  have ho := (hb.has hp).1
  refine u8_take hS hb hp (fun g1 r1 m1 n1 => ?_)
  refine u8_changes m1 ho n1 hh (fun g2 r2 m2 => ?_)
  refine ⟨_, m2, cok_of (wok_chg ho how), fun g r m => ?_⟩
  change K (g a 9) g
  rw [m.1]
  exact hK g ((sc_w r1 (fun j h => h)).tr ((sc_w r2 (fun j h => Or.inl h)).tr (sc_w r (fun j h => Or.inl h))))

def vX8_ifChanged (P : Sk) (f : St) (a : Nat) (p1 : Int32) (p2 : Int32) (K : Int32 → St → Prop) : Prop :=
  ∀ g2 : St, g2 = setf f a 0 0 → kX8_isLoaf P g2 a p1 (fun r7 g7 => (¬ r7 = 0 → kX8_in P g7 p2 0 3 (fun r22 g22 => (r22 = 0 → kX8_fails P g22 a 2 (fun r39 g39 => K r39 g39)) ∧ (¬ r22 = 0 → kX8_looseBehind P g22 a p1 p2 (fun r31 g31 => K r31 g31)))) ∧ (r7 = 0 → kX8_fails P g7 a 1 (fun r15 g15 => K r15 g15)))
set_option maxRecDepth 20000 in
set_option maxHeartbeats 4000000 in
theorem mX8_ifChanged (l : Launch) (G : Gl) (P : Sk) (f : St) (sz : Nat) (a : Nat) (ha : IsModel P a) (p1 : Int32) (p2 : Int32) (K : Int32 → St → Prop) (h : vX8_ifChanged P f a p1 p2 K)  :
  Met l yX8_ifChanged (wU yX8_ifChanged cX8_ifChanged 3 (some .int)) rmX8_ifChanged (PcW G P f sz [.ref a, .int p1, .int p2]) (QcI G P sz K) 0 0 (frA P sz) := by
  refine v_met (own := RX8) [.ref a, .int p1, .int p2] (by decide +kernel) rfl (Nat.le_of_ble_eq_true rfl) (fun p e s m args below meth c hsz o hr hnm => ?_)
  refine v_lv (lv2 := [(0, .ref a), (1, .int p1), (2, .int p2)]) rfl ?_
  unfold vX8_ifChanged at h
  refine v_aload_n o 0 dX8_ifChanged_0 rfl ?_
  refine v_iconst o (v := 0) dX8_ifChanged_1 (by decide) ?_
  refine v_pf o lpX8_40 (wfModel_o ha) ⟨rfl, rfl⟩ dX8_ifChanged_2 ?_
  refine v_nmf (fun g2 eg2 => ?_)
  replace h := h g2 eg2
  refine v_aload_n o 0 dX8_ifChanged_5 rfl ?_
  refine v_iload_n o 1 dX8_ifChanged_6 rfl ?_
  refine v_cVi o [.int p1] [] (fun sz => metX8_isLoaf l G P g2 sz a ha p1 _ h) (cwX8_104 o.1.2.2.2.2 (by decide)) ⟨_, _, rfl⟩ (by decide) (wfModel_o ha) rfl (Nat.le_of_ble_eq_true rfl) ⟨Nat.le_of_ble_eq_true rfl, Nat.le_of_ble_eq_true rfl⟩ dX8_ifChanged_7 rfl (fun r7 g7 h => ?_)
  refine v_if_ne o (tgt := 19) dX8_ifChanged_10 (by decide) (fun c10 => ?_) (fun c10 => ?_)
  · replace h := h.1 c10
    refine v_iload_n o 2 dX8_ifChanged_19 rfl ?_
    refine v_iconst o (v := 0) dX8_ifChanged_20 (by decide) ?_
    refine v_iconst o (v := 3) dX8_ifChanged_21 (by decide) ?_
    refine v_cSi o [.int p2, .int 0, .int 3] [] (fun sz => metX8_in l G P g7 sz p2 0 3 _ h) (cwX8_44 o.1.2.2.2.2 (by decide)) rfl (Nat.le_of_ble_eq_true rfl) ⟨Nat.le_of_ble_eq_true rfl, Nat.le_of_ble_eq_true rfl⟩ dX8_ifChanged_22 rfl (fun r22 g22 h => ?_)
    refine v_if_eq o (tgt := 37) dX8_ifChanged_25 (by decide) (fun c25 => ?_) (fun c25 => ?_)
    · replace h := h.1 c25
      refine v_aload_n o 0 dX8_ifChanged_37 rfl ?_
      refine v_iconst o (v := 2) dX8_ifChanged_38 (by decide) ?_
      refine v_cVi o [.int 2] [] (fun sz => metX8_fails l G P g22 sz a ha 2 _ h) (cwX8_123 o.1.2.2.2.2 (by decide)) ⟨_, _, rfl⟩ (by decide) (wfModel_o ha) rfl (Nat.le_of_ble_eq_true rfl) ⟨Nat.le_of_ble_eq_true rfl, Nat.le_of_ble_eq_true rfl⟩ dX8_ifChanged_39 rfl (fun r39 g39 h => ?_)
      exact v_iret o rfl hr dX8_ifChanged_42 h
    · replace h := h.2 c25
      refine v_aload_n o 0 dX8_ifChanged_28 rfl ?_
      refine v_iload_n o 1 dX8_ifChanged_29 rfl ?_
      refine v_iload_n o 2 dX8_ifChanged_30 rfl ?_
      refine v_cVi o [.int p1, .int p2] [] (fun sz => metX8_looseBehind l G P g22 sz a ha p1 p2 _ h) (cwX8_241 o.1.2.2.2.2 (by decide)) ⟨_, _, rfl⟩ (by decide) (wfModel_o ha) rfl (Nat.le_of_ble_eq_true rfl) ⟨Nat.le_of_ble_eq_true rfl, Nat.le_of_ble_eq_true rfl⟩ dX8_ifChanged_31 rfl (fun r31 g31 h => ?_)
      refine v_goto o (tgt := 42) dX8_ifChanged_34 (by decide) ?_
      exact v_iret o rfl hr dX8_ifChanged_42 h
  · replace h := h.2 c10
    refine v_aload_n o 0 dX8_ifChanged_13 rfl ?_
    refine v_iconst o (v := 1) dX8_ifChanged_14 (by decide) ?_
    refine v_cVi o [.int 1] [] (fun sz => metX8_fails l G P g7 sz a ha 1 _ h) (cwX8_123 o.1.2.2.2.2 (by decide)) ⟨_, _, rfl⟩ (by decide) (wfModel_o ha) rfl (Nat.le_of_ble_eq_true rfl) ⟨Nat.le_of_ble_eq_true rfl, Nat.le_of_ble_eq_true rfl⟩ dX8_ifChanged_15 rfl (fun r15 g15 h => ?_)
    exact v_iret o rfl hr dX8_ifChanged_18 h
abbrev kX8_ifChanged := @vX8_ifChanged
abbrev metX8_ifChanged := @mX8_ifChanged
theorem u8_ifChanged {P : Sk} {f : St} {a : Nat} {p q : Int32} {A : Ab} {K : Int32 → St → Prop} (hM : MIs f a A) (hF : FinM f a (opIfCh A p q) K) : kX8_ifChanged P f a p q K := by
  show vX8_ifChanged P f a p q K
  unfold vX8_ifChanged
  intro g2 e2
  obtain ⟨M, z, r0⟩ := mi_start hM e2
  unfold opIfCh at hF
  refine u8_isLoaf M.1 M.bok (fun c1 => ?_) (fun c1 => ?_)
  · refine ⟨fun _ => ?_, fun q => absurd q (by decide)⟩
    rw [cif_pos c1] at hF
    refine u8_in0 (m := 3) (by decide) (fun c2 => ⟨fun q => absurd q (by decide), fun _ => ?_⟩) (fun c2 => ⟨fun _ => ?_, fun q => absurd rfl q⟩)
    · rw [cif_pos (show in03 q from c2)] at hF
      have h := u8_looseBehind (P := P) M.1 M.bok c1 (how := q.toNatClampNeg) c2.2 (hF.lk M z r0)
      rw [← nI_cl c2.1] at h
      exact h
    · rw [cif_neg (show ¬ in03 q from c2)] at hF
      exact u8_fails (hF.no M r0)
  · refine ⟨fun q => absurd rfl q, fun _ => ?_⟩
    rw [cif_neg c1] at hF
    exact u8_fails (hF.no M r0)

