def jX7_tryPart_84 (P : Sk) (a : Nat) (p1 : Int32) (K : Int32 → St → Prop) (x2 : Int32) (y1 : Int32) (y2 : Int32) (y3 : Int32) (f : St) : Prop :=
  kX7_tryCrossing P f a y1 y2 y3 (fun r84 g84 => K r84 g84)
def vX7_tryPart (P : Sk) (f : St) (a : Nat) (p1 : Int32) (K : Int32 → St → Prop) : Prop :=
  kX4_digitAt P f (a + 1) (p1 + 1) (fun r7 g7 => kX4_signAt P g7 (a + 1) p1 (fun r16 g16 => (r16 = 106 → kX4_digitAt P g16 (a + 1) (p1 + 3) (fun r97 g97 => kX7_tryJoining P g97 a r7 r97 (fun r100 g100 => K r100 g100))) ∧ (¬ r16 = 106 → (r16 = 120 → kX4_placeAt P g16 (a + 1) (p1 + 2) (fun r61 g61 => kX4_signAt P g61 (a + 1) (p1 + 3) (fun r71 g71 => (¬ r71 = 43 → jX7_tryPart_84 P a p1 K r7 r7 r61 0 g71) ∧ (r71 = 43 → jX7_tryPart_84 P a p1 K r7 r7 r61 1 g71)))) ∧ (¬ r16 = 120 → (r16 = 122 → kX7_tryTakingBack P g16 a r7 (fun r106 g106 => K r106 g106)) ∧ (¬ r16 = 122 → kX4_howAt P g16 (a + 1) p1 (fun r117 g117 => kX7_tryChange P g117 a r7 r117 (fun r120 g120 => K r120 g120)))))))
set_option maxRecDepth 20000 in
set_option maxHeartbeats 4000000 in
theorem mX7_tryPart (l : Launch) (G : Gl) (P : Sk) (f : St) (sz : Nat) (a : Nat) (ha : IsComp P a) (p1 : Int32) (K : Int32 → St → Prop) (h : vX7_tryPart P f a p1 K)  :
  Met l yX7_tryPart (wU yX7_tryPart cX7_tryPart 3 (some .int)) rmX7_tryPart (PcW G P f sz [.ref a, .int p1]) (QcI G P sz K) 0 0 (frA P sz) := by
  refine v_met (own := RX7) [.ref a, .int p1] (by decide +kernel) rfl (Nat.le_of_ble_eq_true rfl) (fun p e s m args below meth c hsz o hr hnm => ?_)
  refine v_lv (lv2 := [(0, .ref a), (1, .int p1)]) rfl ?_
  have J84 : ∀ (x2_84 : Int32) (y1_84 : Int32) (y2_84 : Int32) (y3_84 : Int32) (g84 : St), jX7_tryPart_84 P a p1 K x2_84 y1_84 y2_84 y3_84 g84 → V p l e rmX7_tryPart s m args below meth c 3 G (frA P sz) (MQ below (QcI G P sz K) args s 0 0 (frA P sz)) 0 0 P [(0, .ref a), (1, .int p1), (2, .int x2_84)] [.int y3_84, .int y2_84, .int y1_84, .ref a] 84 g84 := by
    intro x2_84 y1_84 y2_84 y3_84 g84  h
    unfold jX7_tryPart_84 at h
    refine v_cVi o [.int y1_84, .int y2_84, .int y3_84] [] (fun sz => metX7_tryCrossing l G P g84 sz a ha y1_84 y2_84 y3_84 _ h) (cwX7_114 o.1.2.2.2.2 (by decide)) ⟨_, _, rfl⟩ (by decide) (wfComp_o ha) rfl (Nat.le_of_ble_eq_true rfl) ⟨Nat.le_of_ble_eq_true rfl, Nat.le_of_ble_eq_true rfl⟩ dX7_tryPart_84 rfl (fun r84 g84 h => ?_)
    exact v_iret o rfl hr dX7_tryPart_87 h
  unfold vX7_tryPart at h
  refine v_aload_n o 0 dX7_tryPart_0 rfl ?_
  refine v_gfR o lkX7_10 (by decide) (wfComp_o ha) (wfComp_r0 ha) dX7_tryPart_1 ?_
  refine v_iload_n o 1 dX7_tryPart_4 rfl ?_
  refine v_iconst o (v := 1) dX7_tryPart_5 (by decide) ?_
  refine v_iadd o dX7_tryPart_6 ?_
  refine v_cVi o [.int (p1 + 1)] [] (fun sz => metX4_digitAt l G P f sz (a + 1) (wfComp_t0 ha) (p1 + 1) _ h) (cwX7_289 o.1.2.2.2.2 (by decide)) ⟨_, _, rfl⟩ (by decide) (wfText_o (wfComp_t0 ha)) rfl (Nat.le_of_ble_eq_true rfl) ⟨Nat.le_of_ble_eq_true rfl, Nat.le_of_ble_eq_true rfl⟩ dX7_tryPart_7 rfl (fun r7 g7 h => ?_)
  refine v_istore_n o (lv' := [(2, .int r7), (0, .ref a), (1, .int p1)]) dX7_tryPart_10 rfl (by decide) rfl ?_
  refine v_aload_n o 1 dX7_tryPart_11 rfl ?_
  refine v_gfR o lkX7_10 (by decide) (wfComp_o ha) (wfComp_r0 ha) dX7_tryPart_12 ?_
  refine v_iload_n o 2 dX7_tryPart_15 rfl ?_
  refine v_cVi o [.int p1] [] (fun sz => metX4_signAt l G P g7 sz (a + 1) (wfComp_t0 ha) p1 _ h) (cwX7_246 o.1.2.2.2.2 (by decide)) ⟨_, _, rfl⟩ (by decide) (wfText_o (wfComp_t0 ha)) rfl (Nat.le_of_ble_eq_true rfl) ⟨Nat.le_of_ble_eq_true rfl, Nat.le_of_ble_eq_true rfl⟩ dX7_tryPart_16 rfl (fun r16 g16 h => ?_)
  by_cases c19_106 : r16 = 106
  · replace h := h.1 c19_106
    refine v_lookup o (off := 69) (tgt := 88) dX7_tryPart_19 (by decide) (by rw [c19_106]; decide) (by decide) ?_
    refine v_aload_n o 1 dX7_tryPart_88 rfl ?_
    refine v_iload_n o 0 dX7_tryPart_89 rfl ?_
    refine v_aload_n o 1 dX7_tryPart_90 rfl ?_
    refine v_gfR o lkX7_10 (by decide) (wfComp_o ha) (wfComp_r0 ha) dX7_tryPart_91 ?_
    refine v_iload_n o 2 dX7_tryPart_94 rfl ?_
    refine v_iconst o (v := 3) dX7_tryPart_95 (by decide) ?_
    refine v_iadd o dX7_tryPart_96 ?_
    refine v_cVi o [.int (p1 + 3)] [.int r7, .ref a] (fun sz => metX4_digitAt l G P g16 sz (a + 1) (wfComp_t0 ha) (p1 + 3) _ h) (cwX7_289 o.1.2.2.2.2 (by decide)) ⟨_, _, rfl⟩ (by decide) (wfText_o (wfComp_t0 ha)) rfl (Nat.le_of_ble_eq_true rfl) ⟨Nat.le_of_ble_eq_true rfl, Nat.le_of_ble_eq_true rfl⟩ dX7_tryPart_97 rfl (fun r97 g97 h => ?_)
    refine v_cVi o [.int r7, .int r97] [] (fun sz => metX7_tryJoining l G P g97 sz a ha r7 r97 _ h) (cwX7_147 o.1.2.2.2.2 (by decide)) ⟨_, _, rfl⟩ (by decide) (wfComp_o ha) rfl (Nat.le_of_ble_eq_true rfl) ⟨Nat.le_of_ble_eq_true rfl, Nat.le_of_ble_eq_true rfl⟩ dX7_tryPart_100 rfl (fun r100 g100 h => ?_)
    exact v_iret o rfl hr dX7_tryPart_103 h
  · replace h := h.2 c19_106
    by_cases c19_120 : r16 = 120
    · replace h := h.1 c19_120
      refine v_lookup o (off := 33) (tgt := 52) dX7_tryPart_19 (by decide) (by rw [c19_120]; decide) (by decide) ?_
      refine v_aload_n o 1 dX7_tryPart_52 rfl ?_
      refine v_iload_n o 0 dX7_tryPart_53 rfl ?_
      refine v_aload_n o 1 dX7_tryPart_54 rfl ?_
      refine v_gfR o lkX7_10 (by decide) (wfComp_o ha) (wfComp_r0 ha) dX7_tryPart_55 ?_
      refine v_iload_n o 2 dX7_tryPart_58 rfl ?_
      refine v_iconst o (v := 2) dX7_tryPart_59 (by decide) ?_
      refine v_iadd o dX7_tryPart_60 ?_
      refine v_cVi o [.int (p1 + 2)] [.int r7, .ref a] (fun sz => metX4_placeAt l G P g16 sz (a + 1) (wfComp_t0 ha) (p1 + 2) _ h) (cwX7_292 o.1.2.2.2.2 (by decide)) ⟨_, _, rfl⟩ (by decide) (wfText_o (wfComp_t0 ha)) rfl (Nat.le_of_ble_eq_true rfl) ⟨Nat.le_of_ble_eq_true rfl, Nat.le_of_ble_eq_true rfl⟩ dX7_tryPart_61 rfl (fun r61 g61 h => ?_)
      refine v_aload_n o 1 dX7_tryPart_64 rfl ?_
      refine v_gfR o lkX7_10 (by decide) (wfComp_o ha) (wfComp_r0 ha) dX7_tryPart_65 ?_
      refine v_iload_n o 2 dX7_tryPart_68 rfl ?_
      refine v_iconst o (v := 3) dX7_tryPart_69 (by decide) ?_
      refine v_iadd o dX7_tryPart_70 ?_
      refine v_cVi o [.int (p1 + 3)] [.int r61, .int r7, .ref a] (fun sz => metX4_signAt l G P g61 sz (a + 1) (wfComp_t0 ha) (p1 + 3) _ h) (cwX7_246 o.1.2.2.2.2 (by decide)) ⟨_, _, rfl⟩ (by decide) (wfText_o (wfComp_t0 ha)) rfl (Nat.le_of_ble_eq_true rfl) ⟨Nat.le_of_ble_eq_true rfl, Nat.le_of_ble_eq_true rfl⟩ dX7_tryPart_71 rfl (fun r71 g71 h => ?_)
      refine v_bipush o (v := 43) dX7_tryPart_74 (by decide) ?_
      refine v_icmp_ne o (tgt := 83) dX7_tryPart_76 (by decide) (fun c76 => ?_) (fun c76 => ?_)
      · replace h := h.1 c76
        refine v_iconst o (v := 0) dX7_tryPart_83 (by decide) ?_
        refine v_sub [1, 2, 0] (lv2 := [(0, .ref a), (1, .int p1), (2, .int r7)]) rfl ?_
        exact J84 r7 r7 r61 0 g71  h
      · replace h := h.2 c76
        refine v_iconst o (v := 1) dX7_tryPart_79 (by decide) ?_
        refine v_goto o (tgt := 84) dX7_tryPart_80 (by decide) ?_
        refine v_sub [1, 2, 0] (lv2 := [(0, .ref a), (1, .int p1), (2, .int r7)]) rfl ?_
        exact J84 r7 r7 r61 1 g71  h
    · replace h := h.2 c19_120
      by_cases c19_122 : r16 = 122
      · replace h := h.1 c19_122
        refine v_lookup o (off := 85) (tgt := 104) dX7_tryPart_19 (by decide) (by rw [c19_122]; decide) (by decide) ?_
        refine v_aload_n o 1 dX7_tryPart_104 rfl ?_
        refine v_iload_n o 0 dX7_tryPart_105 rfl ?_
        refine v_cVi o [.int r7] [] (fun sz => metX7_tryTakingBack l G P g16 sz a ha r7 _ h) (cwX7_134 o.1.2.2.2.2 (by decide)) ⟨_, _, rfl⟩ (by decide) (wfComp_o ha) rfl (Nat.le_of_ble_eq_true rfl) ⟨Nat.le_of_ble_eq_true rfl, Nat.le_of_ble_eq_true rfl⟩ dX7_tryPart_106 rfl (fun r106 g106 h => ?_)
        exact v_iret o rfl hr dX7_tryPart_109 h
      · replace h := h.2 c19_122
        refine v_lookup o (off := 91) (tgt := 110) dX7_tryPart_19 (by decide) (by show Op.lookupswitch.offset [(106, 69), (120, 33), (122, 85)] _ _ = _; rw [lv_osw c19_106 (by decide), lv_osw c19_120 (by decide), lv_osw c19_122 (by decide)]; rfl) (by decide) ?_
        refine v_aload_n o 1 dX7_tryPart_110 rfl ?_
        refine v_iload_n o 0 dX7_tryPart_111 rfl ?_
        refine v_aload_n o 1 dX7_tryPart_112 rfl ?_
        refine v_gfR o lkX7_10 (by decide) (wfComp_o ha) (wfComp_r0 ha) dX7_tryPart_113 ?_
        refine v_iload_n o 2 dX7_tryPart_116 rfl ?_
        refine v_cVi o [.int p1] [.int r7, .ref a] (fun sz => metX4_howAt l G P g16 sz (a + 1) (wfComp_t0 ha) p1 _ h) (cwX7_295 o.1.2.2.2.2 (by decide)) ⟨_, _, rfl⟩ (by decide) (wfText_o (wfComp_t0 ha)) rfl (Nat.le_of_ble_eq_true rfl) ⟨Nat.le_of_ble_eq_true rfl, Nat.le_of_ble_eq_true rfl⟩ dX7_tryPart_117 rfl (fun r117 g117 h => ?_)
        refine v_cVi o [.int r7, .int r117] [] (fun sz => metX7_tryChange l G P g117 sz a ha r7 r117 _ h) (cwX7_140 o.1.2.2.2.2 (by decide)) ⟨_, _, rfl⟩ (by decide) (wfComp_o ha) rfl (Nat.le_of_ble_eq_true rfl) ⟨Nat.le_of_ble_eq_true rfl, Nat.le_of_ble_eq_true rfl⟩ dX7_tryPart_120 rfl (fun r120 g120 h => ?_)
        exact v_iret o rfl hr dX7_tryPart_123 h
abbrev kX7_tryPart := @vX7_tryPart
abbrev metX7_tryPart := @mX7_tryPart
theorem stF_8 (c : Nat) : stF 8 c = 8 := rfl
theorem stB_8 (b : List Nat) (k : Nat) (h : stB b k = 8) : ∀ m, stB b (k + m) = 8
  | 0 => h
  | m + 1 => by
    show stF (stB b (k + m)) _ = 8
    rw [stB_8 b k h m]
    rfl
theorem stB_ok {b : List Nat} (h : stB b b.length = 7) {k : Nat} (hk : k ≤ b.length) : stB b k ≠ 8 := by
  intro q
  have := stB_8 b k q (b.length - k)
  rw [show k + (b.length - k) = b.length by omega, h] at this
  exact absurd this (by decide)
theorem st_ite {p : Prop} [Decidable p] {s : Nat} (h : (if p then s else 8) ≠ 8) : p ∧ (if p then s else 8) = s := by
  by_cases c : p
  · exact ⟨c, if_pos c⟩
  · rw [if_neg c] at h
    exact absurd rfl h
/-- a whole part stands at a place -/
def PartT (b : List Nat) (s : Nat) : Prop := s + 1 < b.length ∧ 48 ≤ b.getD (s + 1) 0 ∧ b.getD (s + 1) 0 ≤ 53 ∧ s + psz (b.getD s 0) ≤ b.length ∧ stB b (s + psz (b.getD s 0)) = 7 ∧ ((b.getD s 0 = 106 ∧ 48 ≤ b.getD (s + 3) 0 ∧ b.getD (s + 3) 0 ≤ 53) ∨ (b.getD s 0 = 120 ∧ 97 ≤ b.getD (s + 2) 0 ∧ b.getD (s + 2) 0 ≤ 102 ∧ (b.getD (s + 3) 0 = 43 ∨ b.getD (s + 3) 0 = 45)) ∨ b.getD s 0 = 122 ∨ b.getD s 0 = 108 ∨ b.getD s 0 = 109 ∨ b.getD s 0 = 114 ∨ b.getD s 0 = 116)
theorem partT {b : List Nat} (h : stB b b.length = 7) {s : Nat} (hs : s < b.length) (h0 : stB b s = 0) : PartT b s := by
  have ok : ∀ k, k ≤ b.length → stB b k ≠ 8 := fun k hk => stB_ok h hk
  have nx : ∀ k, stB b (k + 1) = stF (stB b k) (b.getD k 0) := fun k => rfl
  have ne : ∀ k, k ≤ b.length → stB b k ≠ 7 → k < b.length := fun k hk q => by
    rcases Nat.lt_or_ge k b.length with c | c
    · exact c
    · rw [show k = b.length by omega, h] at q
      exact absurd rfl q
  have n1 := nx s
  rw [h0] at n1
  have e1 : stF 0 (b.getD s 0) = if b.getD s 0 = 106 then 5 else if b.getD s 0 = 108 ∨ b.getD s 0 = 109 ∨ b.getD s 0 = 114 ∨ b.getD s 0 = 116 ∨ b.getD s 0 = 122 then 1 else if b.getD s 0 = 120 then 2 else 8 := rfl
  rw [e1] at n1
  have o1 := ok (s + 1) (by omega)
  by_cases c1 : b.getD s 0 = 106
  · rw [if_pos c1] at n1
    have l1 := ne (s + 1) (by omega) (by omega)
    have n2 := nx (s + 1)
    rw [n1] at n2
    have o2 := ok (s + 2) (by omega)
    have e2 : stF 5 (b.getD (s + 1) 0) = if 48 ≤ b.getD (s + 1) 0 ∧ b.getD (s + 1) 0 ≤ 53 then 6 else 8 := rfl
    rw [show s + 1 + 1 = s + 2 by omega, e2] at n2
    rw [n2] at o2
    obtain ⟨d2, v2⟩ := st_ite o2
    rw [v2] at n2
    have l2 := ne (s + 2) (by omega) (by omega)
    have n3 := nx (s + 2)
    rw [n2] at n3
    have o3 := ok (s + 3) (by omega)
    have e3 : stF 6 (b.getD (s + 2) 0) = if b.getD (s + 2) 0 = 47 then 1 else 8 := rfl
    rw [show s + 2 + 1 = s + 3 by omega, e3] at n3
    rw [n3] at o3
    obtain ⟨d3, v3⟩ := st_ite o3
    rw [v3] at n3
    have l3 := ne (s + 3) (by omega) (by omega)
    have n4 := nx (s + 3)
    rw [n3] at n4
    have o4 := ok (s + 4) (by omega)
    have e4 : stF 1 (b.getD (s + 3) 0) = if 48 ≤ b.getD (s + 3) 0 ∧ b.getD (s + 3) 0 ≤ 53 then 7 else 8 := rfl
    rw [show s + 3 + 1 = s + 4 by omega, e4] at n4
    rw [n4] at o4
    obtain ⟨d4, v4⟩ := st_ite o4
    rw [v4] at n4
    have ep : psz (b.getD s 0) = 4 := by
      unfold psz
      rw [if_pos (Or.inr c1)]
    unfold PartT
    rw [ep]
    exact ⟨by omega, d2.1, d2.2, by omega, n4, Or.inl ⟨c1, d4.1, d4.2⟩⟩
  · rw [if_neg c1] at n1
    by_cases c2 : b.getD s 0 = 108 ∨ b.getD s 0 = 109 ∨ b.getD s 0 = 114 ∨ b.getD s 0 = 116 ∨ b.getD s 0 = 122
    · rw [if_pos c2] at n1
      have l1 := ne (s + 1) (by omega) (by omega)
      have n2 := nx (s + 1)
      rw [n1] at n2
      have o2 := ok (s + 2) (by omega)
      have e2 : stF 1 (b.getD (s + 1) 0) = if 48 ≤ b.getD (s + 1) 0 ∧ b.getD (s + 1) 0 ≤ 53 then 7 else 8 := rfl
      rw [show s + 1 + 1 = s + 2 by omega, e2] at n2
      rw [n2] at o2
      obtain ⟨d2, v2⟩ := st_ite o2
      rw [v2] at n2
      have ep : psz (b.getD s 0) = 2 := by
        unfold psz
        rw [if_neg (by omega)]
      unfold PartT
      rw [ep]
      exact ⟨by omega, d2.1, d2.2, by omega, n2, by omega⟩
    · rw [if_neg c2] at n1
      rw [n1] at o1
      obtain ⟨d1, v1⟩ := st_ite o1
      rw [v1] at n1
      have l1 := ne (s + 1) (by omega) (by omega)
      have n2 := nx (s + 1)
      rw [n1] at n2
      have o2 := ok (s + 2) (by omega)
      have e2 : stF 2 (b.getD (s + 1) 0) = if 48 ≤ b.getD (s + 1) 0 ∧ b.getD (s + 1) 0 ≤ 53 then 3 else 8 := rfl
      rw [show s + 1 + 1 = s + 2 by omega, e2] at n2
      rw [n2] at o2
      obtain ⟨d2, v2⟩ := st_ite o2
      rw [v2] at n2
      have l2 := ne (s + 2) (by omega) (by omega)
      have n3 := nx (s + 2)
      rw [n2] at n3
      have o3 := ok (s + 3) (by omega)
      have e3 : stF 3 (b.getD (s + 2) 0) = if 97 ≤ b.getD (s + 2) 0 ∧ b.getD (s + 2) 0 ≤ 102 then 4 else 8 := rfl
      rw [show s + 2 + 1 = s + 3 by omega, e3] at n3
      rw [n3] at o3
      obtain ⟨d3, v3⟩ := st_ite o3
      rw [v3] at n3
      have l3 := ne (s + 3) (by omega) (by omega)
      have n4 := nx (s + 3)
      rw [n3] at n4
      have o4 := ok (s + 4) (by omega)
      have e4 : stF 4 (b.getD (s + 3) 0) = if b.getD (s + 3) 0 = 43 ∨ b.getD (s + 3) 0 = 45 then 7 else 8 := rfl
      rw [show s + 3 + 1 = s + 4 by omega, e4] at n4
      rw [n4] at o4
      obtain ⟨d4, v4⟩ := st_ite o4
      rw [v4] at n4
      have ep : psz (b.getD s 0) = 4 := by
        unfold psz
        rw [if_pos (Or.inl d1)]
      unfold PartT
      rw [ep]
      exact ⟨by omega, d2.1, d2.2, by omega, n4, Or.inr (Or.inl ⟨d1, d3.1, d3.2, d4⟩)⟩
/-- behind a part: the end, or ";" and the next part -/
theorem part_nx {b : List Nat} (h : stB b b.length = 7) {s : Nat} (hP : PartT b s) : s + psz (b.getD s 0) = b.length ∨ (s + psz (b.getD s 0) + 1 < b.length ∧ b.getD (s + psz (b.getD s 0)) 0 = 59 ∧ stB b (s + psz (b.getD s 0) + 1) = 0) := by
  obtain ⟨-, -, -, h4, h5, -⟩ := hP
  generalize s + psz (b.getD s 0) = e at *
  by_cases c : e = b.length
  · exact Or.inl c
  · refine Or.inr ?_
    have n1 : stB b (e + 1) = stF (stB b e) (b.getD e 0) := rfl
    have o1 := stB_ok h (k := e + 1) (by omega)
    have e1 : stF 7 (b.getD e 0) = if b.getD e 0 = 59 then 0 else 8 := rfl
    rw [h5, e1] at n1
    rw [n1] at o1
    obtain ⟨d1, v1⟩ := st_ite o1
    rw [v1] at n1
    refine ⟨?_, d1, n1⟩
    rcases Nat.lt_or_ge (e + 1) b.length with c2 | c2
    · exact c2
    · rw [show e + 1 = b.length by omega, h] at n1
      exact absurd n1 (by decide)
def hwN (c : Nat) : Nat := if c = 108 then 3 else if c = 109 then 0 else if c = 114 then 2 else 1
theorem hwI_n {c : Nat} (h : c = 108 ∨ c = 109 ∨ c = 114 ∨ c = 116) : hwI c = nI (hwN c) := by
  rcases h with rfl | rfl | rfl | rfl <;> rfl
noncomputable def prR (bd : Bd) (b : List Nat) (s : Nat) : Nat × Lf :=
  if b.getD s 0 = 106 then rsJoin bd (nI (b.getD (s + 1) 0 - 48)) (nI (b.getD (s + 3) 0 - 48))
  else if b.getD s 0 = 120 then rsCross bd (nI (b.getD (s + 1) 0 - 48)) (nI (b.getD (s + 2) 0 - 97)) (if b.getD (s + 3) 0 = 43 then 1 else 0)
  else if b.getD s 0 = 122 then rsBack bd (nI (b.getD (s + 1) 0 - 48))
  else rsChange bd (nI (b.getD (s + 1) 0 - 48)) (hwN (b.getD s 0))
noncomputable def prB (bd : Bd) (b : List Nat) (s : Nat) : Bd :=
  if b.getD s 0 = 106 ∨ b.getD s 0 = 120 ∨ b.getD s 0 = 122 then putL bd (nI (b.getD (s + 1) 0 - 48)) (prR bd b s).2 else adC (putL bd (nI (b.getD (s + 1) 0 - 48)) (prR bd b s).2)
theorem prR_ok {bd : Bd} {b : List Nat} {s : Nat} (h : Bok bd) (h0 : (prR bd b s).1 = 0) : hasB bd (nI (b.getD (s + 1) 0 - 48)) ∧ Lok (prR bd b s).2 := by
  unfold prR at h0 ⊢
  split at h0
  · rename_i c1
    rw [if_pos c1]
    have := rsJoin_ok h h0
    exact ⟨this.1, this.2.2.2⟩
  · rename_i c1
    rw [if_neg c1]
    split at h0
    · rename_i c2
      rw [if_pos c2]
      have := rsCross_ok h (by split <;> omega) h0
      exact ⟨this.1, this.2.2.2.2⟩
    · rename_i c2
      rw [if_neg c2]
      split at h0
      · rename_i c3
        rw [if_pos c3]
        have := rsBack_ok h h0
        exact ⟨this.1, this.2.2.2⟩
      · rename_i c3
        rw [if_neg c3]
        have := rsChange_ok h h0
        exact ⟨this.1, this.2.2⟩
theorem prR_lt (bd : Bd) (b : List Nat) (s : Nat) : (prR bd b s).1 < 8 := by
  unfold prR
  split
  · rcases rsJoin_v (bd := bd) (p := nI (b.getD (s + 1) 0 - 48)) (q := nI (b.getD (s + 3) 0 - 48)) with k | k
    · omega
    · exact k.2.2
  · split
    · by_cases c : hasB bd (nI (b.getD (s + 1) 0 - 48)) ∧ plB (lfP bd (nI (b.getD (s + 1) 0 - 48))) (nI (b.getD (s + 2) 0 - 97))
      · have := rsCross_v (r := if b.getD (s + 3) 0 = 43 then 1 else 0) c.1 c.2
        omega
      · have := rsCross_n (r := if b.getD (s + 3) 0 = 43 then 1 else 0) c
        omega
    · split
      · rcases rsBack_v (bd := bd) (p := nI (b.getD (s + 1) 0 - 48)) with k | k <;> omega
      · by_cases c : hasB bd (nI (b.getD (s + 1) 0 - 48))
        · have := rsChange_v (how := hwN (b.getD s 0)) c
          omega
        · unfold rsChange
          rw [cif_neg c]
          show 3 < 8
          omega
theorem u4_digitAt {P : Sk} {f : St} {a i : Nat} {b : List Nat} {K : Int32 → St → Prop} (ha : IsText P a) (hT : TextIs f a b) (hb : Tok b) (hi : i < b.length) (h48 : 48 ≤ b.getD i 0) (hK : K (nI (b.getD i 0 - 48)) f) : kX4_digitAt P f a (nI i) K := by
  show vX4_digitAt P f a (nI i) K
  unfold vX4_digitAt
  refine u4_signAt ha hT hb hi ?_
  rw [show (48 : Int32) = nI 48 from rfl, pk_sub h48]
  exact hK
theorem u7_tryPart {P : Sk} {f : St} {x s : Nat} {A : Ab} {K : Int32 → St → Prop} (hx : IsComp P x) (hC : CompIs f x A) (hP : PartT A.2.2.2 s) (hK : TryK f x K (prR A.1 A.2.2.2 s)) : kX7_tryPart P f x (nI s) K := by
  show vX7_tryPart P f x (nI s) K
  unfold vX7_tryPart
  have hT := hC.1
  have hb := hC.2.2.2.2.1
  have hbl := hb.1
  have ht := wfComp_t0 hx
  obtain ⟨p1, p2, p3, p4, p5, p6⟩ := hP
  unfold prR at hK
  generalize A.2.2.2 = b at *
  have hc := hb.at (i := s) (by omega)
  rw [nI_1]
  refine u4_digitAt ht hT hb p1 p2 ?_
  refine u4_signAt ht hT hb (by omega) ?_
  have w : ∀ k, k < 2 ^ 31 → (nI (b.getD s 0) = nI k ↔ b.getD s 0 = k) := fun k hk => nI_eq (by omega) hk
  change _ ∧ _
  rw [show (106 : Int32) = nI 106 from rfl, show (120 : Int32) = nI 120 from rfl, show (122 : Int32) = nI 122 from rfl, w 106 (by decide), w 120 (by decide), w 122 (by decide)]
  have z4 : b.getD s 0 = 106 ∨ b.getD s 0 = 120 → psz (b.getD s 0) = 4 := by
    intro q
    unfold psz
    rw [if_pos (by omega)]
  refine ⟨fun c1 => ?_, fun c1 => ⟨fun c2 => ?_, fun c2 => ⟨fun c3 => ?_, fun c3 => ?_⟩⟩⟩
  · rw [if_pos c1] at hK
    have := z4 (Or.inl c1)
    rw [show (3 : Int32) = nI 3 from rfl, nI_add]
    exact u4_digitAt ht hT hb (by omega) (by omega) (u7_tryJoining hx hC hK)
  · rw [if_neg c1, if_pos c2] at hK
    have := z4 (Or.inr c2)
    rw [show (3 : Int32) = nI 3 from rfl, show (2 : Int32) = nI 2 from rfl, nI_add, nI_add]
    show vX4_placeAt P f (x + 1) (nI (s + 2)) _
    unfold vX4_placeAt
    refine u4_signAt ht hT hb (by omega) ?_
    rw [show (97 : Int32) = nI 97 from rfl, pk_sub (by omega)]
    have hc3 := hb.at (i := s + 3) (by omega)
    refine u4_signAt ht hT hb (by omega) ?_
    change _ ∧ _
    rw [show (43 : Int32) = nI 43 from rfl, nI_eq (by omega) (by omega)]
    unfold jX7_tryPart_84
    refine ⟨fun q => ?_, fun q => ?_⟩
    · rw [if_neg q] at hK
      exact u7_tryCrossing hx hC (by decide) hK
    · rw [if_pos q] at hK
      exact u7_tryCrossing hx hC (by decide) hK
  · rw [if_neg c1, if_neg c2, if_pos c3] at hK
    exact u7_tryTakingBack hx hC hK
  · rw [if_neg c1, if_neg c2, if_neg c3] at hK
    refine u4_howAt ht hT hb (by omega) ?_
    rw [hwI_n (by omega)]
    refine u7_tryChange hx hC ?_ hK
    unfold hwN
    split
    · omega
    · split
      · omega
      · split <;> omega

def vX7_doTriedPart (P : Sk) (f : St) (a : Nat) (p1 : Int32) (K : St → Prop) : Prop :=
  kX4_digitAt P f (a + 1) (p1 + 1) (fun r11 g11 => kX2_copyFrom P g11 (atB (a + 4) r11) (a + 1410) (fun g21 => kX4_howAt P g21 (a + 1) p1 (fun r29 g29 => (r29 = (-1) → K g29) ∧ (¬ r29 = (-1) → kX0_addChange P g29 (a + 4) (fun g40 => K g40)))))
set_option maxRecDepth 20000 in
set_option maxHeartbeats 4000000 in
theorem mX7_doTriedPart (l : Launch) (G : Gl) (P : Sk) (f : St) (sz : Nat) (a : Nat) (ha : IsComp P a) (p1 : Int32) (K : St → Prop) (h : vX7_doTriedPart P f a p1 K)  :
  Met l yX7_doTriedPart (wU yX7_doTriedPart cX7_doTriedPart 2 none) rmX7_doTriedPart (PcW G P f sz [.ref a, .int p1]) (QcV G P sz K) 0 0 (frA P sz) := by
  refine v_met (own := RX7) [.ref a, .int p1] (by decide +kernel) rfl (Nat.le_of_ble_eq_true rfl) (fun p e s m args below meth c hsz o hr hnm => ?_)
  refine v_lv (lv2 := [(0, .ref a), (1, .int p1)]) rfl ?_
  unfold vX7_doTriedPart at h
  refine v_aload_n o 0 dX7_doTriedPart_0 rfl ?_
  refine v_gfR o lkX7_19 (by decide) (wfComp_o ha) (wfComp_r1 ha) dX7_doTriedPart_1 ?_
  refine v_aload_n o 0 dX7_doTriedPart_4 rfl ?_
  refine v_gfR o lkX7_10 (by decide) (wfComp_o ha) (wfComp_r0 ha) dX7_doTriedPart_5 ?_
  refine v_iload_n o 1 dX7_doTriedPart_8 rfl ?_
  refine v_iconst o (v := 1) dX7_doTriedPart_9 (by decide) ?_
  refine v_iadd o dX7_doTriedPart_10 ?_
  refine v_cVi o [.int (p1 + 1)] [.ref (a + 4)] (fun sz => metX4_digitAt l G P f sz (a + 1) (wfComp_t0 ha) (p1 + 1) _ h) (cwX7_289 o.1.2.2.2.2 (by decide)) ⟨_, _, rfl⟩ (by decide) (wfText_o (wfComp_t0 ha)) rfl (Nat.le_of_ble_eq_true rfl) ⟨Nat.le_of_ble_eq_true rfl, Nat.le_of_ble_eq_true rfl⟩ dX7_doTriedPart_11 rfl (fun r11 g11 h => ?_)
  refine v_cVr o [.int r11] [] (fun sz => metX0_at l G P g11 sz (a + 4) (wfComp_t1 ha) r11) (cwX7_102 o.1.2.2.2.2 (by decide)) ⟨_, _, rfl⟩ (by decide) (wfBoard_o (wfComp_t1 ha)) rfl (Nat.le_of_ble_eq_true rfl) ⟨Nat.le_of_ble_eq_true rfl, Nat.le_of_ble_eq_true rfl⟩ dX7_doTriedPart_14 rfl (fun r14 g14 h14 => ?_)
  obtain ⟨rfl, rfl⟩ := h14
  refine v_aload_n o 0 dX7_doTriedPart_17 rfl ?_
  refine v_gfR o lkX7_40 (by decide) (wfComp_o ha) (wfComp_r5 ha) dX7_doTriedPart_18 ?_
  refine v_cVv o [.ref (a + 1410)] [] (fun sz => metX2_copyFrom l G P g11 sz (atB (a + 4) r11) (is_atB (wfComp_t1 ha) r11) (a + 1410) (wfComp_t5 ha) _ h) (cwX7_121 o.1.2.2.2.2 (by decide)) ⟨_, _, rfl⟩ (by decide) (wfLoaf_o (is_atB (wfComp_t1 ha) r11)) rfl (Nat.le_of_ble_eq_true rfl) ⟨Nat.le_of_ble_eq_true rfl, Nat.le_of_ble_eq_true rfl⟩ dX7_doTriedPart_21 rfl (fun g21 h => ?_)
  refine v_aload_n o 0 dX7_doTriedPart_24 rfl ?_
  refine v_gfR o lkX7_10 (by decide) (wfComp_o ha) (wfComp_r0 ha) dX7_doTriedPart_25 ?_
  refine v_iload_n o 1 dX7_doTriedPart_28 rfl ?_
  refine v_cVi o [.int p1] [] (fun sz => metX4_howAt l G P g21 sz (a + 1) (wfComp_t0 ha) p1 _ h) (cwX7_295 o.1.2.2.2.2 (by decide)) ⟨_, _, rfl⟩ (by decide) (wfText_o (wfComp_t0 ha)) rfl (Nat.le_of_ble_eq_true rfl) ⟨Nat.le_of_ble_eq_true rfl, Nat.le_of_ble_eq_true rfl⟩ dX7_doTriedPart_29 rfl (fun r29 g29 h => ?_)
  refine v_iconst o (v := (-1)) dX7_doTriedPart_32 (by decide) ?_
  refine v_icmp_eq o (tgt := 43) dX7_doTriedPart_33 (by decide) (fun c33 => ?_) (fun c33 => ?_)
  · replace h := h.1 c33
    exact v_vret o rfl hr dX7_doTriedPart_43 h
  · replace h := h.2 c33
    refine v_aload_n o 0 dX7_doTriedPart_36 rfl ?_
    refine v_gfR o lkX7_19 (by decide) (wfComp_o ha) (wfComp_r1 ha) dX7_doTriedPart_37 ?_
    refine v_cVv o [] [] (fun sz => metX0_addChange l G P g29 sz (a + 4) (wfComp_t1 ha) _ h) (cwX7_144 o.1.2.2.2.2 (by decide)) ⟨_, _, rfl⟩ (by decide) (wfBoard_o (wfComp_t1 ha)) rfl (Nat.le_of_ble_eq_true rfl) ⟨Nat.le_of_ble_eq_true rfl, Nat.le_of_ble_eq_true rfl⟩ dX7_doTriedPart_40 rfl (fun g40 h => ?_)
    exact v_vret o rfl hr dX7_doTriedPart_43 h
abbrev kX7_doTriedPart := @vX7_doTriedPart
abbrev metX7_doTriedPart := @mX7_doTriedPart
theorem u7_doTriedPart {P : Sk} {f : St} {x s : Nat} {A : Ab} {K : St → Prop} (hx : IsComp P x) (hC : CompIs f x A) (hP : PartT A.2.2.2 s) (h0 : (prR A.1 A.2.2.2 s).1 = 0) (hL : LoafIs f (x + 1410) (prR A.1 A.2.2.2 s).2) (hK : ∀ g, Fr f g (x + 4) (x + 160) → CompIs g x (prB A.1 A.2.2.2 s, A.2) → K g) : kX7_doTriedPart P f x (nI s) K := by
  show vX7_doTriedPart P f x (nI s) K
  unfold vX7_doTriedPart
  have h6 := hC.2.2.2.2.2.1
  have hb := hC.2.2.2.2.1
  have hbl := hb.1
  have ht := wfComp_t0 hx
  have hy := prR_ok h6 h0
  have hP2 := hP
  obtain ⟨p1, p2, p3, p4, p5, p6⟩ := hP2
  rw [nI_1]
  refine u4_digitAt ht hC.1 hb p1 p2 ?_
  refine c_put hx hC hy.1 hL hy.2 (fun g r hC2 _ => ?_)
  refine u4_howAt (b := A.2.2.2) ht hC2.1 hb (by omega) ?_
  change _ ∧ _
  unfold prB at hK
  by_cases c : A.2.2.2.getD s 0 = 106 ∨ A.2.2.2.getD s 0 = 120 ∨ A.2.2.2.getD s 0 = 122
  · rw [if_pos c] at hK
    have e : hwI (A.2.2.2.getD s 0) = -1 := by
      rcases c with c | c | c <;> rw [c] <;> rfl
    rw [e]
    exact ⟨fun _ => hK g r hC2, fun q => absurd rfl q⟩
  · rw [if_neg c] at hK
    have e : hwI (A.2.2.2.getD s 0) ≠ -1 := by
      have : A.2.2.2.getD s 0 = 108 ∨ A.2.2.2.getD s 0 = 109 ∨ A.2.2.2.getD s 0 = 114 ∨ A.2.2.2.getD s 0 = 116 := by omega
      rcases this with c | c | c | c <;> rw [c] <;> decide
    exact ⟨fun q => absurd q e, fun _ => c_addC hC2 (fun g2 r2 hC3 => hK g2 (r.trans (r2.mono (by omega) (by omega))) hC3)⟩

def jX7_work_115 (P : Sk) (a : Nat) (L40 : St → Int32 → Int32 → Int32 → Int32 → Prop) (K : Int32 → St → Prop) (X : String → St → Prop) (x1 : Int32) (x2 : Int32) (x3 : Int32) (x4 : Int32) (y1 : Int32) (y2 : Int32) (f : St) : Prop :=
  kX0_setStop P f (a + 4) y1 y2 (fun g115 => kX4_clear P g115 (a + 1) (fun g122 => K x1 g122))
def jX7_work_106 (P : Sk) (a : Nat) (L40 : St → Int32 → Int32 → Int32 → Int32 → Prop) (K : Int32 → St → Prop) (X : String → St → Prop) (x1 : Int32) (x2 : Int32) (x3 : Int32) (x4 : Int32) (y1 : Int32) (f : St) : Prop :=
  (¬ x2 = 0 → jX7_work_115 P a L40 K X x1 x2 x3 x4 y1 x2 f) ∧ (x2 = 0 → jX7_work_115 P a L40 K X x1 x2 x3 x4 y1 (-1) f)
def jX7_work_93 (P : Sk) (a : Nat) (L40 : St → Int32 → Int32 → Int32 → Int32 → Prop) (K : Int32 → St → Prop) (X : String → St → Prop) (x1 : Int32) (x2 : Int32) (x3 : Int32) (x4 : Int32) (f : St) : Prop :=
  (¬ x2 = 0 → jX7_work_106 P a L40 K X x1 x2 x3 x4 x1 f) ∧ (x2 = 0 → jX7_work_106 P a L40 K X x1 x2 x3 x4 (-1) f)
def jX7_work_74 (P : Sk) (a : Nat) (L40 : St → Int32 → Int32 → Int32 → Int32 → Prop) (K : Int32 → St → Prop) (X : String → St → Prop) (x1 : Int32) (x2 : Int32) (x3 : Int32) (x4 : Int32) (f : St) : Prop :=
  kX4_partSize P f (a + 1) x3 (fun r80 g80 => ∀ x3_86 : Int32, x3_86 = x3 + (r80 + 1) → ∀ x4_87 : Int32, x4_87 = x4 + 1 → L40 g80 x1 x2 x3_86 x4_87)
def bX7_work_40 (P : Sk) (a : Nat) (L40 : St → Int32 → Int32 → Int32 → Int32 → Prop) (K : Int32 → St → Prop) (X : String → St → Prop) (f : St) (x1 : Int32) (x2 : Int32) (x3 : Int32) (x4 : Int32) : Prop :=
  kX4_parts P f (a + 1) (fun r46 g46 => (r46 ≤ x4 → jX7_work_93 P a L40 K X x1 x2 x3 x4 g46) ∧ (¬ r46 ≤ x4 → (¬ x2 = 0 → jX7_work_93 P a L40 K X x1 x2 x3 x4 g46) ∧ (x2 = 0 → kX7_tryPart P g46 a x3 (fun r58 g58 => (¬ r58 = 0 → jX7_work_74 P a L40 K X x1 r58 x3 x4 g58) ∧ (r58 = 0 → kX7_doTriedPart P g58 a x3 (fun g68 => ∀ x1_71 : Int32, x1_71 = x1 + 1 → jX7_work_74 P a L40 K X x1_71 r58 x3 x4 g68))))))
def vX7_work (P : Sk) (f : St) (a : Nat) (L40 : St → Int32 → Int32 → Int32 → Int32 → Prop) (K : Int32 → St → Prop) (X : String → St → Prop) : Prop :=
  kX4_isWorks P f (a + 1) (fun r4 g4 => (¬ r4 = 0 → kX1_save P g4 (a + 160) (a + 4) (fun g28 => L40 g28 0 0 0 0)) ∧ (r4 = 0 → X "java/lang/IllegalArgumentException" g4))
set_option maxRecDepth 20000 in
set_option maxHeartbeats 4000000 in
theorem mX7_work (l : Launch) (G : Gl) (P : Sk) (f : St) (sz : Nat) (a : Nat) (ha : IsComp P a) (K : Int32 → St → Prop) (I40 : St → Int32 → Int32 → Int32 → Int32 → Prop) (μ40 : St → Int32 → Int32 → Int32 → Int32 → Nat) 
  (h : vX7_work P f a I40 K XF)
  (h40 : ∀ (g : St) (x1 : Int32) (x2 : Int32) (x3 : Int32) (x4 : Int32) , I40 g x1 x2 x3 x4 → bX7_work_40 P a (fun g' z0 z1 z2 z3 => I40 g' z0 z1 z2 z3 ∧ μ40 g' z0 z1 z2 z3 < μ40 g x1 x2 x3 x4) K XF g x1 x2 x3 x4) :
  Met l yX7_work (wU yX7_work cX7_work 5 (some .int)) rmX7_work (PcW G P f sz [.ref a]) (QcI G P sz K) 0 0 (frA P sz) := by
  refine v_met (own := RX7) [.ref a] (by decide +kernel) rfl (Nat.le_of_ble_eq_true rfl) (fun p e s m args below meth c hsz o hr hnm => ?_)
  refine v_lv (lv2 := [(0, .ref a)]) rfl ?_
  have main : ∀ n : Nat, (∀ (g : St) (x1 : Int32) (x2 : Int32) (x3 : Int32) (x4 : Int32) , I40 g x1 x2 x3 x4 → μ40 g x1 x2 x3 x4 < n → V p l e rmX7_work s m args below meth c 5 G (frA P sz) (MQ below (QcI G P sz K) args s 0 0 (frA P sz)) 0 0 P [(0, .ref a), (1, .int x1), (2, .int x2), (3, .int x3), (4, .int x4)] [] 40 g) := by
    intro n
    induction n with
    | zero => exact fun g x1 x2 x3 x4 hI hm => absurd hm (Nat.not_lt_zero _)
    | succ n ih =>
      intro g x1 x2 x3 x4 hI hm
      have h := h40 g x1 x2 x3 x4 hI
      clear hI
      have J115 : ∀ (x1_115 : Int32) (x2_115 : Int32) (x3_115 : Int32) (x4_115 : Int32) (y1_115 : Int32) (y2_115 : Int32) (g115 : St), jX7_work_115 P a (fun g' z0 z1 z2 z3 => I40 g' z0 z1 z2 z3 ∧ μ40 g' z0 z1 z2 z3 < μ40 g x1 x2 x3 x4) K XF x1_115 x2_115 x3_115 x4_115 y1_115 y2_115 g115 → V p l e rmX7_work s m args below meth c 5 G (frA P sz) (MQ below (QcI G P sz K) args s 0 0 (frA P sz)) 0 0 P [(0, .ref a), (1, .int x1_115), (2, .int x2_115), (3, .int x3_115), (4, .int x4_115)] [.int y2_115, .int y1_115, .ref (a + 4)] 115 g115 := by
        intro x1_115 x2_115 x3_115 x4_115 y1_115 y2_115 g115  h
        unfold jX7_work_115 at h
        refine v_cVv o [.int y1_115, .int y2_115] [] (fun sz => metX0_setStop l G P g115 sz (a + 4) (wfComp_t1 ha) y1_115 y2_115 _ h) (cwX7_181 o.1.2.2.2.2 (by decide)) ⟨_, _, rfl⟩ (by decide) (wfBoard_o (wfComp_t1 ha)) rfl (Nat.le_of_ble_eq_true rfl) ⟨Nat.le_of_ble_eq_true rfl, Nat.le_of_ble_eq_true rfl⟩ dX7_work_115 rfl (fun g115 h => ?_)
        refine v_aload_n o 0 dX7_work_118 rfl ?_
        refine v_gfR o lkX7_10 (by decide) (wfComp_o ha) (wfComp_r0 ha) dX7_work_119 ?_
        refine v_cVv o [] [] (fun sz => metX4_clear l G P g115 sz (a + 1) (wfComp_t0 ha) _ h) (cwX7_95 o.1.2.2.2.2 (by decide)) ⟨_, _, rfl⟩ (by decide) (wfText_o (wfComp_t0 ha)) rfl (Nat.le_of_ble_eq_true rfl) ⟨Nat.le_of_ble_eq_true rfl, Nat.le_of_ble_eq_true rfl⟩ dX7_work_122 rfl (fun g122 h => ?_)
        refine v_iload_n o 1 dX7_work_125 rfl ?_
        exact v_iret o rfl hr dX7_work_126 h
      have J106 : ∀ (x1_106 : Int32) (x2_106 : Int32) (x3_106 : Int32) (x4_106 : Int32) (y1_106 : Int32) (g106 : St), jX7_work_106 P a (fun g' z0 z1 z2 z3 => I40 g' z0 z1 z2 z3 ∧ μ40 g' z0 z1 z2 z3 < μ40 g x1 x2 x3 x4) K XF x1_106 x2_106 x3_106 x4_106 y1_106 g106 → V p l e rmX7_work s m args below meth c 5 G (frA P sz) (MQ below (QcI G P sz K) args s 0 0 (frA P sz)) 0 0 P [(0, .ref a), (1, .int x1_106), (2, .int x2_106), (3, .int x3_106), (4, .int x4_106)] [.int y1_106, .ref (a + 4)] 106 g106 := by
        intro x1_106 x2_106 x3_106 x4_106 y1_106 g106  h
        unfold jX7_work_106 at h
        refine v_iload_n o 2 dX7_work_106 rfl ?_
        refine v_if_ne o (tgt := 114) dX7_work_107 (by decide) (fun c107 => ?_) (fun c107 => ?_)
        · replace h := h.1 c107
          refine v_iload_n o 2 dX7_work_114 rfl ?_
          refine v_sub [0, 1, 2, 3, 4] (lv2 := [(0, .ref a), (1, .int x1_106), (2, .int x2_106), (3, .int x3_106), (4, .int x4_106)]) rfl ?_
          exact J115 x1_106 x2_106 x3_106 x4_106 y1_106 x2_106 g106  h
        · replace h := h.2 c107
          refine v_iconst o (v := (-1)) dX7_work_110 (by decide) ?_
          refine v_goto o (tgt := 115) dX7_work_111 (by decide) ?_
          refine v_sub [0, 1, 2, 3, 4] (lv2 := [(0, .ref a), (1, .int x1_106), (2, .int x2_106), (3, .int x3_106), (4, .int x4_106)]) rfl ?_
          exact J115 x1_106 x2_106 x3_106 x4_106 y1_106 (-1) g106  h
      have J93 : ∀ (x1_93 : Int32) (x2_93 : Int32) (x3_93 : Int32) (x4_93 : Int32) (g93 : St), jX7_work_93 P a (fun g' z0 z1 z2 z3 => I40 g' z0 z1 z2 z3 ∧ μ40 g' z0 z1 z2 z3 < μ40 g x1 x2 x3 x4) K XF x1_93 x2_93 x3_93 x4_93 g93 → V p l e rmX7_work s m args below meth c 5 G (frA P sz) (MQ below (QcI G P sz K) args s 0 0 (frA P sz)) 0 0 P [(0, .ref a), (1, .int x1_93), (2, .int x2_93), (3, .int x3_93), (4, .int x4_93)] [] 93 g93 := by
        intro x1_93 x2_93 x3_93 x4_93 g93  h
        unfold jX7_work_93 at h
        refine v_aload_n o 0 dX7_work_93 rfl ?_
        refine v_gfR o lkX7_19 (by decide) (wfComp_o ha) (wfComp_r1 ha) dX7_work_94 ?_
        refine v_iload_n o 2 dX7_work_97 rfl ?_
        refine v_if_ne o (tgt := 105) dX7_work_98 (by decide) (fun c98 => ?_) (fun c98 => ?_)
        · replace h := h.1 c98
          refine v_iload_n o 1 dX7_work_105 rfl ?_
          refine v_sub [0, 1, 2, 3, 4] (lv2 := [(0, .ref a), (1, .int x1_93), (2, .int x2_93), (3, .int x3_93), (4, .int x4_93)]) rfl ?_
          exact J106 x1_93 x2_93 x3_93 x4_93 x1_93 g93  h
        · replace h := h.2 c98
          refine v_iconst o (v := (-1)) dX7_work_101 (by decide) ?_
          refine v_goto o (tgt := 106) dX7_work_102 (by decide) ?_
          refine v_sub [0, 1, 2, 3, 4] (lv2 := [(0, .ref a), (1, .int x1_93), (2, .int x2_93), (3, .int x3_93), (4, .int x4_93)]) rfl ?_
          exact J106 x1_93 x2_93 x3_93 x4_93 (-1) g93  h
      have J74 : ∀ (x1_74 : Int32) (x2_74 : Int32) (x3_74 : Int32) (x4_74 : Int32) (g74 : St), jX7_work_74 P a (fun g' z0 z1 z2 z3 => I40 g' z0 z1 z2 z3 ∧ μ40 g' z0 z1 z2 z3 < μ40 g x1 x2 x3 x4) K XF x1_74 x2_74 x3_74 x4_74 g74 → V p l e rmX7_work s m args below meth c 5 G (frA P sz) (MQ below (QcI G P sz K) args s 0 0 (frA P sz)) 0 0 P [(0, .ref a), (1, .int x1_74), (2, .int x2_74), (3, .int x3_74), (4, .int x4_74)] [] 74 g74 := by
        intro x1_74 x2_74 x3_74 x4_74 g74  h
        unfold jX7_work_74 at h
        refine v_iload_n o 3 dX7_work_74 rfl ?_
        refine v_aload_n o 0 dX7_work_75 rfl ?_
        refine v_gfR o lkX7_10 (by decide) (wfComp_o ha) (wfComp_r0 ha) dX7_work_76 ?_
        refine v_iload_n o 3 dX7_work_79 rfl ?_
        refine v_cVi o [.int x3_74] [.int x3_74] (fun sz => metX4_partSize l G P g74 sz (a + 1) (wfComp_t0 ha) x3_74 _ h) (cwX7_178 o.1.2.2.2.2 (by decide)) ⟨_, _, rfl⟩ (by decide) (wfText_o (wfComp_t0 ha)) rfl (Nat.le_of_ble_eq_true rfl) ⟨Nat.le_of_ble_eq_true rfl, Nat.le_of_ble_eq_true rfl⟩ dX7_work_80 rfl (fun r80 g80 h => ?_)
        refine v_iconst o (v := 1) dX7_work_83 (by decide) ?_
        refine v_iadd o dX7_work_84 ?_
        refine v_iadd o dX7_work_85 ?_
        refine v_topi (fun x3_86 ex3_86 => ?_)
        replace h := h x3_86 ex3_86
        refine v_istore_n o (lv' := [(3, .int x3_86), (0, .ref a), (1, .int x1_74), (2, .int x2_74), (4, .int x4_74)]) dX7_work_86 rfl (by decide) rfl ?_
        obtain ⟨x4_87, ex4_87⟩ : ∃ y : Int32, y = x4_74 + 1 := ⟨_, rfl⟩
        replace h := h x4_87 ex4_87
        refine v_iinc o (v := x4_87) (lv' := [(4, .int x4_87), (3, .int x3_86), (0, .ref a), (1, .int x1_74), (2, .int x2_74)]) 4 dX7_work_87 rfl (by rw [ex4_87]; rfl) (by decide) rfl ?_
        refine v_goto o (tgt := 40) dX7_work_90 (by decide) ?_
        refine v_sub [2, 3, 4, 1, 0] (lv2 := [(0, .ref a), (1, .int x1_74), (2, .int x2_74), (3, .int x3_86), (4, .int x4_87)]) rfl ?_
        exact ih g80 x1_74 x2_74 x3_86 x4_87  h.1 (by have := h.2; omega)
      unfold bX7_work_40 at h
      refine v_iload o 4 dX7_work_40 rfl ?_
      refine v_aload_n o 0 dX7_work_42 rfl ?_
      refine v_gfR o lkX7_10 (by decide) (wfComp_o ha) (wfComp_r0 ha) dX7_work_43 ?_
      refine v_cVi o [] [.int x4] (fun sz => metX4_parts l G P g sz (a + 1) (wfComp_t0 ha) _ h) (cwX7_169 o.1.2.2.2.2 (by decide)) ⟨_, _, rfl⟩ (by decide) (wfText_o (wfComp_t0 ha)) rfl (Nat.le_of_ble_eq_true rfl) ⟨Nat.le_of_ble_eq_true rfl, Nat.le_of_ble_eq_true rfl⟩ dX7_work_46 rfl (fun r46 g46 h => ?_)
      refine v_icmp_ge o (tgt := 93) dX7_work_49 (by decide) (fun c49 => ?_) (fun c49 => ?_)
      · replace h := h.1 c49
        refine v_sub [0, 1, 2, 3, 4] (lv2 := [(0, .ref a), (1, .int x1), (2, .int x2), (3, .int x3), (4, .int x4)]) rfl ?_
        exact J93 x1 x2 x3 x4 g46  h
      · replace h := h.2 c49
        refine v_iload_n o 2 dX7_work_52 rfl ?_
        refine v_if_ne o (tgt := 93) dX7_work_53 (by decide) (fun c53 => ?_) (fun c53 => ?_)
        · replace h := h.1 c53
          refine v_sub [0, 1, 2, 3, 4] (lv2 := [(0, .ref a), (1, .int x1), (2, .int x2), (3, .int x3), (4, .int x4)]) rfl ?_
          exact J93 x1 x2 x3 x4 g46  h
        · replace h := h.2 c53
          refine v_aload_n o 0 dX7_work_56 rfl ?_
          refine v_iload_n o 3 dX7_work_57 rfl ?_
          refine v_cVi o [.int x3] [] (fun sz => metX7_tryPart l G P g46 sz a ha x3 _ h) (cwX7_172 o.1.2.2.2.2 (by decide)) ⟨_, _, rfl⟩ (by decide) (wfComp_o ha) rfl (Nat.le_of_ble_eq_true rfl) ⟨Nat.le_of_ble_eq_true rfl, Nat.le_of_ble_eq_true rfl⟩ dX7_work_58 rfl (fun r58 g58 h => ?_)
          refine v_istore_n o (lv' := [(2, .int r58), (0, .ref a), (1, .int x1), (3, .int x3), (4, .int x4)]) dX7_work_61 rfl (by decide) rfl ?_
          refine v_iload_n o 0 dX7_work_62 rfl ?_
          refine v_if_ne o (tgt := 74) dX7_work_63 (by decide) (fun c63 => ?_) (fun c63 => ?_)
          · replace h := h.1 c63
            refine v_sub [1, 2, 0, 3, 4] (lv2 := [(0, .ref a), (1, .int x1), (2, .int r58), (3, .int x3), (4, .int x4)]) rfl ?_
            exact J74 x1 r58 x3 x4 g58  h
          · replace h := h.2 c63
            refine v_aload_n o 1 dX7_work_66 rfl ?_
            refine v_iload_n o 3 dX7_work_67 rfl ?_
            refine v_cVv o [.int x3] [] (fun sz => metX7_doTriedPart l G P g58 sz a ha x3 _ h) (cwX7_175 o.1.2.2.2.2 (by decide)) ⟨_, _, rfl⟩ (by decide) (wfComp_o ha) rfl (Nat.le_of_ble_eq_true rfl) ⟨Nat.le_of_ble_eq_true rfl, Nat.le_of_ble_eq_true rfl⟩ dX7_work_68 rfl (fun g68 h => ?_)
            obtain ⟨x1_71, ex1_71⟩ : ∃ y : Int32, y = x1 + 1 := ⟨_, rfl⟩
            replace h := h x1_71 ex1_71
            refine v_iinc o (v := x1_71) (lv' := [(1, .int x1_71), (2, .int r58), (0, .ref a), (3, .int x3), (4, .int x4)]) 2 dX7_work_71 rfl (by rw [ex1_71]; rfl) (by decide) rfl ?_
            refine v_sub [2, 0, 1, 3, 4] (lv2 := [(0, .ref a), (1, .int x1_71), (2, .int r58), (3, .int x3), (4, .int x4)]) rfl ?_
            exact J74 x1_71 r58 x3 x4 g68  h
  unfold vX7_work at h
  refine v_aload_n o 0 dX7_work_0 rfl ?_
  refine v_gfR o lkX7_10 (by decide) (wfComp_o ha) (wfComp_r0 ha) dX7_work_1 ?_
  refine v_cVi o [] [] (fun sz => metX4_isWorks l G P f sz (a + 1) (wfComp_t0 ha) _ h) (cwX7_164 o.1.2.2.2.2 (by decide)) ⟨_, _, rfl⟩ (by decide) (wfText_o (wfComp_t0 ha)) rfl (Nat.le_of_ble_eq_true rfl) ⟨Nat.le_of_ble_eq_true rfl, Nat.le_of_ble_eq_true rfl⟩ dX7_work_4 rfl (fun r4 g4 h => ?_)
  refine v_if_ne o (tgt := 20) dX7_work_7 (by decide) (fun c7 => ?_) (fun c7 => ?_)
  · replace h := h.1 c7
    refine v_aload_n o 0 dX7_work_20 rfl ?_
    refine v_gfR o lkX7_26 (by decide) (wfComp_o ha) (wfComp_r2 ha) dX7_work_21 ?_
    refine v_aload_n o 0 dX7_work_24 rfl ?_
    refine v_gfR o lkX7_19 (by decide) (wfComp_o ha) (wfComp_r1 ha) dX7_work_25 ?_
    refine v_cVv o [.ref (a + 4)] [] (fun sz => metX1_save l G P g4 sz (a + 160) (wfComp_t2 ha) (a + 4) (wfComp_t1 ha) _ h) (cwX7_87 o.1.2.2.2.2 (by decide)) ⟨_, _, rfl⟩ (by decide) (wfHist_o (wfComp_t2 ha)) rfl (Nat.le_of_ble_eq_true rfl) ⟨Nat.le_of_ble_eq_true rfl, Nat.le_of_ble_eq_true rfl⟩ dX7_work_28 rfl (fun g28 h => ?_)
    refine v_iconst o (v := 0) dX7_work_31 (by decide) ?_
    refine v_istore_n o (lv' := [(1, .int 0), (0, .ref a)]) dX7_work_32 rfl (by decide) rfl ?_
    refine v_iconst o (v := 0) dX7_work_33 (by decide) ?_
    refine v_istore_n o (lv' := [(2, .int 0), (1, .int 0), (0, .ref a)]) dX7_work_34 rfl (by decide) rfl ?_
    refine v_iconst o (v := 0) dX7_work_35 (by decide) ?_
    refine v_istore_n o (lv' := [(3, .int 0), (2, .int 0), (1, .int 0), (0, .ref a)]) dX7_work_36 rfl (by decide) rfl ?_
    refine v_iconst o (v := 0) dX7_work_37 (by decide) ?_
    refine v_istore o (lv' := [(4, .int 0), (3, .int 0), (2, .int 0), (1, .int 0), (0, .ref a)]) dX7_work_38 (by decide) rfl ?_
    refine v_sub [4, 3, 2, 1, 0] (lv2 := [(0, .ref a), (1, .int 0), (2, .int 0), (3, .int 0), (4, .int 0)]) rfl ?_
    exact (main (μ40 g28 0 0 0 0 + 1)) g28 0 0 0 0  h (Nat.lt_succ_self _)
  · replace h := h.2 c7
    exact False.elim h
def WX7_work (P : Sk) (f : St) (a : Nat) (K : Int32 → St → Prop) (X : String → St → Prop) : Prop := ∃ (I40 : St → Int32 → Int32 → Int32 → Int32 → Prop) (μ40 : St → Int32 → Int32 → Int32 → Int32 → Nat), (vX7_work P f a I40 K X) ∧ (∀ (g : St) (x1 : Int32) (x2 : Int32) (x3 : Int32) (x4 : Int32) , I40 g x1 x2 x3 x4 → bX7_work_40 P a (fun g' z0 z1 z2 z3 => I40 g' z0 z1 z2 z3 ∧ μ40 g' z0 z1 z2 z3 < μ40 g x1 x2 x3 x4) K X g x1 x2 x3 x4)
noncomputable def wkF (b : List Nat) : Nat → Nat → Nat → Bd → Nat × Nat × Bd
  | 0, _, n, bd => (n, 0, bd)
  | fu + 1, s, n, bd => if b.length ≤ s then (n, 0, bd) else if (prR bd b s).1 = 0 then wkF b fu (s + psz (b.getD s 0) + 1) (n + 1) (prB bd b s) else (n, (prR bd b s).1, bd)
noncomputable def wkR (A : Ab) : Nat × Nat × Bd := wkF A.2.2.2 61 0 0 A.1
def wkB (t : Nat × Nat × Bd) : Bd := (t.2.2.1, t.2.2.2.1, if t.2.1 = 0 then -1 else nI t.1, if t.2.1 = 0 then -1 else nI t.2.1)
noncomputable def opWork (A : Ab) : Re := cif (stB A.2.2.2 A.2.2.2.length = 7) (0, nI (wkR A).1, (wkB (wkR A), svH A.2.1 A.1, A.2.2.1, [])) (1, 0, A)
theorem stop_C {f g : St} {x : Nat} {bd : Bd} {T : List Bd × Option Bd × List Nat} {v w : Int32} (hC : CompIs f x (bd, T)) (e : g = setf (setf f (x + 4) 4 v) (x + 4) 5 w) : CompIs g x ((bd.1, bd.2.1, v, w), T) ∧ Fr f g (x + 4) (x + 5) := by
  have r : Fr f g (x + 4) (x + 5) := by
    rw [e]
    exact (fr_setf _ (by omega) (by omega)).trans (fr_setf _ (by omega) (by omega))
  obtain ⟨h1, ⟨b1, b2, b3, b4, b5⟩, h3, h4, h5, h6, h7⟩ := hC
  refine ⟨⟨h1.out r (by omega), ⟨?_, ?_, ?_, ?_, fun i hi => (b5 i hi).out r (by omega)⟩, h3.out h7 r (by omega), h4.out r (by omega) (by omega), h5, h6, h7⟩, r⟩
  · rw [e, setf_off (Or.inr (by omega)), setf_off (Or.inr (by omega))]
    exact b1
  · rw [e, setf_off (Or.inr (by omega)), setf_off (Or.inr (by omega))]
    exact b2
  · rw [e, setf_off (Or.inr (by omega)), setf_same]
  · rw [e, setf_same]
def kX7_work (P : Sk) (f : St) (a : Nat) (K : Int32 → St → Prop) (X : String → St → Prop) : Prop := ∃ A, CompIs f a A ∧ Fin f a (opWork A) K X "java/lang/IllegalArgumentException" "" ""
theorem prB_ok {bd : Bd} {b : List Nat} {s : Nat} (h : Bok bd) (h0 : (prR bd b s).1 = 0) : Bok (prB bd b s) := by
  have hy := prR_ok h h0
  unfold prB
  split
  · exact h.put hy.2
  · exact h.put hy.2
theorem stF_nx (c : Nat) : (stF 2 c = 3 ∨ stF 2 c = 8) ∧ (stF 3 c = 4 ∨ stF 3 c = 8) ∧ (stF 5 c = 6 ∨ stF 5 c = 8) ∧ (stF 6 c = 1 ∨ stF 6 c = 8) := by
  have w : ∀ (p : Prop) [Decidable p] (v : Nat), (if p then v else 8) = v ∨ (if p then v else 8) = 8 := fun p _ v => by
    split
    · exact Or.inl rfl
    · exact Or.inr rfl
  exact ⟨w (48 ≤ c ∧ c ≤ 53) 3, w (97 ≤ c ∧ c ≤ 102) 4, w (48 ≤ c ∧ c ≤ 53) 6, w (c = 47) 1⟩
theorem pc_1 {b : List Nat} (h : stB b b.length = 7) {k : Nat} (hk : k < b.length) (h7 : stB b k ≠ 7) : pcF b (k + 1) = pcF b k := by
  have e : pcF b (k + 1) = pcF b k + (if b.getD k 0 = 59 then 1 else 0) := rfl
  rw [e, if_neg, Nat.add_zero]
  intro q
  have o := stB_ok h (k := k + 1) (by omega)
  have n1 : stB b (k + 1) = stF (stB b k) (b.getD k 0) := rfl
  rw [n1, q] at o
  have w : ∀ s, s ≤ 8 → s ≠ 7 → stF s 59 = 8 := by decide +kernel
  exact o (w _ (stB_le b k) h7)
/-- no part begins within a part -/
theorem part_pc {b : List Nat} (h : stB b b.length = 7) {s : Nat} (hs : s < b.length) (h0 : stB b s = 0) (hP : PartT b s) : pcF b (s + psz (b.getD s 0)) = pcF b s := by
  have hle := hP.2.2.2.1
  have nx : ∀ k, stB b (k + 1) = stF (stB b k) (b.getD k 0) := fun k => rfl
  have ok : ∀ k, k ≤ b.length → stB b k ≠ 8 := fun k hk => stB_ok h hk
  have n1 := nx s
  rw [h0] at n1
  have e0 := pc_1 h hs (by rw [h0]; decide)
  have e1 : stF 0 (b.getD s 0) = if b.getD s 0 = 106 then 5 else if b.getD s 0 = 108 ∨ b.getD s 0 = 109 ∨ b.getD s 0 = 114 ∨ b.getD s 0 = 116 ∨ b.getD s 0 = 122 then 1 else if b.getD s 0 = 120 then 2 else 8 := rfl
  rw [e1] at n1
  unfold psz at hle ⊢
  by_cases c1 : b.getD s 0 = 106
  · rw [if_pos c1] at n1
    rw [if_pos (Or.inr c1)] at hle ⊢
    have a1 := pc_1 h (k := s + 1) (by omega) (by rw [n1]; decide)
    have n2 := nx (s + 1)
    rw [n1] at n2
    have m2 := n2.trans ((stF_nx _).2.2.1.resolve_right (fun q => ok (s + 1 + 1) (by omega) (n2.trans q)))
    have a2 := pc_1 h (k := s + 1 + 1) (by omega) (by rw [m2]; decide)
    have n3 := nx (s + 1 + 1)
    rw [m2] at n3
    have m3 := n3.trans ((stF_nx _).2.2.2.resolve_right (fun q => ok (s + 1 + 1 + 1) (by omega) (n3.trans q)))
    have a3 := pc_1 h (k := s + 1 + 1 + 1) (by omega) (by rw [m3]; decide)
    exact a3.trans (a2.trans (a1.trans e0))
  · rw [if_neg c1] at n1
    by_cases c2 : b.getD s 0 = 120
    · rw [if_neg (by omega), if_pos c2] at n1
      rw [if_pos (Or.inl c2)] at hle ⊢
      have a1 := pc_1 h (k := s + 1) (by omega) (by rw [n1]; decide)
      have n2 := nx (s + 1)
      rw [n1] at n2
      have m2 := n2.trans ((stF_nx _).1.resolve_right (fun q => ok (s + 1 + 1) (by omega) (n2.trans q)))
      have a2 := pc_1 h (k := s + 1 + 1) (by omega) (by rw [m2]; decide)
      have n3 := nx (s + 1 + 1)
      rw [m2] at n3
      have m3 := n3.trans ((stF_nx _).2.1.resolve_right (fun q => ok (s + 1 + 1 + 1) (by omega) (n3.trans q)))
      have a3 := pc_1 h (k := s + 1 + 1 + 1) (by omega) (by rw [m3]; decide)
      exact a3.trans (a2.trans (a1.trans e0))
    · rw [if_neg (show ¬ (b.getD s 0 = 120 ∨ b.getD s 0 = 106) from fun q => q.elim c2 c1)] at hle ⊢
      have a1 := pc_1 h (k := s + 1) (by omega) (by
        rw [n1, if_neg c2]
        split <;> decide)
      exact a1.trans e0
/-- how the part's number and its place go together -/
def wPos (b : List Nat) (s p : Nat) : Prop := (b.length ≤ s ∧ pcF b b.length ≤ p) ∨ (s < b.length ∧ stB b s = 0 ∧ pcF b s = p + 1)
def wkI (f : St) (a : Nat) (A : Ab) (g : St) (x1 x2 x3 x4 : Int32) : Prop := stB A.2.2.2 A.2.2.2.length = 7 ∧ ∃ n r s p bd, x1 = nI n ∧ x2 = nI r ∧ x3 = nI s ∧ x4 = nI p ∧ n ≤ p ∧ p ≤ s ∧ r < 8 ∧ s ≤ 61 ∧ Fr f g a (a + 1438) ∧ CompIs g a (bd, svH A.2.1 A.1, A.2.2) ∧ wPos A.2.2.2 s p ∧ ((r = 0 ∧ ∃ fu, 61 ≤ fu + s ∧ wkR A = wkF A.2.2.2 fu s n bd) ∨ (r ≠ 0 ∧ wkR A = (n, r, bd)))
theorem wX7_work (P : Sk) (f : St) (a : Nat) (ha : IsComp P a) (K : Int32 → St → Prop) (X : String → St → Prop) (h : kX7_work P f a K X) : WX7_work P f a K X := by
  obtain ⟨A, hC, hK⟩ := h
  have hb := hC.2.2.2.2.1
  have hbl := hb.1
  have h6 := hC.2.2.2.2.2.1
  have ht := wfComp_t0 ha
  unfold opWork at hK
  refine ⟨wkI f a A, fun g x1 x2 x3 x4 => 100 - x4.toNatClampNeg, ?_, ?_⟩
  · unfold vX7_work
    refine ⟨_, hC.1, hb, fun hw => ⟨fun _ => ?_, fun q => absurd q (by decide)⟩, fun hw => ⟨fun q => absurd rfl q, fun _ => ?_⟩⟩
    · refine c_save hC (fun g r hC2 => ⟨hw, 0, 0, 0, 0, A.1, rfl, rfl, rfl, rfl, by omega, by omega, by omega, by omega, r.mono (by omega) (by omega), hC2, ?_, Or.inl ⟨rfl, 61, by omega, rfl⟩⟩)
      have hne : 0 < A.2.2.2.length := by
        rcases Nat.eq_zero_or_pos A.2.2.2.length with e | e
        · rw [e] at hw
          exact absurd (show (0 : Nat) = 7 from hw) (by decide)
        · exact e
      exact Or.inr ⟨hne, rfl, rfl⟩
    · rw [cif_neg hw] at hK
      exact (hK f (Fr.refl _ _ _) hC).2.1 rfl
  · rintro g x1 x2 x3 x4 ⟨hw, n, r, s, p, bd, rfl, rfl, rfl, rfl, hnp, hps, hr8, hs61, hfr, hCg, hpos, hI⟩
    rw [cif_pos hw] at hK
    unfold bX7_work_40
    have fin : ∀ L : St → Int32 → Int32 → Int32 → Int32 → Prop, wkR A = (n, r, bd) → jX7_work_93 P a L K X (nI n) (nI r) (nI s) (nI p) g := by
      intro L e
      rw [e] at hK
      have last : ∀ v w : Int32, (if r = 0 then -1 else nI n) = v → (if r = 0 then -1 else nI r) = w → kX0_setStop P g (a + 4) v w (fun g108 => kX4_clear P g108 (a + 1) (fun g115 => K (nI n) g115)) := by
        intro v w ev ew
        show vX0_setStop P g (a + 4) v w _
        unfold vX0_setStop
        intro g2 e2 g3 e3
        rw [e2] at e3
        obtain ⟨hC3, r3⟩ := stop_C hCg e3
        refine c_clear hC3 (fun g4 r4 hC4 => ?_)
        have hB : wkB (n, r, bd) = (bd.1, bd.2.1, v, w) := by
          unfold wkB
          rw [← ev, ← ew]
        rw [hB] at hK
        exact (hK g4 (hfr.trans ((r3.mono (by omega) (by omega)).trans (r4.mono (by omega) (by omega)))) hC4).1 rfl
      unfold jX7_work_93 jX7_work_106 jX7_work_115
      rw [nI_z (by omega)]
      refine ⟨fun q => ⟨fun _ => last _ _ (if_neg q) (if_neg q), fun q2 => absurd q2 q⟩, fun q => ⟨fun q2 => absurd q q2, fun _ => last _ _ (if_pos q) (if_pos q)⟩⟩
    refine ⟨A.2.2.2, hCg.1, hb, ?_⟩
    change _ ∧ _
    have hpl := pcF_le A.2.2.2 A.2.2.2.length
    rw [nI_leI (by omega) (by omega), nI_z (by omega)]
    refine ⟨fun q => fin _ ?_, fun q => ⟨fun q2 => fin _ (hI.resolve_left (fun k => q2 k.1)).2, fun q2 => ?_⟩⟩
    · rcases hI with ⟨k1, fu, k3, k4⟩ | k
      · rw [k4, k1]
        have q3 : A.2.2.2.length ≤ s := by
          rcases hpos with m | m
          · exact m.1
          · have m4 := pcF_mono A.2.2.2 s (A.2.2.2.length - s)
            rw [show s + (A.2.2.2.length - s) = A.2.2.2.length by have := m.1; omega] at m4
            have := m.2.2
            omega
        cases fu with
        | zero => rfl
        | succ fu => rw [wkF, if_pos q3]
      · exact k.2
    · subst q2
      obtain ⟨-, fu, k3, k4⟩ := hI.resolve_right (fun k => k.1 rfl)
      obtain ⟨hsl, h0, hpc⟩ := hpos.resolve_left (fun m => q m.2)
      have qs : ¬ A.2.2.2.length ≤ s := by omega
      have hP := partT hw hsl h0
      have hnx := part_nx hw hP
      have hpp := part_pc hw hsl h0 hP
      have hpz : psz (A.2.2.2.getD s 0) ≤ 4 ∧ 1 ≤ psz (A.2.2.2.getD s 0) := by
        unfold psz
        split <;> omega
      have hP4 := hP.2.2.2.1
      obtain ⟨fu, rfl⟩ : ∃ fu', fu = fu' + 1 := ⟨fu - 1, by omega⟩
      rw [wkF, if_neg qs] at k4
      have hlt := prR_lt bd A.2.2.2 s
      have hpos2 : wPos A.2.2.2 (s + (psz (A.2.2.2.getD s 0) + 1)) (p + 1) := by
        rcases hnx with m3 | m3
        · refine Or.inl ⟨by omega, ?_⟩
          rw [m3] at hpp
          omega
        · refine Or.inr ⟨by omega, m3.2.2, ?_⟩
          have e : pcF A.2.2.2 (s + psz (A.2.2.2.getD s 0) + 1) = pcF A.2.2.2 (s + psz (A.2.2.2.getD s 0)) + (if A.2.2.2.getD (s + psz (A.2.2.2.getD s 0)) 0 = 59 then 1 else 0) := rfl
          rw [if_pos m3.2.1, hpp, hpc] at e
          exact e
      have nxt : ∀ (L : St → Int32 → Int32 → Int32 → Int32 → Prop) (n2 r2 : Nat) (bd2 : Bd) (g2 : St), (∀ g' y1 y2 y3, wkI f a A g' y1 y2 y3 (nI (p + 1)) → L g' y1 y2 y3 (nI (p + 1))) → n2 ≤ p + 1 → r2 < 8 → Fr f g2 a (a + 1438) → CompIs g2 a (bd2, svH A.2.1 A.1, A.2.2) → ((r2 = 0 ∧ wkR A = wkF A.2.2.2 fu (s + psz (A.2.2.2.getD s 0) + 1) n2 bd2) ∨ (r2 ≠ 0 ∧ wkR A = (n2, r2, bd2))) → jX7_work_74 P a L K X (nI n2) (nI r2) (nI s) (nI p) g2 := by
        intro L n2 r2 bd2 g2 hL hn2 hr2 hf2 hC2 hI2
        unfold jX7_work_74
        refine u4_partSize (b := A.2.2.2) ht hC2.1 hb (by omega) ?_
        intro x e y ey
        rw [nI_1, nI_add] at e
        rw [nI_1] at ey
        rw [ey]
        refine hL _ _ _ _ ⟨hw, n2, r2, s + (psz (A.2.2.2.getD s 0) + 1), p + 1, bd2, rfl, rfl, e, rfl, by omega, by omega, hr2, by omega, hf2, hC2, hpos2, ?_⟩
        rcases hI2 with ⟨m1, m2⟩ | m
        · exact Or.inl ⟨m1, fu, by omega, m2⟩
        · exact Or.inr m
      have mu : 100 - (nI (p + 1)).toNatClampNeg < 100 - (nI p).toNatClampNeg := by
        rw [nI_clamp (by omega), nI_clamp (by omega)]
        omega
      refine u7_tryPart (A := (bd, svH A.2.1 A.1, A.2.2)) ha hCg hP (fun g1 r1 q1 => ?_)
      have hC1 := hCg.out r1 (by omega)
      have hf1 := hfr.trans (r1.mono (lo' := a) (hi' := a + 1438) (by omega) (by omega))
      change _ ∧ _
      show (¬ nI (prR bd A.2.2.2 s).1 = 0 → _) ∧ (nI (prR bd A.2.2.2 s).1 = 0 → _)
      rw [nI_z (by omega)]
      refine ⟨fun q3 => ?_, fun q3 => ?_⟩
      · rw [if_neg q3] at k4
        exact nxt _ n _ bd g1 (fun g' y1 y2 y3 hI => ⟨hI, mu⟩) (by omega) hlt hf1 hC1 (Or.inr ⟨q3, k4⟩)
      · rw [if_pos q3] at k4
        refine u7_doTriedPart (A := (bd, svH A.2.1 A.1, A.2.2)) ha hC1 hP q3 (q1 q3) (fun g2 r2 hC2 => ?_)
        rw [nI_1]
        intro x e
        rw [e]
        have q3' : (prR bd A.2.2.2 s).1 = 0 := q3
        show jX7_work_74 P a _ K X (nI (n + 1)) (nI (prR bd A.2.2.2 s).1) (nI s) (nI p) g2
        rw [q3']
        exact nxt _ (n + 1) 0 (prB bd A.2.2.2 s) g2 (fun g' y1 y2 y3 hI => ⟨hI, mu⟩) (by omega) (by omega) (hf1.trans (r2.mono (by omega) (by omega))) hC2 (Or.inl ⟨rfl, k4⟩)

theorem metX7_work (l : Launch) (G : Gl) (P : Sk) (f : St) (sz : Nat) (a : Nat) (ha : IsComp P a) (K : Int32 → St → Prop) (h : kX7_work P f a K XF) : Met l yX7_work (wU yX7_work cX7_work 5 (some .int)) rmX7_work (PcW G P f sz [.ref a]) (QcI G P sz K) 0 0 (frA P sz) := by
  obtain ⟨I40, μ40, qh, qh40⟩ := wX7_work P f a ha K XF h
  exact mX7_work l G P f sz a ha K I40 μ40 qh qh40

