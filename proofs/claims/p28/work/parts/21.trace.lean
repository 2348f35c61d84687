def jX5_pass_57 (P : Sk) (a : Nat) (p1 : Int32) (p2 : Int32) (K : St → Prop) (x3 : Int32) (x4 : Int32) (x5 : Int32) (x6 : Int32) (y0 : Int32) (f : St) : Prop :=
  kX3_put P f (a + 3) p1 x6 (fun g66 => kX3_at P g66 (a + 11) x6 (fun r81 g81 => kX3_put P g81 (a + 11) x6 (r81 + 1) (fun g86 => kX3_put P g86 (a + 1) p1 y0 (fun g96 => kX3_at P g96 (a + 9) y0 (fun r111 g111 => kX3_put P g111 (a + 9) y0 (r111 + 1) (fun g116 => kX3_put P g116 (a + 5) x3 x5 (fun g126 => kX3_put P g126 (a + 5) (x3 + 1) x4 (fun g138 => K g138))))))))
def jX5_pass_41 (P : Sk) (a : Nat) (p1 : Int32) (p2 : Int32) (K : St → Prop) (x3 : Int32) (x4 : Int32) (x5 : Int32) (y0 : Int32) (f : St) : Prop :=
  kX6_isRight P f p2 (fun r44 g44 => (r44 = 0 → jX5_pass_57 P a p1 p2 K x3 x4 x5 y0 x4 g44) ∧ (¬ r44 = 0 → jX5_pass_57 P a p1 p2 K x3 x4 x5 y0 x5 g44))
def vX5_pass (P : Sk) (f : St) (a : Nat) (p1 : Int32) (p2 : Int32) (K : St → Prop) : Prop :=
  kX6_placeOf P f p2 (fun r1 g1 => kX3_at P g1 (a + 5) r1 (fun r10 g10 => kX3_at P g10 (a + 5) (r1 + 1) (fun r22 g22 => kX6_isRight P g22 p2 (fun r28 g28 => (r28 = 0 → jX5_pass_41 P a p1 p2 K r1 r10 r22 r22 g28) ∧ (¬ r28 = 0 → jX5_pass_41 P a p1 p2 K r1 r10 r22 r10 g28)))))
set_option maxRecDepth 20000 in
set_option maxHeartbeats 4000000 in
theorem mX5_pass (l : Launch) (G : Gl) (P : Sk) (f : St) (sz : Nat) (a : Nat) (ha : IsTrace P a) (p1 : Int32) (p2 : Int32) (K : St → Prop) (h : vX5_pass P f a p1 p2 K)  :
  Met l yX5_pass (wU yX5_pass cX5_pass 8 none) rmX5_pass (PcW G P f sz [.ref a, .int p1, .int p2]) (QcV G P sz K) 0 0 (frA P sz) := by
  refine v_met (own := RX5) [.ref a, .int p1, .int p2] (by decide +kernel) rfl (Nat.le_of_ble_eq_true rfl) (fun p e s m args below meth c hsz o hr hnm => ?_)
  refine v_lv (lv2 := [(0, .ref a), (1, .int p1), (2, .int p2)]) rfl ?_
  have J57 : ∀ (x3_57 : Int32) (x4_57 : Int32) (x5_57 : Int32) (x6_57 : Int32) (y0_57 : Int32) (g57 : St), jX5_pass_57 P a p1 p2 K x3_57 x4_57 x5_57 x6_57 y0_57 g57 → V p l e rmX5_pass s m args below meth c 8 G (frA P sz) (MQ below (QcV G P sz K) args s 0 0 (frA P sz)) 0 0 P [(0, .ref a), (1, .int p1), (2, .int p2), (3, .int x3_57), (4, .int x4_57), (5, .int x5_57), (6, .int x6_57)] [.int y0_57] 57 g57 := by
    intro x3_57 x4_57 x5_57 x6_57 y0_57 g57  h
    unfold jX5_pass_57 at h
    refine v_istore o (lv' := [(7, .int y0_57), (0, .ref a), (1, .int p1), (2, .int p2), (3, .int x3_57), (4, .int x4_57), (5, .int x5_57), (6, .int x6_57)]) dX5_pass_57 (by decide) rfl ?_
    refine v_aload_n o 1 dX5_pass_59 rfl ?_
    refine v_gfR o lkX5_20 (by decide) (wfTrace_o ha) (wfTrace_r1 ha) dX5_pass_60 ?_
    refine v_iload_n o 2 dX5_pass_63 rfl ?_
    refine v_iload o 7 dX5_pass_64 rfl ?_
    refine v_cVv o [.int p1, .int x6_57] [] (fun sz => metX3_put l G P g57 sz (a + 3) (wfTrace_t1 ha) p1 x6_57 _ h) (cwX5_47 o.1.2.2.2.2 (by decide)) ⟨_, _, rfl⟩ (by decide) (wfRow_o (wfTrace_t1 ha)) rfl (Nat.le_of_ble_eq_true rfl) ⟨Nat.le_of_ble_eq_true rfl, Nat.le_of_ble_eq_true rfl⟩ dX5_pass_66 rfl (fun g66 h => ?_)
    refine v_aload_n o 1 dX5_pass_69 rfl ?_
    refine v_gfR o lkX5_32 (by decide) (wfTrace_o ha) (wfTrace_r5 ha) dX5_pass_70 ?_
    refine v_iload o 7 dX5_pass_73 rfl ?_
    refine v_aload_n o 1 dX5_pass_75 rfl ?_
    refine v_gfR o lkX5_32 (by decide) (wfTrace_o ha) (wfTrace_r5 ha) dX5_pass_76 ?_
    refine v_iload o 7 dX5_pass_79 rfl ?_
    refine v_cVi o [.int x6_57] [.int x6_57, .ref (a + 11)] (fun sz => metX3_at l G P g66 sz (a + 11) (wfTrace_t5 ha) x6_57 _ h) (cwX5_61 o.1.2.2.2.2 (by decide)) ⟨_, _, rfl⟩ (by decide) (wfRow_o (wfTrace_t5 ha)) rfl (Nat.le_of_ble_eq_true rfl) ⟨Nat.le_of_ble_eq_true rfl, Nat.le_of_ble_eq_true rfl⟩ dX5_pass_81 rfl (fun r81 g81 h => ?_)
    refine v_iconst o (v := 1) dX5_pass_84 (by decide) ?_
    refine v_iadd o dX5_pass_85 ?_
    refine v_cVv o [.int x6_57, .int (r81 + 1)] [] (fun sz => metX3_put l G P g81 sz (a + 11) (wfTrace_t5 ha) x6_57 (r81 + 1) _ h) (cwX5_47 o.1.2.2.2.2 (by decide)) ⟨_, _, rfl⟩ (by decide) (wfRow_o (wfTrace_t5 ha)) rfl (Nat.le_of_ble_eq_true rfl) ⟨Nat.le_of_ble_eq_true rfl, Nat.le_of_ble_eq_true rfl⟩ dX5_pass_86 rfl (fun g86 h => ?_)
    refine v_aload_n o 1 dX5_pass_89 rfl ?_
    refine v_gfR o lkX5_14 (by decide) (wfTrace_o ha) (wfTrace_r0 ha) dX5_pass_90 ?_
    refine v_iload_n o 2 dX5_pass_93 rfl ?_
    refine v_iload o 0 dX5_pass_94 rfl ?_
    refine v_cVv o [.int p1, .int y0_57] [] (fun sz => metX3_put l G P g86 sz (a + 1) (wfTrace_t0 ha) p1 y0_57 _ h) (cwX5_47 o.1.2.2.2.2 (by decide)) ⟨_, _, rfl⟩ (by decide) (wfRow_o (wfTrace_t0 ha)) rfl (Nat.le_of_ble_eq_true rfl) ⟨Nat.le_of_ble_eq_true rfl, Nat.le_of_ble_eq_true rfl⟩ dX5_pass_96 rfl (fun g96 h => ?_)
    refine v_aload_n o 1 dX5_pass_99 rfl ?_
    refine v_gfR o lkX5_29 (by decide) (wfTrace_o ha) (wfTrace_r4 ha) dX5_pass_100 ?_
    refine v_iload o 0 dX5_pass_103 rfl ?_
    refine v_aload_n o 1 dX5_pass_105 rfl ?_
    refine v_gfR o lkX5_29 (by decide) (wfTrace_o ha) (wfTrace_r4 ha) dX5_pass_106 ?_
    refine v_iload o 0 dX5_pass_109 rfl ?_
    refine v_cVi o [.int y0_57] [.int y0_57, .ref (a + 9)] (fun sz => metX3_at l G P g96 sz (a + 9) (wfTrace_t4 ha) y0_57 _ h) (cwX5_61 o.1.2.2.2.2 (by decide)) ⟨_, _, rfl⟩ (by decide) (wfRow_o (wfTrace_t4 ha)) rfl (Nat.le_of_ble_eq_true rfl) ⟨Nat.le_of_ble_eq_true rfl, Nat.le_of_ble_eq_true rfl⟩ dX5_pass_111 rfl (fun r111 g111 h => ?_)
    refine v_iconst o (v := 1) dX5_pass_114 (by decide) ?_
    refine v_iadd o dX5_pass_115 ?_
    refine v_cVv o [.int y0_57, .int (r111 + 1)] [] (fun sz => metX3_put l G P g111 sz (a + 9) (wfTrace_t4 ha) y0_57 (r111 + 1) _ h) (cwX5_47 o.1.2.2.2.2 (by decide)) ⟨_, _, rfl⟩ (by decide) (wfRow_o (wfTrace_t4 ha)) rfl (Nat.le_of_ble_eq_true rfl) ⟨Nat.le_of_ble_eq_true rfl, Nat.le_of_ble_eq_true rfl⟩ dX5_pass_116 rfl (fun g116 h => ?_)
    refine v_aload_n o 1 dX5_pass_119 rfl ?_
    refine v_gfR o lkX5_23 (by decide) (wfTrace_o ha) (wfTrace_r2 ha) dX5_pass_120 ?_
    refine v_iload_n o 4 dX5_pass_123 rfl ?_
    refine v_iload o 6 dX5_pass_124 rfl ?_
    refine v_cVv o [.int x3_57, .int x5_57] [] (fun sz => metX3_put l G P g116 sz (a + 5) (wfTrace_t2 ha) x3_57 x5_57 _ h) (cwX5_47 o.1.2.2.2.2 (by decide)) ⟨_, _, rfl⟩ (by decide) (wfRow_o (wfTrace_t2 ha)) rfl (Nat.le_of_ble_eq_true rfl) ⟨Nat.le_of_ble_eq_true rfl, Nat.le_of_ble_eq_true rfl⟩ dX5_pass_126 rfl (fun g126 h => ?_)
    refine v_aload_n o 1 dX5_pass_129 rfl ?_
    refine v_gfR o lkX5_23 (by decide) (wfTrace_o ha) (wfTrace_r2 ha) dX5_pass_130 ?_
    refine v_iload_n o 4 dX5_pass_133 rfl ?_
    refine v_iconst o (v := 1) dX5_pass_134 (by decide) ?_
    refine v_iadd o dX5_pass_135 ?_
    refine v_iload o 5 dX5_pass_136 rfl ?_
    refine v_cVv o [.int (x3_57 + 1), .int x4_57] [] (fun sz => metX3_put l G P g126 sz (a + 5) (wfTrace_t2 ha) (x3_57 + 1) x4_57 _ h) (cwX5_47 o.1.2.2.2.2 (by decide)) ⟨_, _, rfl⟩ (by decide) (wfRow_o (wfTrace_t2 ha)) rfl (Nat.le_of_ble_eq_true rfl) ⟨Nat.le_of_ble_eq_true rfl, Nat.le_of_ble_eq_true rfl⟩ dX5_pass_138 rfl (fun g138 h => ?_)
    exact v_vret o rfl hr dX5_pass_141 h
  have J41 : ∀ (x3_41 : Int32) (x4_41 : Int32) (x5_41 : Int32) (y0_41 : Int32) (g41 : St), jX5_pass_41 P a p1 p2 K x3_41 x4_41 x5_41 y0_41 g41 → V p l e rmX5_pass s m args below meth c 8 G (frA P sz) (MQ below (QcV G P sz K) args s 0 0 (frA P sz)) 0 0 P [(0, .ref a), (1, .int p1), (2, .int p2), (3, .int x3_41), (4, .int x4_41), (5, .int x5_41)] [.int y0_41] 41 g41 := by
    intro x3_41 x4_41 x5_41 y0_41 g41  h
    unfold jX5_pass_41 at h
    refine v_istore o (lv' := [(6, .int y0_41), (0, .ref a), (1, .int p1), (2, .int p2), (3, .int x3_41), (4, .int x4_41), (5, .int x5_41)]) dX5_pass_41 (by decide) rfl ?_
    refine v_iload_n o 3 dX5_pass_43 rfl ?_
    refine v_cSi o [.int p2] [] (fun sz => metX6_isRight l G P g41 sz p2 _ h) (cwX5_67 o.1.2.2.2.2 (by decide)) rfl (Nat.le_of_ble_eq_true rfl) ⟨Nat.le_of_ble_eq_true rfl, Nat.le_of_ble_eq_true rfl⟩ dX5_pass_44 rfl (fun r44 g44 h => ?_)
    refine v_if_eq o (tgt := 55) dX5_pass_47 (by decide) (fun c47 => ?_) (fun c47 => ?_)
    · replace h := h.1 c47
      refine v_iload o 5 dX5_pass_55 rfl ?_
      refine v_sub [1, 2, 3, 4, 5, 6, 0] (lv2 := [(0, .ref a), (1, .int p1), (2, .int p2), (3, .int x3_41), (4, .int x4_41), (5, .int x5_41), (6, .int y0_41)]) rfl ?_
      exact J57 x3_41 x4_41 x5_41 y0_41 x4_41 g44  h
    · replace h := h.2 c47
      refine v_iload o 6 dX5_pass_50 rfl ?_
      refine v_goto o (tgt := 57) dX5_pass_52 (by decide) ?_
      refine v_sub [1, 2, 3, 4, 5, 6, 0] (lv2 := [(0, .ref a), (1, .int p1), (2, .int p2), (3, .int x3_41), (4, .int x4_41), (5, .int x5_41), (6, .int y0_41)]) rfl ?_
      exact J57 x3_41 x4_41 x5_41 y0_41 x5_41 g44  h
  unfold vX5_pass at h
  refine v_iload_n o 2 dX5_pass_0 rfl ?_
  refine v_cSi o [.int p2] [] (fun sz => metX6_placeOf l G P f sz p2 _ h) (cwX5_64 o.1.2.2.2.2 (by decide)) rfl (Nat.le_of_ble_eq_true rfl) ⟨Nat.le_of_ble_eq_true rfl, Nat.le_of_ble_eq_true rfl⟩ dX5_pass_1 rfl (fun r1 g1 h => ?_)
  refine v_istore_n o (lv' := [(3, .int r1), (0, .ref a), (1, .int p1), (2, .int p2)]) dX5_pass_4 rfl (by decide) rfl ?_
  refine v_aload_n o 1 dX5_pass_5 rfl ?_
  refine v_gfR o lkX5_23 (by decide) (wfTrace_o ha) (wfTrace_r2 ha) dX5_pass_6 ?_
  refine v_iload_n o 0 dX5_pass_9 rfl ?_
  refine v_cVi o [.int r1] [] (fun sz => metX3_at l G P g1 sz (a + 5) (wfTrace_t2 ha) r1 _ h) (cwX5_61 o.1.2.2.2.2 (by decide)) ⟨_, _, rfl⟩ (by decide) (wfRow_o (wfTrace_t2 ha)) rfl (Nat.le_of_ble_eq_true rfl) ⟨Nat.le_of_ble_eq_true rfl, Nat.le_of_ble_eq_true rfl⟩ dX5_pass_10 rfl (fun r10 g10 h => ?_)
  refine v_istore o (lv' := [(4, .int r10), (3, .int r1), (0, .ref a), (1, .int p1), (2, .int p2)]) dX5_pass_13 (by decide) rfl ?_
  refine v_aload_n o 2 dX5_pass_15 rfl ?_
  refine v_gfR o lkX5_23 (by decide) (wfTrace_o ha) (wfTrace_r2 ha) dX5_pass_16 ?_
  refine v_iload_n o 1 dX5_pass_19 rfl ?_
  refine v_iconst o (v := 1) dX5_pass_20 (by decide) ?_
  refine v_iadd o dX5_pass_21 ?_
  refine v_cVi o [.int (r1 + 1)] [] (fun sz => metX3_at l G P g10 sz (a + 5) (wfTrace_t2 ha) (r1 + 1) _ h) (cwX5_61 o.1.2.2.2.2 (by decide)) ⟨_, _, rfl⟩ (by decide) (wfRow_o (wfTrace_t2 ha)) rfl (Nat.le_of_ble_eq_true rfl) ⟨Nat.le_of_ble_eq_true rfl, Nat.le_of_ble_eq_true rfl⟩ dX5_pass_22 rfl (fun r22 g22 h => ?_)
  refine v_istore o (lv' := [(5, .int r22), (4, .int r10), (3, .int r1), (0, .ref a), (1, .int p1), (2, .int p2)]) dX5_pass_25 (by decide) rfl ?_
  refine v_iload_n o 5 dX5_pass_27 rfl ?_
  refine v_cSi o [.int p2] [] (fun sz => metX6_isRight l G P g22 sz p2 _ h) (cwX5_67 o.1.2.2.2.2 (by decide)) rfl (Nat.le_of_ble_eq_true rfl) ⟨Nat.le_of_ble_eq_true rfl, Nat.le_of_ble_eq_true rfl⟩ dX5_pass_28 rfl (fun r28 g28 h => ?_)
  refine v_if_eq o (tgt := 39) dX5_pass_31 (by decide) (fun c31 => ?_) (fun c31 => ?_)
  · replace h := h.1 c31
    refine v_iload o 0 dX5_pass_39 rfl ?_
    refine v_sub [3, 4, 5, 2, 1, 0] (lv2 := [(0, .ref a), (1, .int p1), (2, .int p2), (3, .int r1), (4, .int r10), (5, .int r22)]) rfl ?_
    exact J41 r1 r10 r22 r22 g28  h
  · replace h := h.2 c31
    refine v_iload o 1 dX5_pass_34 rfl ?_
    refine v_goto o (tgt := 41) dX5_pass_36 (by decide) ?_
    refine v_sub [3, 4, 5, 2, 1, 0] (lv2 := [(0, .ref a), (1, .int p1), (2, .int p2), (3, .int r1), (4, .int r10), (5, .int r22)]) rfl ?_
    exact J41 r1 r10 r22 r10 g28  h
abbrev kX5_pass := @vX5_pass
abbrev metX5_pass := @mX5_pass
theorem u5_pass {P : Sk} {f : St} {a n k : Nat} {w : List Nat} {K : St → Prop} (ha : IsTrace P a) (ho : Wok n w) (hk : k < w.length) (hT : TrP f a n w k) (hK : ∀ g, Fr f g a (a + 15) → TrP g a n w (k + 1) → K g) : kX5_pass P f a (nI k) (nI (w.getD k 0)) K := by
  have hc := ho.lt hk
  have hpl := ho.pl hk
  have h7 := ho.2.1
  have hl := ho.2.2.1
  obtain ⟨t0, t1, t2, t3, t4, t5⟩ := hT
  have j57 : ∀ T B, T = abvA w k → B = hidA w k → jX5_pass_57 P a (nI k) (nI (w.getD k 0)) K (nI (w.getD k 0 / 2)) (nI (wH w k (w.getD k 0 / 2))) (nI (wH w k (w.getD k 0 / 2 + 1))) (nI T) (nI B) f := by
    intro T B eT eB
    have hT := abv_lt ho hk
    have hB := hid_lt ho hk
    rw [← eT] at hT
    rw [← eB] at hB
    unfold jX5_pass_57
    refine u3_put (wfTrace_n1 ha) (by decide) (by omega) ?_
    refine u3_at (wfTrace_n5 ha) (by decide) (by omega) ?_
    rw [setf_off (Or.inl (by omega)), t5 T hT, nI_1]
    refine u3_put (wfTrace_n5 ha) (by decide) (by omega) ?_
    refine u3_put (wfTrace_n0 ha) (by decide) (by omega) ?_
    refine u3_at (wfTrace_n4 ha) (by decide) (by omega) ?_
    rw [setf_off (Or.inl (by omega)), setf_off (Or.inl (by omega)), setf_off (Or.inl (by omega)), t4 B hB, nI_1]
    refine u3_put (wfTrace_n4 ha) (by decide) (by omega) ?_
    refine u3_put (wfTrace_n2 ha) (by decide) (by omega) ?_
    rw [nI_1]
    refine u3_put (wfTrace_n2 ha) (by decide) (by omega) ?_
    refine hK _ ?_ ⟨?_, fun i hi => ?_, fun i hi => ?_, fun p hp => ?_, fun s hs => ?_, fun s hs => ?_⟩
    · intro q hq
      rw [setf_row (by omega), setf_row (by omega), setf_row (by omega), setf_row (by omega), setf_row (by omega), setf_row (by omega)]
    · rw [setf_off (Or.inl (by omega)), setf_off (Or.inl (by omega)), setf_off (Or.inl (by omega)), setf_off (Or.inl (by omega)), setf_off (Or.inl (by omega)), setf_off (Or.inl (by omega))]
      exact t0
    · rw [setf_off (Or.inl (by omega)), setf_off (Or.inl (by omega)), setf_off (Or.inl (by omega))]
      by_cases c : i = k
      · rw [c, setf_same, eB]
      · rw [setf_off (Or.inr c), setf_off (Or.inl (by omega)), setf_off (Or.inl (by omega))]
        exact t1 i (by omega)
    · rw [setf_off (Or.inl (by omega)), setf_off (Or.inl (by omega)), setf_off (Or.inl (by omega)), setf_off (Or.inl (by omega)), setf_off (Or.inl (by omega))]
      by_cases c : i = k
      · rw [c, setf_same, eT]
      · rw [setf_off (Or.inr c)]
        exact t2 i (by omega)
    · simp only [wH, sw]
      by_cases c1 : p = w.getD k 0 / 2
      · rw [if_pos c1, c1, setf_off (Or.inr (by omega)), setf_same]
      · rw [if_neg c1]
        by_cases c2 : p = w.getD k 0 / 2 + 1
        · rw [if_pos c2, c2, setf_same]
        · rw [if_neg c2, setf_off (Or.inr c2), setf_off (Or.inr c1), setf_off (Or.inl (by omega)), setf_off (Or.inl (by omega)), setf_off (Or.inl (by omega)), setf_off (Or.inl (by omega))]
          exact t3 p hp
    · simp only [tU]
      rw [setf_off (Or.inl (by omega)), setf_off (Or.inl (by omega))]
      by_cases c : s = B
      · rw [if_pos (c.trans eB), c, setf_same]
      · rw [if_neg (fun q => c (q.trans eB.symm)), setf_off (Or.inr c), setf_off (Or.inl (by omega)), setf_off (Or.inl (by omega)), setf_off (Or.inl (by omega))]
        exact t4 s hs
    · simp only [tA]
      rw [setf_off (Or.inl (by omega)), setf_off (Or.inl (by omega)), setf_off (Or.inl (by omega)), setf_off (Or.inl (by omega))]
      by_cases c : s = T
      · rw [if_pos (c.trans eT), c, setf_same]
      · rw [if_neg (fun q => c (q.trans eT.symm)), setf_off (Or.inr c), setf_off (Or.inl (by omega))]
        exact t5 s hs
  show vX5_pass P f a (nI k) (nI (w.getD k 0)) K
  unfold vX5_pass
  refine u6_placeOf (by omega) ?_
  refine u3_at (wfTrace_n2 ha) (by decide) (by omega) ?_
  rw [nI_1]
  refine u3_at (wfTrace_n2 ha) (by decide) (by omega) ?_
  rw [t3 _ (show w.getD k 0 / 2 < n by omega), t3 _ (show w.getD k 0 / 2 + 1 < n by omega)]
  refine u6_isRight (by omega) ?_
  have e0 : (0 : Int32) = nI 0 := rfl
  unfold jX5_pass_41
  refine ⟨fun q => ?_, fun q => ?_⟩
  · refine u6_isRight (by omega) ?_
    rw [e0, nI_eq (by omega) (by omega)] at q
    refine ⟨fun _ => j57 _ _ ?_ ?_, fun q2 => absurd ?_ q2⟩
    · unfold abvA
      rw [if_neg (by omega)]
    · unfold hidA
      rw [if_neg (by omega)]
    · rw [q]
      rfl
  · refine u6_isRight (by omega) ?_
    rw [e0, nI_eq (by omega) (by omega)] at q
    refine ⟨fun q2 => ?_, fun _ => j57 _ _ ?_ ?_⟩
    · rw [e0, nI_eq (by omega) (by omega)] at q2
      exact absurd q2 q
    · unfold abvA
      rw [if_pos (by omega)]
    · unfold hidA
      rw [if_pos (by omega)]

def bX5_follow_10 (P : Sk) (a : Nat) (b1 : Nat) (L10 : St → Int32 → Prop) (L53 : St → Int32 → Prop) (L79 : St → Int32 → Prop) (K : St → Prop) (f : St) (x2 : Int32) : Prop :=
  (f a 7 ≤ x2 → L53 f 0) ∧ (¬ f a 7 ≤ x2 → kX3_put P f (a + 5) x2 x2 (fun g24 => kX3_put P g24 (a + 9) x2 0 (fun g33 => kX3_put P g33 (a + 11) x2 0 (fun g42 => ∀ x2_45 : Int32, x2_45 = x2 + 1 → L10 g42 x2_45))))
def bX5_follow_53 (P : Sk) (a : Nat) (b1 : Nat) (L10 : St → Int32 → Prop) (L53 : St → Int32 → Prop) (L79 : St → Int32 → Prop) (K : St → Prop) (f : St) (x2 : Int32) : Prop :=
  kX6_size P f b1 (fun r55 g55 => (r55 ≤ x2 → L79 g55 0) ∧ (¬ r55 ≤ x2 → kX6_codeAt P g55 b1 x2 (fun r65 g65 => kX5_pass P g65 a x2 r65 (fun g68 => ∀ x2_71 : Int32, x2_71 = x2 + 1 → L53 g68 x2_71))))
def bX5_follow_79 (P : Sk) (a : Nat) (b1 : Nat) (L10 : St → Int32 → Prop) (L53 : St → Int32 → Prop) (L79 : St → Int32 → Prop) (K : St → Prop) (f : St) (x2 : Int32) : Prop :=
  (f a 7 ≤ x2 → K f) ∧ (¬ f a 7 ≤ x2 → kX3_at P f (a + 5) x2 (fun r96 g96 => kX3_put P g96 (a + 7) r96 x2 (fun g100 => ∀ x2_103 : Int32, x2_103 = x2 + 1 → L79 g100 x2_103)))
def vX5_follow (P : Sk) (f : St) (a : Nat) (b1 : Nat) (L10 : St → Int32 → Prop) (L53 : St → Int32 → Prop) (L79 : St → Int32 → Prop) (K : St → Prop) : Prop :=
  kX6_strands P f b1 (fun r2 g2 => ∀ g5 : St, g5 = setf g2 a 7 r2 → L10 g5 0)
set_option maxRecDepth 20000 in
set_option maxHeartbeats 4000000 in
theorem mX5_follow (l : Launch) (G : Gl) (P : Sk) (f : St) (sz : Nat) (a : Nat) (ha : IsTrace P a) (b1 : Nat) (hb1 : IsWord P b1) (K : St → Prop) (I10 : St → Int32 → Prop) (μ10 : St → Int32 → Nat) (I53 : St → Int32 → Prop) (μ53 : St → Int32 → Nat) (I79 : St → Int32 → Prop) (μ79 : St → Int32 → Nat) 
  (h : vX5_follow P f a b1 I10 I53 I79 K)
  (h10 : ∀ (g : St) (x2 : Int32) , I10 g x2 → bX5_follow_10 P a b1 (fun g' z0 => I10 g' z0 ∧ μ10 g' z0 < μ10 g x2) (fun g' z0 => I53 g' z0 ∧ μ53 g' z0 < μ10 g x2) (fun g' z0 => I79 g' z0 ∧ μ79 g' z0 < μ10 g x2) K g x2)
  (h53 : ∀ (g : St) (x2 : Int32) , I53 g x2 → bX5_follow_53 P a b1 (fun g' z0 => I10 g' z0 ∧ μ10 g' z0 < μ53 g x2) (fun g' z0 => I53 g' z0 ∧ μ53 g' z0 < μ53 g x2) (fun g' z0 => I79 g' z0 ∧ μ79 g' z0 < μ53 g x2) K g x2)
  (h79 : ∀ (g : St) (x2 : Int32) , I79 g x2 → bX5_follow_79 P a b1 (fun g' z0 => I10 g' z0 ∧ μ10 g' z0 < μ79 g x2) (fun g' z0 => I53 g' z0 ∧ μ53 g' z0 < μ79 g x2) (fun g' z0 => I79 g' z0 ∧ μ79 g' z0 < μ79 g x2) K g x2) :
  Met l yX5_follow (wU yX5_follow cX5_follow 3 none) rmX5_follow (PcW G P f sz [.ref a, .ref b1]) (QcV G P sz K) 0 0 (frA P sz) := by
  refine v_met (own := RX5) [.ref a, .ref b1] (by decide +kernel) rfl (Nat.le_of_ble_eq_true rfl) (fun p e s m args below meth c hsz o hr hnm => ?_)
  refine v_lv (lv2 := [(0, .ref a), (1, .ref b1)]) rfl ?_
  have main : ∀ n : Nat, (∀ (g : St) (x2 : Int32) , I10 g x2 → μ10 g x2 < n → V p l e rmX5_follow s m args below meth c 3 G (frA P sz) (MQ below (QcV G P sz K) args s 0 0 (frA P sz)) 0 0 P [(0, .ref a), (1, .ref b1), (2, .int x2)] [] 10 g) ∧ (∀ (g : St) (x2 : Int32) , I53 g x2 → μ53 g x2 < n → V p l e rmX5_follow s m args below meth c 3 G (frA P sz) (MQ below (QcV G P sz K) args s 0 0 (frA P sz)) 0 0 P [(0, .ref a), (1, .ref b1), (2, .int x2)] [] 53 g) ∧ (∀ (g : St) (x2 : Int32) , I79 g x2 → μ79 g x2 < n → V p l e rmX5_follow s m args below meth c 3 G (frA P sz) (MQ below (QcV G P sz K) args s 0 0 (frA P sz)) 0 0 P [(0, .ref a), (1, .ref b1), (2, .int x2)] [] 79 g) := by
    intro n
    induction n with
    | zero => exact ⟨fun g x2 hI hm => absurd hm (Nat.not_lt_zero _), fun g x2 hI hm => absurd hm (Nat.not_lt_zero _), fun g x2 hI hm => absurd hm (Nat.not_lt_zero _)⟩
    | succ n ih =>
      refine ⟨?_, ?_, ?_⟩
      · intro g x2 hI hm
        have h := h10 g x2 hI
        clear hI
        unfold bX5_follow_10 at h
        refine v_iload_n o 2 dX5_follow_10 rfl ?_
        refine v_aload_n o 0 dX5_follow_11 rfl ?_
        refine v_gfI o lkX5_38 (by decide) (wfTrace_o ha) dX5_follow_12 ?_
        refine v_icmp_ge o (tgt := 51) dX5_follow_15 (by decide) (fun c15 => ?_) (fun c15 => ?_)
        · replace h := h.1 c15
          refine v_iconst o (v := 0) dX5_follow_51 (by decide) ?_
          refine v_istore_n o (lv' := [(2, .int 0), (0, .ref a), (1, .ref b1)]) dX5_follow_52 rfl (by decide) rfl ?_
          refine v_sub [1, 2, 0] (lv2 := [(0, .ref a), (1, .ref b1), (2, .int 0)]) rfl ?_
          exact ih.2.1 g 0  h.1 (by have := h.2; omega)
        · replace h := h.2 c15
          refine v_aload_n o 0 dX5_follow_18 rfl ?_
          refine v_gfR o lkX5_23 (by decide) (wfTrace_o ha) (wfTrace_r2 ha) dX5_follow_19 ?_
          refine v_iload_n o 2 dX5_follow_22 rfl ?_
          refine v_iload_n o 2 dX5_follow_23 rfl ?_
          refine v_cVv o [.int x2, .int x2] [] (fun sz => metX3_put l G P g sz (a + 5) (wfTrace_t2 ha) x2 x2 _ h) (cwX5_47 o.1.2.2.2.2 (by decide)) ⟨_, _, rfl⟩ (by decide) (wfRow_o (wfTrace_t2 ha)) rfl (Nat.le_of_ble_eq_true rfl) ⟨Nat.le_of_ble_eq_true rfl, Nat.le_of_ble_eq_true rfl⟩ dX5_follow_24 rfl (fun g24 h => ?_)
          refine v_aload_n o 0 dX5_follow_27 rfl ?_
          refine v_gfR o lkX5_29 (by decide) (wfTrace_o ha) (wfTrace_r4 ha) dX5_follow_28 ?_
          refine v_iload_n o 2 dX5_follow_31 rfl ?_
          refine v_iconst o (v := 0) dX5_follow_32 (by decide) ?_
          refine v_cVv o [.int x2, .int 0] [] (fun sz => metX3_put l G P g24 sz (a + 9) (wfTrace_t4 ha) x2 0 _ h) (cwX5_47 o.1.2.2.2.2 (by decide)) ⟨_, _, rfl⟩ (by decide) (wfRow_o (wfTrace_t4 ha)) rfl (Nat.le_of_ble_eq_true rfl) ⟨Nat.le_of_ble_eq_true rfl, Nat.le_of_ble_eq_true rfl⟩ dX5_follow_33 rfl (fun g33 h => ?_)
          refine v_aload_n o 0 dX5_follow_36 rfl ?_
          refine v_gfR o lkX5_32 (by decide) (wfTrace_o ha) (wfTrace_r5 ha) dX5_follow_37 ?_
          refine v_iload_n o 2 dX5_follow_40 rfl ?_
          refine v_iconst o (v := 0) dX5_follow_41 (by decide) ?_
          refine v_cVv o [.int x2, .int 0] [] (fun sz => metX3_put l G P g33 sz (a + 11) (wfTrace_t5 ha) x2 0 _ h) (cwX5_47 o.1.2.2.2.2 (by decide)) ⟨_, _, rfl⟩ (by decide) (wfRow_o (wfTrace_t5 ha)) rfl (Nat.le_of_ble_eq_true rfl) ⟨Nat.le_of_ble_eq_true rfl, Nat.le_of_ble_eq_true rfl⟩ dX5_follow_42 rfl (fun g42 h => ?_)
          obtain ⟨x2_45, ex2_45⟩ : ∃ y : Int32, y = x2 + 1 := ⟨_, rfl⟩
          replace h := h x2_45 ex2_45
          refine v_iinc o (v := x2_45) (lv' := [(2, .int x2_45), (0, .ref a), (1, .ref b1)]) 2 dX5_follow_45 rfl (by rw [ex2_45]; rfl) (by decide) rfl ?_
          refine v_goto o (tgt := 10) dX5_follow_48 (by decide) ?_
          refine v_sub [1, 2, 0] (lv2 := [(0, .ref a), (1, .ref b1), (2, .int x2_45)]) rfl ?_
          exact ih.1 g42 x2_45  h.1 (by have := h.2; omega)
      · intro g x2 hI hm
        have h := h53 g x2 hI
        clear hI
        unfold bX5_follow_53 at h
        refine v_iload_n o 2 dX5_follow_53 rfl ?_
        refine v_aload_n o 1 dX5_follow_54 rfl ?_
        refine v_cVi o [] [.int x2] (fun sz => metX6_size l G P g sz b1 hb1 _ h) (cwX5_51 o.1.2.2.2.2 (by decide)) ⟨_, _, rfl⟩ (by decide) (wfWord_o hb1) rfl (Nat.le_of_ble_eq_true rfl) ⟨Nat.le_of_ble_eq_true rfl, Nat.le_of_ble_eq_true rfl⟩ dX5_follow_55 rfl (fun r55 g55 h => ?_)
        refine v_icmp_ge o (tgt := 77) dX5_follow_58 (by decide) (fun c58 => ?_) (fun c58 => ?_)
        · replace h := h.1 c58
          refine v_iconst o (v := 0) dX5_follow_77 (by decide) ?_
          refine v_istore_n o (lv' := [(2, .int 0), (0, .ref a), (1, .ref b1)]) dX5_follow_78 rfl (by decide) rfl ?_
          refine v_sub [1, 2, 0] (lv2 := [(0, .ref a), (1, .ref b1), (2, .int 0)]) rfl ?_
          exact ih.2.2 g55 0  h.1 (by have := h.2; omega)
        · replace h := h.2 c58
          refine v_aload_n o 0 dX5_follow_61 rfl ?_
          refine v_iload_n o 2 dX5_follow_62 rfl ?_
          refine v_aload_n o 1 dX5_follow_63 rfl ?_
          refine v_iload_n o 2 dX5_follow_64 rfl ?_
          refine v_cVi o [.int x2] [.int x2, .ref a] (fun sz => metX6_codeAt l G P g55 sz b1 hb1 x2 _ h) (cwX5_54 o.1.2.2.2.2 (by decide)) ⟨_, _, rfl⟩ (by decide) (wfWord_o hb1) rfl (Nat.le_of_ble_eq_true rfl) ⟨Nat.le_of_ble_eq_true rfl, Nat.le_of_ble_eq_true rfl⟩ dX5_follow_65 rfl (fun r65 g65 h => ?_)
          refine v_cVv o [.int x2, .int r65] [] (fun sz => metX5_pass l G P g65 sz a ha x2 r65 _ h) (cwX5_58 o.1.2.2.2.2 (by decide)) ⟨_, _, rfl⟩ (by decide) (wfTrace_o ha) rfl (Nat.le_of_ble_eq_true rfl) ⟨Nat.le_of_ble_eq_true rfl, Nat.le_of_ble_eq_true rfl⟩ dX5_follow_68 rfl (fun g68 h => ?_)
          obtain ⟨x2_71, ex2_71⟩ : ∃ y : Int32, y = x2 + 1 := ⟨_, rfl⟩
          replace h := h x2_71 ex2_71
          refine v_iinc o (v := x2_71) (lv' := [(2, .int x2_71), (0, .ref a), (1, .ref b1)]) 2 dX5_follow_71 rfl (by rw [ex2_71]; rfl) (by decide) rfl ?_
          refine v_goto o (tgt := 53) dX5_follow_74 (by decide) ?_
          refine v_sub [1, 2, 0] (lv2 := [(0, .ref a), (1, .ref b1), (2, .int x2_71)]) rfl ?_
          exact ih.2.1 g68 x2_71  h.1 (by have := h.2; omega)
      · intro g x2 hI hm
        have h := h79 g x2 hI
        clear hI
        unfold bX5_follow_79 at h
        refine v_iload_n o 2 dX5_follow_79 rfl ?_
        refine v_aload_n o 0 dX5_follow_80 rfl ?_
        refine v_gfI o lkX5_38 (by decide) (wfTrace_o ha) dX5_follow_81 ?_
        refine v_icmp_ge o (tgt := 109) dX5_follow_84 (by decide) (fun c84 => ?_) (fun c84 => ?_)
        · replace h := h.1 c84
          exact v_vret o rfl hr dX5_follow_109 h
        · replace h := h.2 c84
          refine v_aload_n o 0 dX5_follow_87 rfl ?_
          refine v_gfR o lkX5_26 (by decide) (wfTrace_o ha) (wfTrace_r3 ha) dX5_follow_88 ?_
          refine v_aload_n o 0 dX5_follow_91 rfl ?_
          refine v_gfR o lkX5_23 (by decide) (wfTrace_o ha) (wfTrace_r2 ha) dX5_follow_92 ?_
          refine v_iload_n o 2 dX5_follow_95 rfl ?_
          refine v_cVi o [.int x2] [.ref (a + 7)] (fun sz => metX3_at l G P g sz (a + 5) (wfTrace_t2 ha) x2 _ h) (cwX5_61 o.1.2.2.2.2 (by decide)) ⟨_, _, rfl⟩ (by decide) (wfRow_o (wfTrace_t2 ha)) rfl (Nat.le_of_ble_eq_true rfl) ⟨Nat.le_of_ble_eq_true rfl, Nat.le_of_ble_eq_true rfl⟩ dX5_follow_96 rfl (fun r96 g96 h => ?_)
          refine v_iload_n o 2 dX5_follow_99 rfl ?_
          refine v_cVv o [.int r96, .int x2] [] (fun sz => metX3_put l G P g96 sz (a + 7) (wfTrace_t3 ha) r96 x2 _ h) (cwX5_47 o.1.2.2.2.2 (by decide)) ⟨_, _, rfl⟩ (by decide) (wfRow_o (wfTrace_t3 ha)) rfl (Nat.le_of_ble_eq_true rfl) ⟨Nat.le_of_ble_eq_true rfl, Nat.le_of_ble_eq_true rfl⟩ dX5_follow_100 rfl (fun g100 h => ?_)
          obtain ⟨x2_103, ex2_103⟩ : ∃ y : Int32, y = x2 + 1 := ⟨_, rfl⟩
          replace h := h x2_103 ex2_103
          refine v_iinc o (v := x2_103) (lv' := [(2, .int x2_103), (0, .ref a), (1, .ref b1)]) 2 dX5_follow_103 rfl (by rw [ex2_103]; rfl) (by decide) rfl ?_
          refine v_goto o (tgt := 79) dX5_follow_106 (by decide) ?_
          refine v_sub [1, 2, 0] (lv2 := [(0, .ref a), (1, .ref b1), (2, .int x2_103)]) rfl ?_
          exact ih.2.2 g100 x2_103  h.1 (by have := h.2; omega)
  unfold vX5_follow at h
  refine v_aload_n o 0 dX5_follow_0 rfl ?_
  refine v_aload_n o 1 dX5_follow_1 rfl ?_
  refine v_cVi o [] [.ref a] (fun sz => metX6_strands l G P f sz b1 hb1 _ h) (cwX5_42 o.1.2.2.2.2 (by decide)) ⟨_, _, rfl⟩ (by decide) (wfWord_o hb1) rfl (Nat.le_of_ble_eq_true rfl) ⟨Nat.le_of_ble_eq_true rfl, Nat.le_of_ble_eq_true rfl⟩ dX5_follow_2 rfl (fun r2 g2 h => ?_)
  refine v_pf o lpX5_38 (wfTrace_o ha) ⟨rfl, rfl⟩ dX5_follow_5 ?_
  refine v_nmf (fun g5 eg5 => ?_)
  replace h := h g5 eg5
  refine v_iconst o (v := 0) dX5_follow_8 (by decide) ?_
  refine v_istore_n o (lv' := [(2, .int 0), (0, .ref a), (1, .ref b1)]) dX5_follow_9 rfl (by decide) rfl ?_
  refine v_sub [1, 2, 0] (lv2 := [(0, .ref a), (1, .ref b1), (2, .int 0)]) rfl ?_
  exact (main (μ10 g5 0 + 1)).1 g5 0  h (Nat.lt_succ_self _)
def WX5_follow (P : Sk) (f : St) (a : Nat) (b1 : Nat) (K : St → Prop) : Prop := ∃ (I10 : St → Int32 → Prop) (I53 : St → Int32 → Prop) (I79 : St → Int32 → Prop) (μ10 : St → Int32 → Nat) (μ53 : St → Int32 → Nat) (μ79 : St → Int32 → Nat), (vX5_follow P f a b1 I10 I53 I79 K) ∧ (∀ (g : St) (x2 : Int32) , I10 g x2 → bX5_follow_10 P a b1 (fun g' z0 => I10 g' z0 ∧ μ10 g' z0 < μ10 g x2) (fun g' z0 => I53 g' z0 ∧ μ53 g' z0 < μ10 g x2) (fun g' z0 => I79 g' z0 ∧ μ79 g' z0 < μ10 g x2) K g x2) ∧ (∀ (g : St) (x2 : Int32) , I53 g x2 → bX5_follow_53 P a b1 (fun g' z0 => I10 g' z0 ∧ μ10 g' z0 < μ53 g x2) (fun g' z0 => I53 g' z0 ∧ μ53 g' z0 < μ53 g x2) (fun g' z0 => I79 g' z0 ∧ μ79 g' z0 < μ53 g x2) K g x2) ∧ (∀ (g : St) (x2 : Int32) , I79 g x2 → bX5_follow_79 P a b1 (fun g' z0 => I10 g' z0 ∧ μ10 g' z0 < μ79 g x2) (fun g' z0 => I53 g' z0 ∧ μ53 g' z0 < μ79 g x2) (fun g' z0 => I79 g' z0 ∧ μ79 g' z0 < μ79 g x2) K g x2)
def kX5_follow (P : Sk) (f : St) (a : Nat) (b1 : Nat) (K : St → Prop) : Prop := ∃ n w, WordIs f b1 n w ∧ Wok n w ∧ (b1 + 3 ≤ a ∨ a + 15 ≤ b1) ∧ ∀ g, Fr f g a (a + 15) → TraceIs g a n w → K g
theorem wX5_follow (P : Sk) (f : St) (a : Nat) (ha : IsTrace P a) (b1 : Nat) (hb1 : IsWord P b1) (K : St → Prop) (h : kX5_follow P f a b1 K) : WX5_follow P f a b1 K := by
  obtain ⟨n, w, hw, ho, hd, hK⟩ := h
  have h7 := ho.2.1
  have h2 := ho.1
  have hl := ho.2.2.1
  refine ⟨fun g x => ∃ k, x = nI k ∧ k ≤ n ∧ Fr f g a (a + 15) ∧ g a 7 = nI n ∧ ∀ p, p < k → g (a + 5 + 1) p = nI p ∧ g (a + 9 + 1) p = nI 0 ∧ g (a + 11 + 1) p = nI 0, fun g x => ∃ k, x = nI k ∧ k ≤ w.length ∧ Fr f g a (a + 15) ∧ TrP g a n w k, fun g x => ∃ k, x = nI k ∧ k ≤ n ∧ Fr f g a (a + 15) ∧ TrP g a n w w.length ∧ ∀ p, p < k → g (a + 7 + 1) (wH w w.length p) = nI p, fun g x => 2000 + (n - x.toNatClampNeg), fun g x => 1000 + (w.length - x.toNatClampNeg), fun g x => n - x.toNatClampNeg, ?_, ?_, ?_, ?_⟩
  · unfold vX5_follow
    show vX6_strands P f b1 _
    unfold vX6_strands
    intro g e
    refine ⟨0, rfl, Nat.zero_le _, ?_, ?_, fun p hp => absurd hp (Nat.not_lt_zero _)⟩
    · rw [e]
      exact fr_setf f (by omega) (by omega)
    · rw [e, setf_same]
      exact hw.1
  · rintro g x ⟨k, rfl, hk, hfr, t0, hA⟩
    unfold bX5_follow_10
    rw [t0, nI_leI (by omega) (by omega)]
    refine ⟨fun q => ?_, fun q => ?_⟩
    · have hkn : k = n := by omega
      subst hkn
      refine ⟨⟨0, rfl, Nat.zero_le _, hfr, t0, fun i hi => absurd hi (Nat.not_lt_zero _), fun i hi => absurd hi (Nat.not_lt_zero _), fun p hp => (hA p hp).1, fun p hp => (hA p hp).2.1, fun p hp => (hA p hp).2.2⟩, ?_⟩
      show 1000 + (w.length - (nI 0).toNatClampNeg) < 2000 + (k - (nI k).toNatClampNeg)
      omega
    · refine u3_put (wfTrace_n2 ha) (by decide) (by omega) ?_
      refine u3_put (wfTrace_n4 ha) (by decide) (by omega) ?_
      refine u3_put (wfTrace_n5 ha) (by decide) (by omega) ?_
      rw [nI_1]
      intro x e
      refine ⟨⟨k + 1, e, by omega, ?_, ?_, fun p hp => ⟨?_, ?_, ?_⟩⟩, ?_⟩
      · exact hfr.trans ((fr_setf _ (by omega) (by omega)).trans ((fr_setf _ (by omega) (by omega)).trans (fr_setf _ (by omega) (by omega))))
      · rw [setf_off (Or.inl (by omega)), setf_off (Or.inl (by omega)), setf_off (Or.inl (by omega))]
        exact t0
      · rw [setf_off (Or.inl (by omega)), setf_off (Or.inl (by omega))]
        by_cases c : p = k
        · rw [c, setf_same]
        · rw [setf_off (Or.inr c)]
          exact (hA p (by omega)).1
      · rw [setf_off (Or.inl (by omega))]
        by_cases c : p = k
        · rw [c, setf_same]
          rfl
        · rw [setf_off (Or.inr c), setf_off (Or.inl (by omega))]
          exact (hA p (by omega)).2.1
      · by_cases c : p = k
        · rw [c, setf_same]
          rfl
        · rw [setf_off (Or.inr c), setf_off (Or.inl (by omega)), setf_off (Or.inl (by omega))]
          exact (hA p (by omega)).2.2
      · have := mu_up e (show k < n by omega) (by omega)
        show 2000 + (n - x.toNatClampNeg) < 2000 + (n - (nI k).toNatClampNeg)
        omega
  · rintro g x ⟨k, rfl, hk, hfr, hT⟩
    have hg' := hw.out hfr hd
    unfold bX5_follow_53
    show vX6_size P g b1 _
    unfold vX6_size
    rw [hg'.2.1]
    change _ ∧ _
    rw [nI_leI (by omega) (by omega)]
    refine ⟨fun q => ?_, fun q => ?_⟩
    · rw [show k = w.length by omega] at hT
      refine ⟨⟨0, rfl, Nat.zero_le _, hfr, hT, fun i hi => absurd hi (Nat.not_lt_zero _)⟩, ?_⟩
      show n - (nI 0).toNatClampNeg < 1000 + (w.length - (nI k).toNatClampNeg)
      omega
    · refine u6_codeAt hb1 hg' hl (by omega) ?_
      refine u5_pass ha ho (by omega) hT (fun g2 r1 r2 => ?_)
      rw [nI_1]
      intro x e
      refine ⟨⟨k + 1, e, by omega, hfr.trans r1, r2⟩, ?_⟩
      have := mu_up e (show k < w.length by omega) (by omega)
      show 1000 + (w.length - x.toNatClampNeg) < 1000 + (w.length - (nI k).toNatClampNeg)
      omega
  · rintro g x ⟨k, rfl, hk, hfr, hT, hA⟩
    unfold bX5_follow_79
    rw [hT.1, nI_leI (by omega) (by omega)]
    refine ⟨fun q => ?_, fun q => ?_⟩
    · refine hK g hfr ⟨hT, fun s hs => ?_⟩
      have h3 := wE_lt ho w.length s (Nat.le_refl _) hs
      have h4 := hA (wE w w.length s) (by omega)
      rw [wHE] at h4
      exact h4
    · refine u3_at (wfTrace_n2 ha) (by decide) (by omega) ?_
      rw [hT.2.2.2.1 k (by omega)]
      have h3 := wH_lt ho w.length k (Nat.le_refl _) (by omega)
      refine u3_put (wfTrace_n3 ha) (by decide) (by omega) ?_
      rw [nI_1]
      intro x e
      refine ⟨⟨k + 1, e, by omega, hfr.trans (fr_setf _ (by omega) (by omega)), ?_, fun p hp => ?_⟩, mu_up e (by omega) (by omega)⟩
      · exact hT.fr (setf_row (by omega)) (setf_row (by omega)) (setf_row (by omega)) (setf_row (by omega)) (setf_row (by omega)) (setf_row (by omega))
      · by_cases c : p = k
        · rw [c, setf_same]
        · rw [setf_off (Or.inr (fun q2 => c ?_))]
          · exact hA p (by omega)
          · have := congrArg (wE w w.length) q2
            rw [wEH, wEH] at this
            exact this

theorem metX5_follow (l : Launch) (G : Gl) (P : Sk) (f : St) (sz : Nat) (a : Nat) (ha : IsTrace P a) (b1 : Nat) (hb1 : IsWord P b1) (K : St → Prop) (h : kX5_follow P f a b1 K) : Met l yX5_follow (wU yX5_follow cX5_follow 3 none) rmX5_follow (PcW G P f sz [.ref a, .ref b1]) (QcV G P sz K) 0 0 (frA P sz) := by
  obtain ⟨I10, I53, I79, μ10, μ53, μ79, qh, qh10, qh53, qh79⟩ := wX5_follow P f a ha b1 hb1 K h
  exact mX5_follow l G P f sz a ha b1 hb1 K I10 μ10 I53 μ53 I79 μ79 qh qh10 qh53 qh79

def vX5_copyFrom (P : Sk) (f : St) (a : Nat) (b1 : Nat) (K : St → Prop) : Prop :=
  ∀ g5 : St, g5 = setf f a 7 (f b1 7) → kX3_copyFrom P g5 (a + 1) (b1 + 1) (fun g16 => kX3_copyFrom P g16 (a + 3) (b1 + 3) (fun g27 => kX3_copyFrom P g27 (a + 5) (b1 + 5) (fun g38 => kX3_copyFrom P g38 (a + 7) (b1 + 7) (fun g49 => kX3_copyFrom P g49 (a + 9) (b1 + 9) (fun g60 => kX3_copyFrom P g60 (a + 11) (b1 + 11) (fun g71 => K g71))))))
set_option maxRecDepth 20000 in
set_option maxHeartbeats 4000000 in
theorem mX5_copyFrom (l : Launch) (G : Gl) (P : Sk) (f : St) (sz : Nat) (a : Nat) (ha : IsTrace P a) (b1 : Nat) (hb1 : IsTrace P b1) (K : St → Prop) (h : vX5_copyFrom P f a b1 K)  :
  Met l yX5_copyFrom (wU yX5_copyFrom cX5_copyFrom 2 none) rmX5_copyFrom (PcW G P f sz [.ref a, .ref b1]) (QcV G P sz K) 0 0 (frA P sz) := by
  refine v_met (own := RX5) [.ref a, .ref b1] (by decide +kernel) rfl (Nat.le_of_ble_eq_true rfl) (fun p e s m args below meth c hsz o hr hnm => ?_)
  refine v_lv (lv2 := [(0, .ref a), (1, .ref b1)]) rfl ?_
  unfold vX5_copyFrom at h
  refine v_aload_n o 0 dX5_copyFrom_0 rfl ?_
  refine v_aload_n o 1 dX5_copyFrom_1 rfl ?_
  refine v_gfI o lkX5_38 (by decide) (wfTrace_o hb1) dX5_copyFrom_2 ?_
  refine v_pf o lpX5_38 (wfTrace_o ha) ⟨rfl, rfl⟩ dX5_copyFrom_5 ?_
  refine v_nmf (fun g5 eg5 => ?_)
  replace h := h g5 eg5
  refine v_aload_n o 0 dX5_copyFrom_8 rfl ?_
  refine v_gfR o lkX5_14 (by decide) (wfTrace_o ha) (wfTrace_r0 ha) dX5_copyFrom_9 ?_
  refine v_aload_n o 1 dX5_copyFrom_12 rfl ?_
  refine v_gfR o lkX5_14 (by decide) (wfTrace_o hb1) (wfTrace_r0 hb1) dX5_copyFrom_13 ?_
  refine v_cVv o [.ref (b1 + 1)] [] (fun sz => metX3_copyFrom l G P g5 sz (a + 1) (wfTrace_t0 ha) (b1 + 1) (wfTrace_t0 hb1) _ h) (cwX5_71 o.1.2.2.2.2 (by decide)) ⟨_, _, rfl⟩ (by decide) (wfRow_o (wfTrace_t0 ha)) rfl (Nat.le_of_ble_eq_true rfl) ⟨Nat.le_of_ble_eq_true rfl, Nat.le_of_ble_eq_true rfl⟩ dX5_copyFrom_16 rfl (fun g16 h => ?_)
  refine v_aload_n o 0 dX5_copyFrom_19 rfl ?_
  refine v_gfR o lkX5_20 (by decide) (wfTrace_o ha) (wfTrace_r1 ha) dX5_copyFrom_20 ?_
  refine v_aload_n o 1 dX5_copyFrom_23 rfl ?_
  refine v_gfR o lkX5_20 (by decide) (wfTrace_o hb1) (wfTrace_r1 hb1) dX5_copyFrom_24 ?_
  refine v_cVv o [.ref (b1 + 3)] [] (fun sz => metX3_copyFrom l G P g16 sz (a + 3) (wfTrace_t1 ha) (b1 + 3) (wfTrace_t1 hb1) _ h) (cwX5_71 o.1.2.2.2.2 (by decide)) ⟨_, _, rfl⟩ (by decide) (wfRow_o (wfTrace_t1 ha)) rfl (Nat.le_of_ble_eq_true rfl) ⟨Nat.le_of_ble_eq_true rfl, Nat.le_of_ble_eq_true rfl⟩ dX5_copyFrom_27 rfl (fun g27 h => ?_)
  refine v_aload_n o 0 dX5_copyFrom_30 rfl ?_
  refine v_gfR o lkX5_23 (by decide) (wfTrace_o ha) (wfTrace_r2 ha) dX5_copyFrom_31 ?_
  refine v_aload_n o 1 dX5_copyFrom_34 rfl ?_
  refine v_gfR o lkX5_23 (by decide) (wfTrace_o hb1) (wfTrace_r2 hb1) dX5_copyFrom_35 ?_
  refine v_cVv o [.ref (b1 + 5)] [] (fun sz => metX3_copyFrom l G P g27 sz (a + 5) (wfTrace_t2 ha) (b1 + 5) (wfTrace_t2 hb1) _ h) (cwX5_71 o.1.2.2.2.2 (by decide)) ⟨_, _, rfl⟩ (by decide) (wfRow_o (wfTrace_t2 ha)) rfl (Nat.le_of_ble_eq_true rfl) ⟨Nat.le_of_ble_eq_true rfl, Nat.le_of_ble_eq_true rfl⟩ dX5_copyFrom_38 rfl (fun g38 h => ?_)
  refine v_aload_n o 0 dX5_copyFrom_41 rfl ?_
  refine v_gfR o lkX5_26 (by decide) (wfTrace_o ha) (wfTrace_r3 ha) dX5_copyFrom_42 ?_
  refine v_aload_n o 1 dX5_copyFrom_45 rfl ?_
  refine v_gfR o lkX5_26 (by decide) (wfTrace_o hb1) (wfTrace_r3 hb1) dX5_copyFrom_46 ?_
  refine v_cVv o [.ref (b1 + 7)] [] (fun sz => metX3_copyFrom l G P g38 sz (a + 7) (wfTrace_t3 ha) (b1 + 7) (wfTrace_t3 hb1) _ h) (cwX5_71 o.1.2.2.2.2 (by decide)) ⟨_, _, rfl⟩ (by decide) (wfRow_o (wfTrace_t3 ha)) rfl (Nat.le_of_ble_eq_true rfl) ⟨Nat.le_of_ble_eq_true rfl, Nat.le_of_ble_eq_true rfl⟩ dX5_copyFrom_49 rfl (fun g49 h => ?_)
  refine v_aload_n o 0 dX5_copyFrom_52 rfl ?_
  refine v_gfR o lkX5_29 (by decide) (wfTrace_o ha) (wfTrace_r4 ha) dX5_copyFrom_53 ?_
  refine v_aload_n o 1 dX5_copyFrom_56 rfl ?_
  refine v_gfR o lkX5_29 (by decide) (wfTrace_o hb1) (wfTrace_r4 hb1) dX5_copyFrom_57 ?_
  refine v_cVv o [.ref (b1 + 9)] [] (fun sz => metX3_copyFrom l G P g49 sz (a + 9) (wfTrace_t4 ha) (b1 + 9) (wfTrace_t4 hb1) _ h) (cwX5_71 o.1.2.2.2.2 (by decide)) ⟨_, _, rfl⟩ (by decide) (wfRow_o (wfTrace_t4 ha)) rfl (Nat.le_of_ble_eq_true rfl) ⟨Nat.le_of_ble_eq_true rfl, Nat.le_of_ble_eq_true rfl⟩ dX5_copyFrom_60 rfl (fun g60 h => ?_)
  refine v_aload_n o 0 dX5_copyFrom_63 rfl ?_
  refine v_gfR o lkX5_32 (by decide) (wfTrace_o ha) (wfTrace_r5 ha) dX5_copyFrom_64 ?_
  refine v_aload_n o 1 dX5_copyFrom_67 rfl ?_
  refine v_gfR o lkX5_32 (by decide) (wfTrace_o hb1) (wfTrace_r5 hb1) dX5_copyFrom_68 ?_
  refine v_cVv o [.ref (b1 + 11)] [] (fun sz => metX3_copyFrom l G P g60 sz (a + 11) (wfTrace_t5 ha) (b1 + 11) (wfTrace_t5 hb1) _ h) (cwX5_71 o.1.2.2.2.2 (by decide)) ⟨_, _, rfl⟩ (by decide) (wfRow_o (wfTrace_t5 ha)) rfl (Nat.le_of_ble_eq_true rfl) ⟨Nat.le_of_ble_eq_true rfl, Nat.le_of_ble_eq_true rfl⟩ dX5_copyFrom_71 rfl (fun g71 h => ?_)
  exact v_vret o rfl hr dX5_copyFrom_74 h
abbrev kX5_copyFrom := @vX5_copyFrom
abbrev metX5_copyFrom := @mX5_copyFrom
theorem u5_copyFrom {P : Sk} {f : St} {a b n : Nat} {w : List Nat} {K : St → Prop} (ha : IsTrace P a) (hb : IsTrace P b) (hd : b + 15 ≤ a ∨ a + 15 ≤ b) (ho : Wok n w) (hT : TraceIs f b n w) (hK : ∀ g, Fr f g a (a + 15) → TraceIs g a n w → K g) : kX5_copyFrom P f a b K := by
  show vX5_copyFrom P f a b K
  unfold vX5_copyFrom
  have h7 := ho.2.1
  have hl := ho.2.2.1
  obtain ⟨⟨t0, t1, t2, t3, t4, t5⟩, t6⟩ := hT
  intro g0 e0
  have k0 : ∀ q, q ≠ a → g0 q = f q := fun q hq => by rw [e0, setf_row hq]
  refine u3_copyFrom (wfTrace_n0 ha) (wfTrace_n0 hb) (by decide) (fun g1 k1 c1 => ?_)
  refine u3_copyFrom (wfTrace_n1 ha) (wfTrace_n1 hb) (by decide) (fun g2 k2 c2 => ?_)
  refine u3_copyFrom (wfTrace_n2 ha) (wfTrace_n2 hb) (by decide) (fun g3 k3 c3 => ?_)
  refine u3_copyFrom (wfTrace_n3 ha) (wfTrace_n3 hb) (by decide) (fun g4 k4 c4 => ?_)
  refine u3_copyFrom (wfTrace_n4 ha) (wfTrace_n4 hb) (by decide) (fun g5 k5 c5 => ?_)
  refine u3_copyFrom (wfTrace_n5 ha) (wfTrace_n5 hb) (by decide) (fun g6 k6 c6 => ?_)
  refine hK g6 (fun q hq => ?_) ⟨⟨?_, fun i hi => ?_, fun i hi => ?_, fun p hp => ?_, fun s hs => ?_, fun s hs => ?_⟩, fun s hs => ?_⟩
  · rw [k6 q (by omega), k5 q (by omega), k4 q (by omega), k3 q (by omega), k2 q (by omega), k1 q (by omega), k0 q (by omega)]
  · rw [k6 _ (by omega), k5 _ (by omega), k4 _ (by omega), k3 _ (by omega), k2 _ (by omega), k1 _ (by omega), e0, setf_same, t0]
  · rw [k6 _ (by omega), k5 _ (by omega), k4 _ (by omega), k3 _ (by omega), k2 _ (by omega), c1 i (by omega), k0 _ (by omega), t1 i hi]
  · rw [k6 _ (by omega), k5 _ (by omega), k4 _ (by omega), k3 _ (by omega), c2 i (by omega), k1 _ (by omega), k0 _ (by omega), t2 i hi]
  · rw [k6 _ (by omega), k5 _ (by omega), k4 _ (by omega), c3 p (by omega), k2 _ (by omega), k1 _ (by omega), k0 _ (by omega), t3 p hp]
  · rw [k6 _ (by omega), c5 s (by omega), k4 _ (by omega), k3 _ (by omega), k2 _ (by omega), k1 _ (by omega), k0 _ (by omega), t4 s hs]
  · rw [c6 s (by omega), k5 _ (by omega), k4 _ (by omega), k3 _ (by omega), k2 _ (by omega), k1 _ (by omega), k0 _ (by omega), t5 s hs]
  · rw [k6 _ (by omega), k5 _ (by omega), c4 s (by omega), k3 _ (by omega), k2 _ (by omega), k1 _ (by omega), k0 _ (by omega), t6 s hs]

def vX5_hiddenAt (P : Sk) (f : St) (a : Nat) (p1 : Int32) (K : Int32 → St → Prop) : Prop :=
  kX3_at P f (a + 1) p1 (fun r5 g5 => K r5 g5)
set_option maxRecDepth 20000 in
set_option maxHeartbeats 4000000 in
theorem mX5_hiddenAt (l : Launch) (G : Gl) (P : Sk) (f : St) (sz : Nat) (a : Nat) (ha : IsTrace P a) (p1 : Int32) (K : Int32 → St → Prop) (h : vX5_hiddenAt P f a p1 K)  :
  Met l yX5_hiddenAt (wU yX5_hiddenAt cX5_hiddenAt 2 (some .int)) rmX5_hiddenAt (PcW G P f sz [.ref a, .int p1]) (QcI G P sz K) 0 0 (frA P sz) := by
  refine v_met (own := RX5) [.ref a, .int p1] (by decide +kernel) rfl (Nat.le_of_ble_eq_true rfl) (fun p e s m args below meth c hsz o hr hnm => ?_)
  refine v_lv (lv2 := [(0, .ref a), (1, .int p1)]) rfl ?_
  unfold vX5_hiddenAt at h
  refine v_aload_n o 0 dX5_hiddenAt_0 rfl ?_
  refine v_gfR o lkX5_14 (by decide) (wfTrace_o ha) (wfTrace_r0 ha) dX5_hiddenAt_1 ?_
  refine v_iload_n o 1 dX5_hiddenAt_4 rfl ?_
  refine v_cVi o [.int p1] [] (fun sz => metX3_at l G P f sz (a + 1) (wfTrace_t0 ha) p1 _ h) (cwX5_61 o.1.2.2.2.2 (by decide)) ⟨_, _, rfl⟩ (by decide) (wfRow_o (wfTrace_t0 ha)) rfl (Nat.le_of_ble_eq_true rfl) ⟨Nat.le_of_ble_eq_true rfl, Nat.le_of_ble_eq_true rfl⟩ dX5_hiddenAt_5 rfl (fun r5 g5 h => ?_)
  exact v_iret o rfl hr dX5_hiddenAt_8 h
abbrev kX5_hiddenAt := @vX5_hiddenAt
abbrev metX5_hiddenAt := @mX5_hiddenAt
theorem u5_hiddenAt {P : Sk} {f : St} {a n i : Nat} {w : List Nat} {K : Int32 → St → Prop} (ha : IsTrace P a) (ho : Wok n w) (hT : TraceIs f a n w) (hi : i < w.length) (hK : K (nI (hidA w i)) f) : kX5_hiddenAt P f a (nI i) K := by
  show vX5_hiddenAt P f a (nI i) K
  unfold vX5_hiddenAt
  have hl := ho.2.2.1
  refine u3_at (wfTrace_n0 ha) (by decide) (by omega) ?_
  rw [hT.1.2.1 i hi]
  exact hK

def vX5_aboveAt (P : Sk) (f : St) (a : Nat) (p1 : Int32) (K : Int32 → St → Prop) : Prop :=
  kX3_at P f (a + 3) p1 (fun r5 g5 => K r5 g5)
set_option maxRecDepth 20000 in
set_option maxHeartbeats 4000000 in
theorem mX5_aboveAt (l : Launch) (G : Gl) (P : Sk) (f : St) (sz : Nat) (a : Nat) (ha : IsTrace P a) (p1 : Int32) (K : Int32 → St → Prop) (h : vX5_aboveAt P f a p1 K)  :
  Met l yX5_aboveAt (wU yX5_aboveAt cX5_aboveAt 2 (some .int)) rmX5_aboveAt (PcW G P f sz [.ref a, .int p1]) (QcI G P sz K) 0 0 (frA P sz) := by
  refine v_met (own := RX5) [.ref a, .int p1] (by decide +kernel) rfl (Nat.le_of_ble_eq_true rfl) (fun p e s m args below meth c hsz o hr hnm => ?_)
  refine v_lv (lv2 := [(0, .ref a), (1, .int p1)]) rfl ?_
  unfold vX5_aboveAt at h
  refine v_aload_n o 0 dX5_aboveAt_0 rfl ?_
  refine v_gfR o lkX5_20 (by decide) (wfTrace_o ha) (wfTrace_r1 ha) dX5_aboveAt_1 ?_
  refine v_iload_n o 1 dX5_aboveAt_4 rfl ?_
  refine v_cVi o [.int p1] [] (fun sz => metX3_at l G P f sz (a + 3) (wfTrace_t1 ha) p1 _ h) (cwX5_61 o.1.2.2.2.2 (by decide)) ⟨_, _, rfl⟩ (by decide) (wfRow_o (wfTrace_t1 ha)) rfl (Nat.le_of_ble_eq_true rfl) ⟨Nat.le_of_ble_eq_true rfl, Nat.le_of_ble_eq_true rfl⟩ dX5_aboveAt_5 rfl (fun r5 g5 h => ?_)
  exact v_iret o rfl hr dX5_aboveAt_8 h
abbrev kX5_aboveAt := @vX5_aboveAt
abbrev metX5_aboveAt := @mX5_aboveAt
theorem u5_aboveAt {P : Sk} {f : St} {a n i : Nat} {w : List Nat} {K : Int32 → St → Prop} (ha : IsTrace P a) (ho : Wok n w) (hT : TraceIs f a n w) (hi : i < w.length) (hK : K (nI (abvA w i)) f) : kX5_aboveAt P f a (nI i) K := by
  show vX5_aboveAt P f a (nI i) K
  unfold vX5_aboveAt
  have hl := ho.2.2.1
  refine u3_at (wfTrace_n1 ha) (by decide) (by omega) ?_
  rw [hT.1.2.2.1 i hi]
  exact hK

def vX5_doughUsed (P : Sk) (f : St) (a : Nat) (p1 : Int32) (K : Int32 → St → Prop) : Prop :=
  kX3_at P f (a + 11) p1 (fun r5 g5 => kX3_at P g5 (a + 9) p1 (fun r14 g14 => K (r5 + (2 * r14)) g14))
set_option maxRecDepth 20000 in
set_option maxHeartbeats 4000000 in
theorem mX5_doughUsed (l : Launch) (G : Gl) (P : Sk) (f : St) (sz : Nat) (a : Nat) (ha : IsTrace P a) (p1 : Int32) (K : Int32 → St → Prop) (h : vX5_doughUsed P f a p1 K)  :
  Met l yX5_doughUsed (wU yX5_doughUsed cX5_doughUsed 2 (some .int)) rmX5_doughUsed (PcW G P f sz [.ref a, .int p1]) (QcI G P sz K) 0 0 (frA P sz) := by
  refine v_met (own := RX5) [.ref a, .int p1] (by decide +kernel) rfl (Nat.le_of_ble_eq_true rfl) (fun p e s m args below meth c hsz o hr hnm => ?_)
  refine v_lv (lv2 := [(0, .ref a), (1, .int p1)]) rfl ?_
  unfold vX5_doughUsed at h
  refine v_aload_n o 0 dX5_doughUsed_0 rfl ?_
  refine v_gfR o lkX5_32 (by decide) (wfTrace_o ha) (wfTrace_r5 ha) dX5_doughUsed_1 ?_
  refine v_iload_n o 1 dX5_doughUsed_4 rfl ?_
  refine v_cVi o [.int p1] [] (fun sz => metX3_at l G P f sz (a + 11) (wfTrace_t5 ha) p1 _ h) (cwX5_61 o.1.2.2.2.2 (by decide)) ⟨_, _, rfl⟩ (by decide) (wfRow_o (wfTrace_t5 ha)) rfl (Nat.le_of_ble_eq_true rfl) ⟨Nat.le_of_ble_eq_true rfl, Nat.le_of_ble_eq_true rfl⟩ dX5_doughUsed_5 rfl (fun r5 g5 h => ?_)
  refine v_iconst o (v := 2) dX5_doughUsed_8 (by decide) ?_
  refine v_aload_n o 0 dX5_doughUsed_9 rfl ?_
  refine v_gfR o lkX5_29 (by decide) (wfTrace_o ha) (wfTrace_r4 ha) dX5_doughUsed_10 ?_
  refine v_iload_n o 1 dX5_doughUsed_13 rfl ?_
  refine v_cVi o [.int p1] [.int 2, .int r5] (fun sz => metX3_at l G P g5 sz (a + 9) (wfTrace_t4 ha) p1 _ h) (cwX5_61 o.1.2.2.2.2 (by decide)) ⟨_, _, rfl⟩ (by decide) (wfRow_o (wfTrace_t4 ha)) rfl (Nat.le_of_ble_eq_true rfl) ⟨Nat.le_of_ble_eq_true rfl, Nat.le_of_ble_eq_true rfl⟩ dX5_doughUsed_14 rfl (fun r14 g14 h => ?_)
  refine v_imul o dX5_doughUsed_17 ?_
  refine v_iadd o dX5_doughUsed_18 ?_
  exact v_iret o rfl hr dX5_doughUsed_19 h
abbrev kX5_doughUsed := @vX5_doughUsed
abbrev metX5_doughUsed := @mX5_doughUsed
theorem u5_doughUsed {P : Sk} {f : St} {a n s : Nat} {w : List Nat} {K : Int32 → St → Prop} (ha : IsTrace P a) (ho : Wok n w) (hT : TraceIs f a n w) (hs : s < n) (hK : K (nI (dgh w s)) f) : kX5_doughUsed P f a (nI s) K := by
  show vX5_doughUsed P f a (nI s) K
  unfold vX5_doughUsed
  have h7 := ho.2.1
  refine u3_at (wfTrace_n5 ha) (by decide) (by omega) ?_
  refine u3_at (wfTrace_n4 ha) (by decide) (by omega) ?_
  rw [hT.1.2.2.2.2.1 s hs, hT.1.2.2.2.2.2 s hs, show (2 : Int32) = nI 2 from rfl, nI_mul, nI_add]
  exact hK

def bX5_doughUsedByAll_4 (P : Sk) (a : Nat) (L4 : St → Int32 → Int32 → Prop) (K : Int32 → St → Prop) (f : St) (x1 : Int32) (x2 : Int32) : Prop :=
  (f a 7 ≤ x2 → K x1 f) ∧ (¬ f a 7 ≤ x2 → kX5_doughUsed P f a x2 (fun r15 g15 => ∀ x1_19 : Int32, x1_19 = x1 + r15 → ∀ x2_20 : Int32, x2_20 = x2 + 1 → L4 g15 x1_19 x2_20))
def vX5_doughUsedByAll (P : Sk) (f : St) (a : Nat) (L4 : St → Int32 → Int32 → Prop) (K : Int32 → St → Prop) : Prop :=
  L4 f 0 0
set_option maxRecDepth 20000 in
set_option maxHeartbeats 4000000 in
theorem mX5_doughUsedByAll (l : Launch) (G : Gl) (P : Sk) (f : St) (sz : Nat) (a : Nat) (ha : IsTrace P a) (K : Int32 → St → Prop) (I4 : St → Int32 → Int32 → Prop) (μ4 : St → Int32 → Int32 → Nat) 
  (h : vX5_doughUsedByAll P f a I4 K)
  (h4 : ∀ (g : St) (x1 : Int32) (x2 : Int32) , I4 g x1 x2 → bX5_doughUsedByAll_4 P a (fun g' z0 z1 => I4 g' z0 z1 ∧ μ4 g' z0 z1 < μ4 g x1 x2) K g x1 x2) :
  Met l yX5_doughUsedByAll (wU yX5_doughUsedByAll cX5_doughUsedByAll 3 (some .int)) rmX5_doughUsedByAll (PcW G P f sz [.ref a]) (QcI G P sz K) 0 0 (frA P sz) := by
  refine v_met (own := RX5) [.ref a] (by decide +kernel) rfl (Nat.le_of_ble_eq_true rfl) (fun p e s m args below meth c hsz o hr hnm => ?_)
  refine v_lv (lv2 := [(0, .ref a)]) rfl ?_
  have main : ∀ n : Nat, (∀ (g : St) (x1 : Int32) (x2 : Int32) , I4 g x1 x2 → μ4 g x1 x2 < n → V p l e rmX5_doughUsedByAll s m args below meth c 3 G (frA P sz) (MQ below (QcI G P sz K) args s 0 0 (frA P sz)) 0 0 P [(0, .ref a), (1, .int x1), (2, .int x2)] [] 4 g) := by
    intro n
    induction n with
    | zero => exact fun g x1 x2 hI hm => absurd hm (Nat.not_lt_zero _)
    | succ n ih =>
      intro g x1 x2 hI hm
      have h := h4 g x1 x2 hI
      clear hI
      unfold bX5_doughUsedByAll_4 at h
      refine v_iload_n o 2 dX5_doughUsedByAll_4 rfl ?_
      refine v_aload_n o 0 dX5_doughUsedByAll_5 rfl ?_
      refine v_gfI o lkX5_38 (by decide) (wfTrace_o ha) dX5_doughUsedByAll_6 ?_
      refine v_icmp_ge o (tgt := 26) dX5_doughUsedByAll_9 (by decide) (fun c9 => ?_) (fun c9 => ?_)
      · replace h := h.1 c9
        refine v_iload_n o 1 dX5_doughUsedByAll_26 rfl ?_
        exact v_iret o rfl hr dX5_doughUsedByAll_27 h
      · replace h := h.2 c9
        refine v_iload_n o 1 dX5_doughUsedByAll_12 rfl ?_
        refine v_aload_n o 0 dX5_doughUsedByAll_13 rfl ?_
        refine v_iload_n o 2 dX5_doughUsedByAll_14 rfl ?_
        refine v_cVi o [.int x2] [.int x1] (fun sz => metX5_doughUsed l G P g sz a ha x2 _ h) (cwX5_75 o.1.2.2.2.2 (by decide)) ⟨_, _, rfl⟩ (by decide) (wfTrace_o ha) rfl (Nat.le_of_ble_eq_true rfl) ⟨Nat.le_of_ble_eq_true rfl, Nat.le_of_ble_eq_true rfl⟩ dX5_doughUsedByAll_15 rfl (fun r15 g15 h => ?_)
        refine v_iadd o dX5_doughUsedByAll_18 ?_
        refine v_topi (fun x1_19 ex1_19 => ?_)
        replace h := h x1_19 ex1_19
        refine v_istore_n o (lv' := [(1, .int x1_19), (0, .ref a), (2, .int x2)]) dX5_doughUsedByAll_19 rfl (by decide) rfl ?_
        obtain ⟨x2_20, ex2_20⟩ : ∃ y : Int32, y = x2 + 1 := ⟨_, rfl⟩
        replace h := h x2_20 ex2_20
        refine v_iinc o (v := x2_20) (lv' := [(2, .int x2_20), (1, .int x1_19), (0, .ref a)]) 2 dX5_doughUsedByAll_20 rfl (by rw [ex2_20]; rfl) (by decide) rfl ?_
        refine v_goto o (tgt := 4) dX5_doughUsedByAll_23 (by decide) ?_
        refine v_sub [2, 1, 0] (lv2 := [(0, .ref a), (1, .int x1_19), (2, .int x2_20)]) rfl ?_
        exact ih g15 x1_19 x2_20  h.1 (by have := h.2; omega)
  unfold vX5_doughUsedByAll at h
  refine v_iconst o (v := 0) dX5_doughUsedByAll_0 (by decide) ?_
  refine v_istore_n o (lv' := [(1, .int 0), (0, .ref a)]) dX5_doughUsedByAll_1 rfl (by decide) rfl ?_
  refine v_iconst o (v := 0) dX5_doughUsedByAll_2 (by decide) ?_
  refine v_istore_n o (lv' := [(2, .int 0), (1, .int 0), (0, .ref a)]) dX5_doughUsedByAll_3 rfl (by decide) rfl ?_
  refine v_sub [2, 1, 0] (lv2 := [(0, .ref a), (1, .int 0), (2, .int 0)]) rfl ?_
  exact (main (μ4 f 0 0 + 1)) f 0 0  h (Nat.lt_succ_self _)
def WX5_doughUsedByAll (P : Sk) (f : St) (a : Nat) (K : Int32 → St → Prop) : Prop := ∃ (I4 : St → Int32 → Int32 → Prop) (μ4 : St → Int32 → Int32 → Nat), (vX5_doughUsedByAll P f a I4 K) ∧ (∀ (g : St) (x1 : Int32) (x2 : Int32) , I4 g x1 x2 → bX5_doughUsedByAll_4 P a (fun g' z0 z1 => I4 g' z0 z1 ∧ μ4 g' z0 z1 < μ4 g x1 x2) K g x1 x2)
theorem dgh_le {n : Nat} {w : List Nat} (ho : Wok n w) (s : Nat) : dgh w s ≤ 72 := by
  have := ho.2.2.1
  have := tU_le w w.length s
  have := tA_le w w.length s
  unfold dgh
  omega
def kX5_doughUsedByAll (P : Sk) (f : St) (a : Nat) (K : Int32 → St → Prop) : Prop := ∃ n w, TraceIs f a n w ∧ Wok n w ∧ K (nI (3 * w.length)) f
theorem wX5_doughUsedByAll (P : Sk) (f : St) (a : Nat) (ha : IsTrace P a) (K : Int32 → St → Prop) (h : kX5_doughUsedByAll P f a K) : WX5_doughUsedByAll P f a K := by
  obtain ⟨n, w, hT, ho, hK⟩ := h
  have h7 := ho.2.1
  refine ⟨fun g x1 x2 => ∃ k, x2 = nI k ∧ k ≤ n ∧ g = f ∧ x1 = nI (sumN (dgh w) k), fun g x1 x2 => n - x2.toNatClampNeg, ?_, ?_⟩
  · unfold vX5_doughUsedByAll
    exact ⟨0, rfl, Nat.zero_le _, rfl, rfl⟩
  · rintro g x1 x2 ⟨k, rfl, hk, rfl, rfl⟩
    unfold bX5_doughUsedByAll_4
    rw [hT.1.1, nI_leI (by omega) (by omega)]
    refine ⟨fun q => ?_, fun q => ?_⟩
    · rw [show k = n by omega, sum_dgh ho]
      exact hK
    · refine u5_doughUsed ha ho hT (by omega) ?_
      rw [nI_1, nI_add]
      exact fun x e y e2 => ⟨⟨k + 1, e2, by omega, rfl, e⟩, mu_up e2 (by omega) (by omega)⟩

theorem metX5_doughUsedByAll (l : Launch) (G : Gl) (P : Sk) (f : St) (sz : Nat) (a : Nat) (ha : IsTrace P a) (K : Int32 → St → Prop) (h : kX5_doughUsedByAll P f a K) : Met l yX5_doughUsedByAll (wU yX5_doughUsedByAll cX5_doughUsedByAll 3 (some .int)) rmX5_doughUsedByAll (PcW G P f sz [.ref a]) (QcI G P sz K) 0 0 (frA P sz) := by
  obtain ⟨I4, μ4, qh, qh4⟩ := wX5_doughUsedByAll P f a ha K h
  exact mX5_doughUsedByAll l G P f sz a ha K I4 μ4 qh qh4

def bX5_hasDoughForAll_2 (P : Sk) (a : Nat) (L2 : St → Int32 → Prop) (K : Int32 → St → Prop) (f : St) (x1 : Int32) : Prop :=
  (f a 7 ≤ x1 → K 1 f) ∧ (¬ f a 7 ≤ x1 → kX5_doughUsed P f a x1 (fun r12 g12 => (r12 ≤ 30 → ∀ x1_22 : Int32, x1_22 = x1 + 1 → L2 g12 x1_22) ∧ (¬ r12 ≤ 30 → K 0 g12)))
def vX5_hasDoughForAll (P : Sk) (f : St) (a : Nat) (L2 : St → Int32 → Prop) (K : Int32 → St → Prop) : Prop :=
  L2 f 0
set_option maxRecDepth 20000 in
set_option maxHeartbeats 4000000 in
theorem mX5_hasDoughForAll (l : Launch) (G : Gl) (P : Sk) (f : St) (sz : Nat) (a : Nat) (ha : IsTrace P a) (K : Int32 → St → Prop) (I2 : St → Int32 → Prop) (μ2 : St → Int32 → Nat) 
  (h : vX5_hasDoughForAll P f a I2 K)
  (h2 : ∀ (g : St) (x1 : Int32) , I2 g x1 → bX5_hasDoughForAll_2 P a (fun g' z0 => I2 g' z0 ∧ μ2 g' z0 < μ2 g x1) K g x1) :
  Met l yX5_hasDoughForAll (wU yX5_hasDoughForAll cX5_hasDoughForAll 2 (some .boolean)) rmX5_hasDoughForAll (PcW G P f sz [.ref a]) (QcI G P sz K) 0 0 (frA P sz) := by
  refine v_met (own := RX5) [.ref a] (by decide +kernel) rfl (Nat.le_of_ble_eq_true rfl) (fun p e s m args below meth c hsz o hr hnm => ?_)
  refine v_lv (lv2 := [(0, .ref a)]) rfl ?_
  have main : ∀ n : Nat, (∀ (g : St) (x1 : Int32) , I2 g x1 → μ2 g x1 < n → V p l e rmX5_hasDoughForAll s m args below meth c 2 G (frA P sz) (MQ below (QcI G P sz K) args s 0 0 (frA P sz)) 0 0 P [(0, .ref a), (1, .int x1)] [] 2 g) := by
    intro n
    induction n with
    | zero => exact fun g x1 hI hm => absurd hm (Nat.not_lt_zero _)
    | succ n ih =>
      intro g x1 hI hm
      have h := h2 g x1 hI
      clear hI
      unfold bX5_hasDoughForAll_2 at h
      refine v_iload_n o 1 dX5_hasDoughForAll_2 rfl ?_
      refine v_aload_n o 0 dX5_hasDoughForAll_3 rfl ?_
      refine v_gfI o lkX5_38 (by decide) (wfTrace_o ha) dX5_hasDoughForAll_4 ?_
      refine v_icmp_ge o (tgt := 28) dX5_hasDoughForAll_7 (by decide) (fun c7 => ?_) (fun c7 => ?_)
      · replace h := h.1 c7
        refine v_iconst o (v := 1) dX5_hasDoughForAll_28 (by decide) ?_
        exact v_zret o rfl hr bz1.1 dX5_hasDoughForAll_29 h
      · replace h := h.2 c7
        refine v_aload_n o 0 dX5_hasDoughForAll_10 rfl ?_
        refine v_iload_n o 1 dX5_hasDoughForAll_11 rfl ?_
        refine v_cVi o [.int x1] [] (fun sz => metX5_doughUsed l G P g sz a ha x1 _ h) (cwX5_75 o.1.2.2.2.2 (by decide)) ⟨_, _, rfl⟩ (by decide) (wfTrace_o ha) rfl (Nat.le_of_ble_eq_true rfl) ⟨Nat.le_of_ble_eq_true rfl, Nat.le_of_ble_eq_true rfl⟩ dX5_hasDoughForAll_12 rfl (fun r12 g12 h => ?_)
        refine v_bipush o (v := 30) dX5_hasDoughForAll_15 (by decide) ?_
        refine v_icmp_le o (tgt := 22) dX5_hasDoughForAll_17 (by decide) (fun c17 => ?_) (fun c17 => ?_)
        · replace h := h.1 c17
          obtain ⟨x1_22, ex1_22⟩ : ∃ y : Int32, y = x1 + 1 := ⟨_, rfl⟩
          replace h := h x1_22 ex1_22
          refine v_iinc o (v := x1_22) (lv' := [(1, .int x1_22), (0, .ref a)]) 1 dX5_hasDoughForAll_22 rfl (by rw [ex1_22]; rfl) (by decide) rfl ?_
          refine v_goto o (tgt := 2) dX5_hasDoughForAll_25 (by decide) ?_
          refine v_sub [1, 0] (lv2 := [(0, .ref a), (1, .int x1_22)]) rfl ?_
          exact ih g12 x1_22  h.1 (by have := h.2; omega)
        · replace h := h.2 c17
          refine v_iconst o (v := 0) dX5_hasDoughForAll_20 (by decide) ?_
          exact v_zret o rfl hr bz0.1 dX5_hasDoughForAll_21 h
  unfold vX5_hasDoughForAll at h
  refine v_iconst o (v := 0) dX5_hasDoughForAll_0 (by decide) ?_
  refine v_istore_n o (lv' := [(1, .int 0), (0, .ref a)]) dX5_hasDoughForAll_1 rfl (by decide) rfl ?_
  refine v_sub [1, 0] (lv2 := [(0, .ref a), (1, .int 0)]) rfl ?_
  exact (main (μ2 f 0 + 1)) f 0  h (Nat.lt_succ_self _)
def WX5_hasDoughForAll (P : Sk) (f : St) (a : Nat) (K : Int32 → St → Prop) : Prop := ∃ (I2 : St → Int32 → Prop) (μ2 : St → Int32 → Nat), (vX5_hasDoughForAll P f a I2 K) ∧ (∀ (g : St) (x1 : Int32) , I2 g x1 → bX5_hasDoughForAll_2 P a (fun g' z0 => I2 g' z0 ∧ μ2 g' z0 < μ2 g x1) K g x1)
def kX5_hasDoughForAll (P : Sk) (f : St) (a : Nat) (K : Int32 → St → Prop) : Prop := ∃ n w, TraceIs f a n w ∧ Wok n w ∧ (Dok n w → K 1 f) ∧ (¬ Dok n w → K 0 f)
theorem wX5_hasDoughForAll (P : Sk) (f : St) (a : Nat) (ha : IsTrace P a) (K : Int32 → St → Prop) (h : kX5_hasDoughForAll P f a K) : WX5_hasDoughForAll P f a K := by
  obtain ⟨n, w, hT, ho, hK1, hK0⟩ := h
  have h7 := ho.2.1
  refine ⟨fun g x => ∃ k, x = nI k ∧ k ≤ n ∧ g = f ∧ ∀ s, s < k → dgh w s ≤ 30, fun g x => n - x.toNatClampNeg, ?_, ?_⟩
  · unfold vX5_hasDoughForAll
    exact ⟨0, rfl, Nat.zero_le _, rfl, fun s hs => absurd hs (Nat.not_lt_zero _)⟩
  · rintro g x ⟨k, rfl, hk, rfl, hA⟩
    unfold bX5_hasDoughForAll_2
    rw [hT.1.1, nI_leI (by omega) (by omega)]
    refine ⟨fun q => hK1 (fun s hs => hA s (by omega)), fun q => ?_⟩
    refine u5_doughUsed ha ho hT (by omega) ?_
    have := dgh_le ho k
    rw [nI_1, show (30 : Int32) = nI 30 from rfl, nI_leI (by omega) (by omega)]
    refine ⟨fun q2 x e => ⟨⟨k + 1, e, by omega, rfl, fun s hs => ?_⟩, mu_up e (by omega) (by omega)⟩, fun q2 => hK0 (fun q3 => q2 (q3 k (by omega)))⟩
    by_cases c : s = k
    · rw [c]
      exact q2
    · exact hA s (by omega)

theorem metX5_hasDoughForAll (l : Launch) (G : Gl) (P : Sk) (f : St) (sz : Nat) (a : Nat) (ha : IsTrace P a) (K : Int32 → St → Prop) (h : kX5_hasDoughForAll P f a K) : Met l yX5_hasDoughForAll (wU yX5_hasDoughForAll cX5_hasDoughForAll 2 (some .boolean)) rmX5_hasDoughForAll (PcW G P f sz [.ref a]) (QcI G P sz K) 0 0 (frA P sz) := by
  obtain ⟨I2, μ2, qh, qh2⟩ := wX5_hasDoughForAll P f a ha K h
  exact mX5_hasDoughForAll l G P f sz a ha K I2 μ2 qh qh2

def vX5_numberOfStrand (P : Sk) (f : St) (a : Nat) (p1 : Int32) (p2 : Int32) (K : Int32 → St → Prop) : Prop :=
  (p1 < 0 → K (-1) f) ∧ (¬ p1 < 0 → (p1 < f a 7 → (p2 = 0 → kX3_at P f (a + 7) p1 (fun r49 g49 => K r49 g49)) ∧ (¬ p2 = 0 → (p2 = 1 → kX3_at P f (a + 9) p1 (fun r58 g58 => K r58 g58)) ∧ (¬ p2 = 1 → (p2 = 2 → kX3_at P f (a + 11) p1 (fun r67 g67 => K r67 g67)) ∧ (¬ p2 = 2 → (p2 = 3 → kX5_doughUsed P f a p1 (fun r75 g75 => K (30 - r75) g75)) ∧ (¬ p2 = 3 → kX3_at P f (a + 5) p1 (fun r85 g85 => K r85 g85)))))) ∧ (¬ p1 < f a 7 → K (-1) f))
set_option maxRecDepth 20000 in
set_option maxHeartbeats 4000000 in
theorem mX5_numberOfStrand (l : Launch) (G : Gl) (P : Sk) (f : St) (sz : Nat) (a : Nat) (ha : IsTrace P a) (p1 : Int32) (p2 : Int32) (K : Int32 → St → Prop) (h : vX5_numberOfStrand P f a p1 p2 K)  :
  Met l yX5_numberOfStrand (wU yX5_numberOfStrand cX5_numberOfStrand 3 (some .int)) rmX5_numberOfStrand (PcW G P f sz [.ref a, .int p1, .int p2]) (QcI G P sz K) 0 0 (frA P sz) := by
  refine v_met (own := RX5) [.ref a, .int p1, .int p2] (by decide +kernel) rfl (Nat.le_of_ble_eq_true rfl) (fun p e s m args below meth c hsz o hr hnm => ?_)
  refine v_lv (lv2 := [(0, .ref a), (1, .int p1), (2, .int p2)]) rfl ?_
  unfold vX5_numberOfStrand at h
  refine v_iload_n o 1 dX5_numberOfStrand_0 rfl ?_
  refine v_if_lt o (tgt := 12) dX5_numberOfStrand_1 (by decide) (fun c1 => ?_) (fun c1 => ?_)
  · replace h := h.1 c1
    refine v_iconst o (v := (-1)) dX5_numberOfStrand_12 (by decide) ?_
    exact v_iret o rfl hr dX5_numberOfStrand_13 h
  · replace h := h.2 c1
    refine v_iload_n o 1 dX5_numberOfStrand_4 rfl ?_
    refine v_aload_n o 0 dX5_numberOfStrand_5 rfl ?_
    refine v_gfI o lkX5_38 (by decide) (wfTrace_o ha) dX5_numberOfStrand_6 ?_
    refine v_icmp_lt o (tgt := 14) dX5_numberOfStrand_9 (by decide) (fun c9 => ?_) (fun c9 => ?_)
    · replace h := h.1 c9
      refine v_iload_n o 2 dX5_numberOfStrand_14 rfl ?_
      by_cases c15_0 : p2 = 0
      · replace h := h.1 c15_0
        refine v_tableIn o (off := 29) (tgt := 44) dX5_numberOfStrand_15 (by rw [c15_0]; decide) (by rw [c15_0]; decide) (by rw [c15_0]; decide) (by decide) ?_
        refine v_aload_n o 0 dX5_numberOfStrand_44 rfl ?_
        refine v_gfR o lkX5_26 (by decide) (wfTrace_o ha) (wfTrace_r3 ha) dX5_numberOfStrand_45 ?_
        refine v_iload_n o 1 dX5_numberOfStrand_48 rfl ?_
        refine v_cVi o [.int p1] [] (fun sz => metX3_at l G P f sz (a + 7) (wfTrace_t3 ha) p1 _ h) (cwX5_61 o.1.2.2.2.2 (by decide)) ⟨_, _, rfl⟩ (by decide) (wfRow_o (wfTrace_t3 ha)) rfl (Nat.le_of_ble_eq_true rfl) ⟨Nat.le_of_ble_eq_true rfl, Nat.le_of_ble_eq_true rfl⟩ dX5_numberOfStrand_49 rfl (fun r49 g49 h => ?_)
        exact v_iret o rfl hr dX5_numberOfStrand_52 h
      · replace h := h.2 c15_0
        by_cases c15_1 : p2 = 1
        · replace h := h.1 c15_1
          refine v_tableIn o (off := 38) (tgt := 53) dX5_numberOfStrand_15 (by rw [c15_1]; decide) (by rw [c15_1]; decide) (by rw [c15_1]; decide) (by decide) ?_
          refine v_aload_n o 0 dX5_numberOfStrand_53 rfl ?_
          refine v_gfR o lkX5_29 (by decide) (wfTrace_o ha) (wfTrace_r4 ha) dX5_numberOfStrand_54 ?_
          refine v_iload_n o 1 dX5_numberOfStrand_57 rfl ?_
          refine v_cVi o [.int p1] [] (fun sz => metX3_at l G P f sz (a + 9) (wfTrace_t4 ha) p1 _ h) (cwX5_61 o.1.2.2.2.2 (by decide)) ⟨_, _, rfl⟩ (by decide) (wfRow_o (wfTrace_t4 ha)) rfl (Nat.le_of_ble_eq_true rfl) ⟨Nat.le_of_ble_eq_true rfl, Nat.le_of_ble_eq_true rfl⟩ dX5_numberOfStrand_58 rfl (fun r58 g58 h => ?_)
          exact v_iret o rfl hr dX5_numberOfStrand_61 h
        · replace h := h.2 c15_1
          by_cases c15_2 : p2 = 2
          · replace h := h.1 c15_2
            refine v_tableIn o (off := 47) (tgt := 62) dX5_numberOfStrand_15 (by rw [c15_2]; decide) (by rw [c15_2]; decide) (by rw [c15_2]; decide) (by decide) ?_
            refine v_aload_n o 0 dX5_numberOfStrand_62 rfl ?_
            refine v_gfR o lkX5_32 (by decide) (wfTrace_o ha) (wfTrace_r5 ha) dX5_numberOfStrand_63 ?_
            refine v_iload_n o 1 dX5_numberOfStrand_66 rfl ?_
            refine v_cVi o [.int p1] [] (fun sz => metX3_at l G P f sz (a + 11) (wfTrace_t5 ha) p1 _ h) (cwX5_61 o.1.2.2.2.2 (by decide)) ⟨_, _, rfl⟩ (by decide) (wfRow_o (wfTrace_t5 ha)) rfl (Nat.le_of_ble_eq_true rfl) ⟨Nat.le_of_ble_eq_true rfl, Nat.le_of_ble_eq_true rfl⟩ dX5_numberOfStrand_67 rfl (fun r67 g67 h => ?_)
            exact v_iret o rfl hr dX5_numberOfStrand_70 h
          · replace h := h.2 c15_2
            by_cases c15_3 : p2 = 3
            · replace h := h.1 c15_3
              refine v_tableIn o (off := 56) (tgt := 71) dX5_numberOfStrand_15 (by rw [c15_3]; decide) (by rw [c15_3]; decide) (by rw [c15_3]; decide) (by decide) ?_
              refine v_bipush o (v := 30) dX5_numberOfStrand_71 (by decide) ?_
              refine v_aload_n o 0 dX5_numberOfStrand_73 rfl ?_
              refine v_iload_n o 1 dX5_numberOfStrand_74 rfl ?_
              refine v_cVi o [.int p1] [.int 30] (fun sz => metX5_doughUsed l G P f sz a ha p1 _ h) (cwX5_75 o.1.2.2.2.2 (by decide)) ⟨_, _, rfl⟩ (by decide) (wfTrace_o ha) rfl (Nat.le_of_ble_eq_true rfl) ⟨Nat.le_of_ble_eq_true rfl, Nat.le_of_ble_eq_true rfl⟩ dX5_numberOfStrand_75 rfl (fun r75 g75 h => ?_)
              refine v_isub o dX5_numberOfStrand_78 ?_
              exact v_iret o rfl hr dX5_numberOfStrand_79 h
            · replace h := h.2 c15_3
              refine v_tableOut o (tgt := 80) dX5_numberOfStrand_15 (by have q0 := lv_neT c15_0 (a := 0) (by decide); have q1 := lv_neT c15_1 (a := 1) (by decide); have q2 := lv_neT c15_2 (a := 2) (by decide); have q3 := lv_neT c15_3 (a := 3) (by decide); omega) (by decide) ?_
              refine v_aload_n o 0 dX5_numberOfStrand_80 rfl ?_
              refine v_gfR o lkX5_23 (by decide) (wfTrace_o ha) (wfTrace_r2 ha) dX5_numberOfStrand_81 ?_
              refine v_iload_n o 1 dX5_numberOfStrand_84 rfl ?_
              refine v_cVi o [.int p1] [] (fun sz => metX3_at l G P f sz (a + 5) (wfTrace_t2 ha) p1 _ h) (cwX5_61 o.1.2.2.2.2 (by decide)) ⟨_, _, rfl⟩ (by decide) (wfRow_o (wfTrace_t2 ha)) rfl (Nat.le_of_ble_eq_true rfl) ⟨Nat.le_of_ble_eq_true rfl, Nat.le_of_ble_eq_true rfl⟩ dX5_numberOfStrand_85 rfl (fun r85 g85 h => ?_)
              exact v_iret o rfl hr dX5_numberOfStrand_88 h
    · replace h := h.2 c9
      refine v_iconst o (v := (-1)) dX5_numberOfStrand_12 (by decide) ?_
      exact v_iret o rfl hr dX5_numberOfStrand_13 h
abbrev kX5_numberOfStrand := @vX5_numberOfStrand
abbrev metX5_numberOfStrand := @mX5_numberOfStrand
/-- what is told of a strand -/
def stN (n : Nat) (w : List Nat) (s what : Nat) : Nat := if what = 0 then wE w w.length s else if what = 1 then tU w w.length s else if what = 2 then tA w w.length s else if what = 3 then 30 - dgh w s else wH w w.length s
theorem u5_numberOfStrand {P : Sk} {f : St} {a n s what : Nat} {w : List Nat} {K : Int32 → St → Prop} (ha : IsTrace P a) (ho : Wok n w) (hd : Dok n w) (hT : TraceIs f a n w) (hs : s < 7) (hw : what < 5) (hK1 : s < n → K (nI (stN n w s what)) f) (hK0 : ¬ s < n → K (-1) f) : kX5_numberOfStrand P f a (nI s) (nI what) K := by
  show vX5_numberOfStrand P f a (nI s) (nI what) K
  unfold vX5_numberOfStrand
  have h7 := ho.2.1
  rw [hT.1.1, nI_ltI (by omega) (by omega), show (1 : Int32) = nI 1 from rfl, show (2 : Int32) = nI 2 from rfl, show (3 : Int32) = nI 3 from rfl, nI_eq (by omega) (by omega), nI_eq (by omega) (by omega), nI_eq (by omega) (by omega)]
  refine ⟨fun q => absurd q (nI_nn (by omega)), fun _ => ⟨fun q => ?_, hK0⟩⟩
  have hK := hK1 q
  unfold stN at hK
  rw [show (0 : Int32) = nI 0 from rfl, nI_eq (by omega) (by omega)]
  refine ⟨fun c0 => ?_, fun c0 => ⟨fun c1 => ?_, fun c1 => ⟨fun c2 => ?_, fun c2 => ⟨fun c3 => ?_, fun c3 => ?_⟩⟩⟩⟩
  · refine u3_at (wfTrace_n3 ha) (by decide) (by omega) ?_
    rw [hT.2 s q]
    rw [if_pos c0] at hK
    exact hK
  · refine u3_at (wfTrace_n4 ha) (by decide) (by omega) ?_
    rw [hT.1.2.2.2.2.1 s q]
    rw [if_neg c0, if_pos c1] at hK
    exact hK
  · refine u3_at (wfTrace_n5 ha) (by decide) (by omega) ?_
    rw [hT.1.2.2.2.2.2 s q]
    rw [if_neg c0, if_neg c1, if_pos c2] at hK
    exact hK
  · refine u5_doughUsed ha ho hT q ?_
    rw [if_neg c0, if_neg c1, if_neg c2, if_pos c3] at hK
    rw [show (30 : Int32) = nI 30 from rfl, pk_sub (hd s q)]
    exact hK
  · refine u3_at (wfTrace_n2 ha) (by decide) (by omega) ?_
    rw [hT.1.2.2.2.1 s q]
    rw [if_neg c0, if_neg c1, if_neg c2, if_neg c3] at hK
    exact hK

def jX5_mostHidden_33 (P : Sk) (a : Nat) (L4 : St → Int32 → Int32 → Prop) (K : Int32 → St → Prop) (x1 : Int32) (x2 : Int32) (f : St) : Prop :=
  ∀ x2_33 : Int32, x2_33 = x2 + 1 → L4 f x1 x2_33
def bX5_mostHidden_4 (P : Sk) (a : Nat) (L4 : St → Int32 → Int32 → Prop) (K : Int32 → St → Prop) (f : St) (x1 : Int32) (x2 : Int32) : Prop :=
  (f a 7 ≤ x2 → K x1 f) ∧ (¬ f a 7 ≤ x2 → kX3_at P f (a + 9) x2 (fun r17 g17 => kX3_at P g17 (a + 9) x1 (fun r25 g25 => (r17 ≤ r25 → jX5_mostHidden_33 P a L4 K x1 x2 g25) ∧ (¬ r17 ≤ r25 → jX5_mostHidden_33 P a L4 K x2 x2 g25))))
def vX5_mostHidden (P : Sk) (f : St) (a : Nat) (L4 : St → Int32 → Int32 → Prop) (K : Int32 → St → Prop) : Prop :=
  L4 f 0 1
set_option maxRecDepth 20000 in
set_option maxHeartbeats 4000000 in
theorem mX5_mostHidden (l : Launch) (G : Gl) (P : Sk) (f : St) (sz : Nat) (a : Nat) (ha : IsTrace P a) (K : Int32 → St → Prop) (I4 : St → Int32 → Int32 → Prop) (μ4 : St → Int32 → Int32 → Nat) 
  (h : vX5_mostHidden P f a I4 K)
  (h4 : ∀ (g : St) (x1 : Int32) (x2 : Int32) , I4 g x1 x2 → bX5_mostHidden_4 P a (fun g' z0 z1 => I4 g' z0 z1 ∧ μ4 g' z0 z1 < μ4 g x1 x2) K g x1 x2) :
  Met l yX5_mostHidden (wU yX5_mostHidden cX5_mostHidden 3 (some .int)) rmX5_mostHidden (PcW G P f sz [.ref a]) (QcI G P sz K) 0 0 (frA P sz) := by
  refine v_met (own := RX5) [.ref a] (by decide +kernel) rfl (Nat.le_of_ble_eq_true rfl) (fun p e s m args below meth c hsz o hr hnm => ?_)
  refine v_lv (lv2 := [(0, .ref a)]) rfl ?_
  have main : ∀ n : Nat, (∀ (g : St) (x1 : Int32) (x2 : Int32) , I4 g x1 x2 → μ4 g x1 x2 < n → V p l e rmX5_mostHidden s m args below meth c 3 G (frA P sz) (MQ below (QcI G P sz K) args s 0 0 (frA P sz)) 0 0 P [(0, .ref a), (1, .int x1), (2, .int x2)] [] 4 g) := by
    intro n
    induction n with
    | zero => exact fun g x1 x2 hI hm => absurd hm (Nat.not_lt_zero _)
    | succ n ih =>
      intro g x1 x2 hI hm
      have h := h4 g x1 x2 hI
      clear hI
      have J33 : ∀ (x1_33 : Int32) (x2_33 : Int32) (g33 : St), jX5_mostHidden_33 P a (fun g' z0 z1 => I4 g' z0 z1 ∧ μ4 g' z0 z1 < μ4 g x1 x2) K x1_33 x2_33 g33 → V p l e rmX5_mostHidden s m args below meth c 3 G (frA P sz) (MQ below (QcI G P sz K) args s 0 0 (frA P sz)) 0 0 P [(0, .ref a), (1, .int x1_33), (2, .int x2_33)] [] 33 g33 := by
        intro x1_33 x2_33 g33  h
        unfold jX5_mostHidden_33 at h
        obtain ⟨x2_33, ex2_33⟩ : ∃ y : Int32, y = x2_33 + 1 := ⟨_, rfl⟩
        replace h := h x2_33 ex2_33
        refine v_iinc o (v := x2_33) (lv' := [(2, .int x2_33), (0, .ref a), (1, .int x1_33)]) 2 dX5_mostHidden_33 rfl (by rw [ex2_33]; rfl) (by decide) rfl ?_
        refine v_goto o (tgt := 4) dX5_mostHidden_36 (by decide) ?_
        refine v_sub [1, 2, 0] (lv2 := [(0, .ref a), (1, .int x1_33), (2, .int x2_33)]) rfl ?_
        exact ih g33 x1_33 x2_33  h.1 (by have := h.2; omega)
      unfold bX5_mostHidden_4 at h
      refine v_iload_n o 2 dX5_mostHidden_4 rfl ?_
      refine v_aload_n o 0 dX5_mostHidden_5 rfl ?_
      refine v_gfI o lkX5_38 (by decide) (wfTrace_o ha) dX5_mostHidden_6 ?_
      refine v_icmp_ge o (tgt := 39) dX5_mostHidden_9 (by decide) (fun c9 => ?_) (fun c9 => ?_)
      · replace h := h.1 c9
        refine v_iload_n o 1 dX5_mostHidden_39 rfl ?_
        exact v_iret o rfl hr dX5_mostHidden_40 h
      · replace h := h.2 c9
        refine v_aload_n o 0 dX5_mostHidden_12 rfl ?_
        refine v_gfR o lkX5_29 (by decide) (wfTrace_o ha) (wfTrace_r4 ha) dX5_mostHidden_13 ?_
        refine v_iload_n o 2 dX5_mostHidden_16 rfl ?_
        refine v_cVi o [.int x2] [] (fun sz => metX3_at l G P g sz (a + 9) (wfTrace_t4 ha) x2 _ h) (cwX5_61 o.1.2.2.2.2 (by decide)) ⟨_, _, rfl⟩ (by decide) (wfRow_o (wfTrace_t4 ha)) rfl (Nat.le_of_ble_eq_true rfl) ⟨Nat.le_of_ble_eq_true rfl, Nat.le_of_ble_eq_true rfl⟩ dX5_mostHidden_17 rfl (fun r17 g17 h => ?_)
        refine v_aload_n o 0 dX5_mostHidden_20 rfl ?_
        refine v_gfR o lkX5_29 (by decide) (wfTrace_o ha) (wfTrace_r4 ha) dX5_mostHidden_21 ?_
        refine v_iload_n o 1 dX5_mostHidden_24 rfl ?_
        refine v_cVi o [.int x1] [.int r17] (fun sz => metX3_at l G P g17 sz (a + 9) (wfTrace_t4 ha) x1 _ h) (cwX5_61 o.1.2.2.2.2 (by decide)) ⟨_, _, rfl⟩ (by decide) (wfRow_o (wfTrace_t4 ha)) rfl (Nat.le_of_ble_eq_true rfl) ⟨Nat.le_of_ble_eq_true rfl, Nat.le_of_ble_eq_true rfl⟩ dX5_mostHidden_25 rfl (fun r25 g25 h => ?_)
        refine v_icmp_le o (tgt := 33) dX5_mostHidden_28 (by decide) (fun c28 => ?_) (fun c28 => ?_)
        · replace h := h.1 c28
          refine v_sub [0, 1, 2] (lv2 := [(0, .ref a), (1, .int x1), (2, .int x2)]) rfl ?_
          exact J33 x1 x2 g25  h
        · replace h := h.2 c28
          refine v_iload_n o 2 dX5_mostHidden_31 rfl ?_
          refine v_istore_n o (lv' := [(1, .int x2), (0, .ref a), (2, .int x2)]) dX5_mostHidden_32 rfl (by decide) rfl ?_
          refine v_sub [1, 0, 2] (lv2 := [(0, .ref a), (1, .int x2), (2, .int x2)]) rfl ?_
          exact J33 x2 x2 g25  h
  unfold vX5_mostHidden at h
  refine v_iconst o (v := 0) dX5_mostHidden_0 (by decide) ?_
  refine v_istore_n o (lv' := [(1, .int 0), (0, .ref a)]) dX5_mostHidden_1 rfl (by decide) rfl ?_
  refine v_iconst o (v := 1) dX5_mostHidden_2 (by decide) ?_
  refine v_istore_n o (lv' := [(2, .int 1), (1, .int 0), (0, .ref a)]) dX5_mostHidden_3 rfl (by decide) rfl ?_
  refine v_sub [2, 1, 0] (lv2 := [(0, .ref a), (1, .int 0), (2, .int 1)]) rfl ?_
  exact (main (μ4 f 0 1 + 1)) f 0 1  h (Nat.lt_succ_self _)
def WX5_mostHidden (P : Sk) (f : St) (a : Nat) (K : Int32 → St → Prop) : Prop := ∃ (I4 : St → Int32 → Int32 → Prop) (μ4 : St → Int32 → Int32 → Nat), (vX5_mostHidden P f a I4 K) ∧ (∀ (g : St) (x1 : Int32) (x2 : Int32) , I4 g x1 x2 → bX5_mostHidden_4 P a (fun g' z0 z1 => I4 g' z0 z1 ∧ μ4 g' z0 z1 < μ4 g x1 x2) K g x1 x2)
def kX5_mostHidden (P : Sk) (f : St) (a : Nat) (K : Int32 → St → Prop) : Prop := ∃ n w, TraceIs f a n w ∧ Wok n w ∧ K (nI (mhF (tU w w.length) n)) f
theorem wX5_mostHidden (P : Sk) (f : St) (a : Nat) (ha : IsTrace P a) (K : Int32 → St → Prop) (h : kX5_mostHidden P f a K) : WX5_mostHidden P f a K := by
  obtain ⟨n, w, hT, ho, hK⟩ := h
  have h7 := ho.2.1
  have h2 := ho.1
  have hl := ho.2.2.1
  refine ⟨fun g x1 x2 => ∃ k, x2 = nI k ∧ 1 ≤ k ∧ k ≤ n ∧ g = f ∧ x1 = nI (mhF (tU w w.length) k), fun g x1 x2 => n - x2.toNatClampNeg, ?_, ?_⟩
  · unfold vX5_mostHidden
    refine ⟨1, rfl, Nat.le_refl _, by omega, rfl, ?_⟩
    simp [mhF]
    rfl
  · rintro g x1 x2 ⟨k, rfl, hk1, hk, rfl, rfl⟩
    unfold bX5_mostHidden_4
    rw [hT.1.1, nI_leI (by omega) (by omega)]
    refine ⟨fun q => ?_, fun q => ?_⟩
    · rw [show n = k by omega] at hK
      exact hK
    · have hm := mhF_lt (tU w w.length) k (by omega)
      refine u3_at (wfTrace_n4 ha) (by decide) (by omega) ?_
      refine u3_at (wfTrace_n4 ha) (by decide) (by omega) ?_
      have := tU_le w w.length k
      have := tU_le w w.length (mhF (tU w w.length) k)
      rw [hT.1.2.2.2.2.1 k (by omega), hT.1.2.2.2.2.1 _ (by omega), nI_leI (by omega) (by omega)]
      unfold jX5_mostHidden_33
      rw [nI_1]
      refine ⟨fun q2 x e => ⟨⟨k + 1, e, by omega, by omega, rfl, ?_⟩, mu_up e (by omega) (by omega)⟩, fun q2 x e => ⟨⟨k + 1, e, by omega, by omega, rfl, ?_⟩, mu_up e (by omega) (by omega)⟩⟩
      · simp only [mhF]
        rw [if_neg (by omega)]
      · simp only [mhF]
        rw [if_pos (by omega)]

theorem metX5_mostHidden (l : Launch) (G : Gl) (P : Sk) (f : St) (sz : Nat) (a : Nat) (ha : IsTrace P a) (K : Int32 → St → Prop) (h : kX5_mostHidden P f a K) : Met l yX5_mostHidden (wU yX5_mostHidden cX5_mostHidden 3 (some .int)) rmX5_mostHidden (PcW G P f sz [.ref a]) (QcI G P sz K) 0 0 (frA P sz) := by
  obtain ⟨I4, μ4, qh, qh4⟩ := wX5_mostHidden P f a ha K h
  exact mX5_mostHidden l G P f sz a ha K I4 μ4 qh qh4

def bX5_areAllHome_2 (P : Sk) (a : Nat) (L2 : St → Int32 → Prop) (K : Int32 → St → Prop) (f : St) (x1 : Int32) : Prop :=
  (f a 7 ≤ x1 → K 1 f) ∧ (¬ f a 7 ≤ x1 → kX3_at P f (a + 7) x1 (fun r15 g15 => (r15 = x1 → ∀ x1_24 : Int32, x1_24 = x1 + 1 → L2 g15 x1_24) ∧ (¬ r15 = x1 → K 0 g15)))
def vX5_areAllHome (P : Sk) (f : St) (a : Nat) (L2 : St → Int32 → Prop) (K : Int32 → St → Prop) : Prop :=
  L2 f 0
set_option maxRecDepth 20000 in
set_option maxHeartbeats 4000000 in
theorem mX5_areAllHome (l : Launch) (G : Gl) (P : Sk) (f : St) (sz : Nat) (a : Nat) (ha : IsTrace P a) (K : Int32 → St → Prop) (I2 : St → Int32 → Prop) (μ2 : St → Int32 → Nat) 
  (h : vX5_areAllHome P f a I2 K)
  (h2 : ∀ (g : St) (x1 : Int32) , I2 g x1 → bX5_areAllHome_2 P a (fun g' z0 => I2 g' z0 ∧ μ2 g' z0 < μ2 g x1) K g x1) :
  Met l yX5_areAllHome (wU yX5_areAllHome cX5_areAllHome 2 (some .boolean)) rmX5_areAllHome (PcW G P f sz [.ref a]) (QcI G P sz K) 0 0 (frA P sz) := by
  refine v_met (own := RX5) [.ref a] (by decide +kernel) rfl (Nat.le_of_ble_eq_true rfl) (fun p e s m args below meth c hsz o hr hnm => ?_)
  refine v_lv (lv2 := [(0, .ref a)]) rfl ?_
  have main : ∀ n : Nat, (∀ (g : St) (x1 : Int32) , I2 g x1 → μ2 g x1 < n → V p l e rmX5_areAllHome s m args below meth c 2 G (frA P sz) (MQ below (QcI G P sz K) args s 0 0 (frA P sz)) 0 0 P [(0, .ref a), (1, .int x1)] [] 2 g) := by
    intro n
    induction n with
    | zero => exact fun g x1 hI hm => absurd hm (Nat.not_lt_zero _)
    | succ n ih =>
      intro g x1 hI hm
      have h := h2 g x1 hI
      clear hI
      unfold bX5_areAllHome_2 at h
      refine v_iload_n o 1 dX5_areAllHome_2 rfl ?_
      refine v_aload_n o 0 dX5_areAllHome_3 rfl ?_
      refine v_gfI o lkX5_38 (by decide) (wfTrace_o ha) dX5_areAllHome_4 ?_
      refine v_icmp_ge o (tgt := 30) dX5_areAllHome_7 (by decide) (fun c7 => ?_) (fun c7 => ?_)
      · replace h := h.1 c7
        refine v_iconst o (v := 1) dX5_areAllHome_30 (by decide) ?_
        exact v_zret o rfl hr bz1.1 dX5_areAllHome_31 h
      · replace h := h.2 c7
        refine v_aload_n o 0 dX5_areAllHome_10 rfl ?_
        refine v_gfR o lkX5_26 (by decide) (wfTrace_o ha) (wfTrace_r3 ha) dX5_areAllHome_11 ?_
        refine v_iload_n o 1 dX5_areAllHome_14 rfl ?_
        refine v_cVi o [.int x1] [] (fun sz => metX3_at l G P g sz (a + 7) (wfTrace_t3 ha) x1 _ h) (cwX5_61 o.1.2.2.2.2 (by decide)) ⟨_, _, rfl⟩ (by decide) (wfRow_o (wfTrace_t3 ha)) rfl (Nat.le_of_ble_eq_true rfl) ⟨Nat.le_of_ble_eq_true rfl, Nat.le_of_ble_eq_true rfl⟩ dX5_areAllHome_15 rfl (fun r15 g15 h => ?_)
        refine v_iload_n o 1 dX5_areAllHome_18 rfl ?_
        refine v_icmp_eq o (tgt := 24) dX5_areAllHome_19 (by decide) (fun c19 => ?_) (fun c19 => ?_)
        · replace h := h.1 c19
          obtain ⟨x1_24, ex1_24⟩ : ∃ y : Int32, y = x1 + 1 := ⟨_, rfl⟩
          replace h := h x1_24 ex1_24
          refine v_iinc o (v := x1_24) (lv' := [(1, .int x1_24), (0, .ref a)]) 1 dX5_areAllHome_24 rfl (by rw [ex1_24]; rfl) (by decide) rfl ?_
          refine v_goto o (tgt := 2) dX5_areAllHome_27 (by decide) ?_
          refine v_sub [1, 0] (lv2 := [(0, .ref a), (1, .int x1_24)]) rfl ?_
          exact ih g15 x1_24  h.1 (by have := h.2; omega)
        · replace h := h.2 c19
          refine v_iconst o (v := 0) dX5_areAllHome_22 (by decide) ?_
          exact v_zret o rfl hr bz0.1 dX5_areAllHome_23 h
  unfold vX5_areAllHome at h
  refine v_iconst o (v := 0) dX5_areAllHome_0 (by decide) ?_
  refine v_istore_n o (lv' := [(1, .int 0), (0, .ref a)]) dX5_areAllHome_1 rfl (by decide) rfl ?_
  refine v_sub [1, 0] (lv2 := [(0, .ref a), (1, .int 0)]) rfl ?_
  exact (main (μ2 f 0 + 1)) f 0  h (Nat.lt_succ_self _)
def WX5_areAllHome (P : Sk) (f : St) (a : Nat) (K : Int32 → St → Prop) : Prop := ∃ (I2 : St → Int32 → Prop) (μ2 : St → Int32 → Nat), (vX5_areAllHome P f a I2 K) ∧ (∀ (g : St) (x1 : Int32) , I2 g x1 → bX5_areAllHome_2 P a (fun g' z0 => I2 g' z0 ∧ μ2 g' z0 < μ2 g x1) K g x1)
/-- the row of the ends as a number -/
def EndsIs (f : St) (a n E : Nat) : Prop := f a 7 = nI n ∧ 2 ≤ n ∧ n ≤ 7 ∧ ∀ s, s < n → dg E s < n ∧ f (a + 7 + 1) s = nI (dg E s)
theorem TraceIs.ends {f : St} {a n : Nat} {w : List Nat} (h : TraceIs f a n w) (ho : Wok n w) : EndsIs f a n (cd (wE w w.length) n) := by
  refine ⟨h.1.1, ho.1, ho.2.1, fun s hs => ?_⟩
  have h1 := dg_cd (wE w w.length) n (fun i hi => by have := wE_lt ho w.length i (Nat.le_refl _) hi; have := ho.2.1; omega) s hs
  rw [h1]
  exact ⟨wE_lt ho w.length s (Nat.le_refl _) hs, h.2 s hs⟩
def kX5_areAllHome (P : Sk) (f : St) (a : Nat) (K : Int32 → St → Prop) : Prop := ∃ n E, EndsIs f a n E ∧ ((alB n fun s => Nat.beq (dg E s) s) = true → K 1 f) ∧ (¬ (alB n fun s => Nat.beq (dg E s) s) = true → K 0 f)
theorem wX5_areAllHome (P : Sk) (f : St) (a : Nat) (ha : IsTrace P a) (K : Int32 → St → Prop) (h : kX5_areAllHome P f a K) : WX5_areAllHome P f a K := by
  obtain ⟨n, E, ⟨t0, h2, h7, hE⟩, hK1, hK0⟩ := h
  refine ⟨fun g x => ∃ k, x = nI k ∧ k ≤ n ∧ g = f ∧ ∀ s, s < k → dg E s = s, fun g x => n - x.toNatClampNeg, ?_, ?_⟩
  · unfold vX5_areAllHome
    exact ⟨0, rfl, Nat.zero_le _, rfl, fun s hs => absurd hs (Nat.not_lt_zero _)⟩
  · rintro g x ⟨k, rfl, hk, rfl, hA⟩
    unfold bX5_areAllHome_2
    rw [t0, nI_leI (by omega) (by omega)]
    refine ⟨fun q => hK1 (alB_of fun s hs => ?_), fun q => ?_⟩
    · rw [hA s (by omega)]
      exact Nat.beq_refl s
    · refine u3_at (wfTrace_n3 ha) (by decide) (by omega) ?_
      have h3 := hE k (by omega)
      rw [h3.2, nI_1, nI_eq (by omega) (by omega)]
      refine ⟨fun q2 x e => ⟨⟨k + 1, e, by omega, rfl, fun s hs => ?_⟩, mu_up e (by omega) (by omega)⟩, fun q2 => hK0 (fun q3 => q2 (Nat.eq_of_beq_eq_true (alB_at q3 k (by omega))))⟩
      by_cases c : s = k
      · rw [c]
        exact q2
      · exact hA s (by omega)

theorem metX5_areAllHome (l : Launch) (G : Gl) (P : Sk) (f : St) (sz : Nat) (a : Nat) (ha : IsTrace P a) (K : Int32 → St → Prop) (h : kX5_areAllHome P f a K) : Met l yX5_areAllHome (wU yX5_areAllHome cX5_areAllHome 2 (some .boolean)) rmX5_areAllHome (PcW G P f sz [.ref a]) (QcI G P sz K) 0 0 (frA P sz) := by
  obtain ⟨I2, μ2, qh, qh2⟩ := wX5_areAllHome P f a ha K h
  exact mX5_areAllHome l G P f sz a ha K I2 μ2 qh qh2

def jX5_ringsByGoingRound_73 (P : Sk) (a : Nat) (L6 : St → Int32 → Int32 → Int32 → Prop) (L31 : St → Int32 → Int32 → Int32 → Int32 → Int32 → Prop) (K : Int32 → St → Prop) (x1 : Int32) (x2 : Int32) (x3 : Int32) (x4 : Int32) (x5 : Int32) (f : St) : Prop :=
  ∀ x3_73 : Int32, x3_73 = x3 + 1 → L6 f x1 x2 x3_73
def jX5_ringsByGoingRound_25 (P : Sk) (a : Nat) (L6 : St → Int32 → Int32 → Int32 → Prop) (L31 : St → Int32 → Int32 → Int32 → Int32 → Int32 → Prop) (K : Int32 → St → Prop) (x1 : Int32) (x2 : Int32) (x3 : Int32) (f : St) : Prop :=
  L31 f x1 x2 x3 x3 0
def bX5_ringsByGoingRound_6 (P : Sk) (a : Nat) (L6 : St → Int32 → Int32 → Int32 → Prop) (L31 : St → Int32 → Int32 → Int32 → Int32 → Int32 → Prop) (K : Int32 → St → Prop) (f : St) (x1 : Int32) (x2 : Int32) (x3 : Int32) : Prop :=
  (f a 7 ≤ x3 → K x1 f) ∧ (¬ f a 7 ≤ x3 → (¬ x2 &&& (1 <<< (x3 &&& 31)) = 0 → jX5_ringsByGoingRound_25 P a L6 L31 K x1 x2 x3 f) ∧ (x2 &&& (1 <<< (x3 &&& 31)) = 0 → ∀ x1_22 : Int32, x1_22 = x1 + 1 → jX5_ringsByGoingRound_25 P a L6 L31 K x1_22 x2 x3 f))
def bX5_ringsByGoingRound_31 (P : Sk) (a : Nat) (L6 : St → Int32 → Int32 → Int32 → Prop) (L31 : St → Int32 → Int32 → Int32 → Int32 → Int32 → Prop) (K : Int32 → St → Prop) (f : St) (x1 : Int32) (x2 : Int32) (x3 : Int32) (x4 : Int32) (x5 : Int32) : Prop :=
  (f a 7 ≤ x5 → jX5_ringsByGoingRound_73 P a L6 L31 K x1 x2 x3 x4 x5 f) ∧ (¬ f a 7 ≤ x5 → (¬ x2 &&& (1 <<< (x4 &&& 31)) = 0 → jX5_ringsByGoingRound_73 P a L6 L31 K x1 x2 x3 x4 x5 f) ∧ (x2 &&& (1 <<< (x4 &&& 31)) = 0 → ∀ x2_55 : Int32, x2_55 = x2 ||| (1 <<< (x4 &&& 31)) → kX3_at P f (a + 7) x4 (fun r62 g62 => ∀ x5_67 : Int32, x5_67 = x5 + 1 → L31 g62 x1 x2_55 x3 r62 x5_67)))
def vX5_ringsByGoingRound (P : Sk) (f : St) (a : Nat) (L6 : St → Int32 → Int32 → Int32 → Prop) (L31 : St → Int32 → Int32 → Int32 → Int32 → Int32 → Prop) (K : Int32 → St → Prop) : Prop :=
  L6 f 0 0 0
set_option maxRecDepth 20000 in
set_option maxHeartbeats 4000000 in
theorem mX5_ringsByGoingRound (l : Launch) (G : Gl) (P : Sk) (f : St) (sz : Nat) (a : Nat) (ha : IsTrace P a) (K : Int32 → St → Prop) (I6 : St → Int32 → Int32 → Int32 → Prop) (μ6 : St → Int32 → Int32 → Int32 → Nat) (I31 : St → Int32 → Int32 → Int32 → Int32 → Int32 → Prop) (μ31 : St → Int32 → Int32 → Int32 → Int32 → Int32 → Nat) 
  (h : vX5_ringsByGoingRound P f a I6 I31 K)
  (h6 : ∀ (g : St) (x1 : Int32) (x2 : Int32) (x3 : Int32) , I6 g x1 x2 x3 → bX5_ringsByGoingRound_6 P a (fun g' z0 z1 z2 => I6 g' z0 z1 z2 ∧ μ6 g' z0 z1 z2 < μ6 g x1 x2 x3) (fun g' z0 z1 z2 z3 z4 => I31 g' z0 z1 z2 z3 z4 ∧ μ31 g' z0 z1 z2 z3 z4 < μ6 g x1 x2 x3) K g x1 x2 x3)
  (h31 : ∀ (g : St) (x1 : Int32) (x2 : Int32) (x3 : Int32) (x4 : Int32) (x5 : Int32) , I31 g x1 x2 x3 x4 x5 → bX5_ringsByGoingRound_31 P a (fun g' z0 z1 z2 => I6 g' z0 z1 z2 ∧ μ6 g' z0 z1 z2 < μ31 g x1 x2 x3 x4 x5) (fun g' z0 z1 z2 z3 z4 => I31 g' z0 z1 z2 z3 z4 ∧ μ31 g' z0 z1 z2 z3 z4 < μ31 g x1 x2 x3 x4 x5) K g x1 x2 x3 x4 x5) :
  Met l yX5_ringsByGoingRound (wU yX5_ringsByGoingRound cX5_ringsByGoingRound 6 (some .int)) rmX5_ringsByGoingRound (PcW G P f sz [.ref a]) (QcI G P sz K) 0 0 (frA P sz) := by
  refine v_met (own := RX5) [.ref a] (by decide +kernel) rfl (Nat.le_of_ble_eq_true rfl) (fun p e s m args below meth c hsz o hr hnm => ?_)
  refine v_lv (lv2 := [(0, .ref a)]) rfl ?_
  have main : ∀ n : Nat, (∀ (g : St) (x1 : Int32) (x2 : Int32) (x3 : Int32) , I6 g x1 x2 x3 → μ6 g x1 x2 x3 < n → V p l e rmX5_ringsByGoingRound s m args below meth c 6 G (frA P sz) (MQ below (QcI G P sz K) args s 0 0 (frA P sz)) 0 0 P [(0, .ref a), (1, .int x1), (2, .int x2), (3, .int x3)] [] 6 g) ∧ (∀ (g : St) (x1 : Int32) (x2 : Int32) (x3 : Int32) (x4 : Int32) (x5 : Int32) , I31 g x1 x2 x3 x4 x5 → μ31 g x1 x2 x3 x4 x5 < n → V p l e rmX5_ringsByGoingRound s m args below meth c 6 G (frA P sz) (MQ below (QcI G P sz K) args s 0 0 (frA P sz)) 0 0 P [(0, .ref a), (1, .int x1), (2, .int x2), (3, .int x3), (4, .int x4), (5, .int x5)] [] 31 g) := by
    intro n
    induction n with
    | zero => exact ⟨fun g x1 x2 x3 hI hm => absurd hm (Nat.not_lt_zero _), fun g x1 x2 x3 x4 x5 hI hm => absurd hm (Nat.not_lt_zero _)⟩
    | succ n ih =>
      refine ⟨?_, ?_⟩
      · intro g x1 x2 x3 hI hm
        have h := h6 g x1 x2 x3 hI
        clear hI
        have J25 : ∀ (x1_25 : Int32) (x2_25 : Int32) (x3_25 : Int32) (g25 : St), jX5_ringsByGoingRound_25 P a (fun g' z0 z1 z2 => I6 g' z0 z1 z2 ∧ μ6 g' z0 z1 z2 < μ6 g x1 x2 x3) (fun g' z0 z1 z2 z3 z4 => I31 g' z0 z1 z2 z3 z4 ∧ μ31 g' z0 z1 z2 z3 z4 < μ6 g x1 x2 x3) K x1_25 x2_25 x3_25 g25 → V p l e rmX5_ringsByGoingRound s m args below meth c 6 G (frA P sz) (MQ below (QcI G P sz K) args s 0 0 (frA P sz)) 0 0 P [(0, .ref a), (1, .int x1_25), (2, .int x2_25), (3, .int x3_25)] [] 25 g25 := by
          intro x1_25 x2_25 x3_25 g25  h
          unfold jX5_ringsByGoingRound_25 at h
          refine v_iload_n o 3 dX5_ringsByGoingRound_25 rfl ?_
          refine v_istore o (lv' := [(4, .int x3_25), (0, .ref a), (1, .int x1_25), (2, .int x2_25), (3, .int x3_25)]) dX5_ringsByGoingRound_26 (by decide) rfl ?_
          refine v_iconst o (v := 0) dX5_ringsByGoingRound_28 (by decide) ?_
          refine v_istore o (lv' := [(5, .int 0), (4, .int x3_25), (0, .ref a), (1, .int x1_25), (2, .int x2_25), (3, .int x3_25)]) dX5_ringsByGoingRound_29 (by decide) rfl ?_
          refine v_sub [2, 3, 4, 5, 1, 0] (lv2 := [(0, .ref a), (1, .int x1_25), (2, .int x2_25), (3, .int x3_25), (4, .int x3_25), (5, .int 0)]) rfl ?_
          exact ih.2 g25 x1_25 x2_25 x3_25 x3_25 0  h.1 (by have := h.2; omega)
        unfold bX5_ringsByGoingRound_6 at h
        refine v_iload_n o 3 dX5_ringsByGoingRound_6 rfl ?_
        refine v_aload_n o 0 dX5_ringsByGoingRound_7 rfl ?_
        refine v_gfI o lkX5_38 (by decide) (wfTrace_o ha) dX5_ringsByGoingRound_8 ?_
        refine v_icmp_ge o (tgt := 79) dX5_ringsByGoingRound_11 (by decide) (fun c11 => ?_) (fun c11 => ?_)
        · replace h := h.1 c11
          refine v_iload_n o 1 dX5_ringsByGoingRound_79 rfl ?_
          exact v_iret o rfl hr dX5_ringsByGoingRound_80 h
        · replace h := h.2 c11
          refine v_iload_n o 2 dX5_ringsByGoingRound_14 rfl ?_
          refine v_iconst o (v := 1) dX5_ringsByGoingRound_15 (by decide) ?_
          refine v_iload_n o 3 dX5_ringsByGoingRound_16 rfl ?_
          refine v_ishl o dX5_ringsByGoingRound_17 ?_
          refine v_iand o dX5_ringsByGoingRound_18 ?_
          refine v_if_ne o (tgt := 25) dX5_ringsByGoingRound_19 (by decide) (fun c19 => ?_) (fun c19 => ?_)
          · replace h := h.1 c19
            refine v_sub [0, 1, 2, 3] (lv2 := [(0, .ref a), (1, .int x1), (2, .int x2), (3, .int x3)]) rfl ?_
            exact J25 x1 x2 x3 g  h
          · replace h := h.2 c19
            obtain ⟨x1_22, ex1_22⟩ : ∃ y : Int32, y = x1 + 1 := ⟨_, rfl⟩
            replace h := h x1_22 ex1_22
            refine v_iinc o (v := x1_22) (lv' := [(1, .int x1_22), (0, .ref a), (2, .int x2), (3, .int x3)]) 1 dX5_ringsByGoingRound_22 rfl (by rw [ex1_22]; rfl) (by decide) rfl ?_
            refine v_sub [1, 0, 2, 3] (lv2 := [(0, .ref a), (1, .int x1_22), (2, .int x2), (3, .int x3)]) rfl ?_
            exact J25 x1_22 x2 x3 g  h
      · intro g x1 x2 x3 x4 x5 hI hm
        have h := h31 g x1 x2 x3 x4 x5 hI
        clear hI
        have J73 : ∀ (x1_73 : Int32) (x2_73 : Int32) (x3_73 : Int32) (x4_73 : Int32) (x5_73 : Int32) (g73 : St), jX5_ringsByGoingRound_73 P a (fun g' z0 z1 z2 => I6 g' z0 z1 z2 ∧ μ6 g' z0 z1 z2 < μ31 g x1 x2 x3 x4 x5) (fun g' z0 z1 z2 z3 z4 => I31 g' z0 z1 z2 z3 z4 ∧ μ31 g' z0 z1 z2 z3 z4 < μ31 g x1 x2 x3 x4 x5) K x1_73 x2_73 x3_73 x4_73 x5_73 g73 → V p l e rmX5_ringsByGoingRound s m args below meth c 6 G (frA P sz) (MQ below (QcI G P sz K) args s 0 0 (frA P sz)) 0 0 P [(0, .ref a), (1, .int x1_73), (2, .int x2_73), (3, .int x3_73), (4, .int x4_73), (5, .int x5_73)] [] 73 g73 := by
          intro x1_73 x2_73 x3_73 x4_73 x5_73 g73  h
          unfold jX5_ringsByGoingRound_73 at h
          obtain ⟨x3_73, ex3_73⟩ : ∃ y : Int32, y = x3_73 + 1 := ⟨_, rfl⟩
          replace h := h x3_73 ex3_73
          refine v_iinc o (v := x3_73) (lv' := [(3, .int x3_73), (0, .ref a), (1, .int x1_73), (2, .int x2_73), (4, .int x4_73), (5, .int x5_73)]) 3 dX5_ringsByGoingRound_73 rfl (by rw [ex3_73]; rfl) (by decide) rfl ?_
          refine v_goto o (tgt := 6) dX5_ringsByGoingRound_76 (by decide) ?_
          refine v_sub [1, 2, 3, 0] (lv2 := [(0, .ref a), (1, .int x1_73), (2, .int x2_73), (3, .int x3_73)]) rfl ?_
          exact ih.1 g73 x1_73 x2_73 x3_73  h.1 (by have := h.2; omega)
        unfold bX5_ringsByGoingRound_31 at h
        refine v_iload o 5 dX5_ringsByGoingRound_31 rfl ?_
        refine v_aload_n o 0 dX5_ringsByGoingRound_33 rfl ?_
        refine v_gfI o lkX5_38 (by decide) (wfTrace_o ha) dX5_ringsByGoingRound_34 ?_
        refine v_icmp_ge o (tgt := 73) dX5_ringsByGoingRound_37 (by decide) (fun c37 => ?_) (fun c37 => ?_)
        · replace h := h.1 c37
          refine v_sub [0, 1, 2, 3, 4, 5] (lv2 := [(0, .ref a), (1, .int x1), (2, .int x2), (3, .int x3), (4, .int x4), (5, .int x5)]) rfl ?_
          exact J73 x1 x2 x3 x4 x5 g  h
        · replace h := h.2 c37
          refine v_iload_n o 2 dX5_ringsByGoingRound_40 rfl ?_
          refine v_iconst o (v := 1) dX5_ringsByGoingRound_41 (by decide) ?_
          refine v_iload o 4 dX5_ringsByGoingRound_42 rfl ?_
          refine v_ishl o dX5_ringsByGoingRound_44 ?_
          refine v_iand o dX5_ringsByGoingRound_45 ?_
          refine v_if_ne o (tgt := 73) dX5_ringsByGoingRound_46 (by decide) (fun c46 => ?_) (fun c46 => ?_)
          · replace h := h.1 c46
            refine v_sub [0, 1, 2, 3, 4, 5] (lv2 := [(0, .ref a), (1, .int x1), (2, .int x2), (3, .int x3), (4, .int x4), (5, .int x5)]) rfl ?_
            exact J73 x1 x2 x3 x4 x5 g  h
          · replace h := h.2 c46
            refine v_iload_n o 2 dX5_ringsByGoingRound_49 rfl ?_
            refine v_iconst o (v := 1) dX5_ringsByGoingRound_50 (by decide) ?_
            refine v_iload o 4 dX5_ringsByGoingRound_51 rfl ?_
            refine v_ishl o dX5_ringsByGoingRound_53 ?_
            refine v_ior o dX5_ringsByGoingRound_54 ?_
            refine v_topi (fun x2_55 ex2_55 => ?_)
            replace h := h x2_55 ex2_55
            refine v_istore_n o (lv' := [(2, .int x2_55), (0, .ref a), (1, .int x1), (3, .int x3), (4, .int x4), (5, .int x5)]) dX5_ringsByGoingRound_55 rfl (by decide) rfl ?_
            refine v_aload_n o 1 dX5_ringsByGoingRound_56 rfl ?_
            refine v_gfR o lkX5_26 (by decide) (wfTrace_o ha) (wfTrace_r3 ha) dX5_ringsByGoingRound_57 ?_
            refine v_iload o 4 dX5_ringsByGoingRound_60 rfl ?_
            refine v_cVi o [.int x4] [] (fun sz => metX3_at l G P g sz (a + 7) (wfTrace_t3 ha) x4 _ h) (cwX5_61 o.1.2.2.2.2 (by decide)) ⟨_, _, rfl⟩ (by decide) (wfRow_o (wfTrace_t3 ha)) rfl (Nat.le_of_ble_eq_true rfl) ⟨Nat.le_of_ble_eq_true rfl, Nat.le_of_ble_eq_true rfl⟩ dX5_ringsByGoingRound_62 rfl (fun r62 g62 h => ?_)
            refine v_istore o (lv' := [(4, .int r62), (2, .int x2_55), (0, .ref a), (1, .int x1), (3, .int x3), (5, .int x5)]) dX5_ringsByGoingRound_65 (by decide) rfl ?_
            obtain ⟨x5_67, ex5_67⟩ : ∃ y : Int32, y = x5 + 1 := ⟨_, rfl⟩
            replace h := h x5_67 ex5_67
            refine v_iinc o (v := x5_67) (lv' := [(5, .int x5_67), (4, .int r62), (2, .int x2_55), (0, .ref a), (1, .int x1), (3, .int x3)]) 5 dX5_ringsByGoingRound_67 rfl (by rw [ex5_67]; rfl) (by decide) rfl ?_
            refine v_goto o (tgt := 31) dX5_ringsByGoingRound_70 (by decide) ?_
            refine v_sub [3, 4, 2, 5, 1, 0] (lv2 := [(0, .ref a), (1, .int x1), (2, .int x2_55), (3, .int x3), (4, .int r62), (5, .int x5_67)]) rfl ?_
            exact ih.2 g62 x1 x2_55 x3 r62 x5_67  h.1 (by have := h.2; omega)
  unfold vX5_ringsByGoingRound at h
  refine v_iconst o (v := 0) dX5_ringsByGoingRound_0 (by decide) ?_
  refine v_istore_n o (lv' := [(1, .int 0), (0, .ref a)]) dX5_ringsByGoingRound_1 rfl (by decide) rfl ?_
  refine v_iconst o (v := 0) dX5_ringsByGoingRound_2 (by decide) ?_
  refine v_istore_n o (lv' := [(2, .int 0), (1, .int 0), (0, .ref a)]) dX5_ringsByGoingRound_3 rfl (by decide) rfl ?_
  refine v_iconst o (v := 0) dX5_ringsByGoingRound_4 (by decide) ?_
  refine v_istore_n o (lv' := [(3, .int 0), (2, .int 0), (1, .int 0), (0, .ref a)]) dX5_ringsByGoingRound_5 rfl (by decide) rfl ?_
  refine v_sub [3, 2, 1, 0] (lv2 := [(0, .ref a), (1, .int 0), (2, .int 0), (3, .int 0)]) rfl ?_
  exact (main (μ6 f 0 0 0 + 1)).1 f 0 0 0  h (Nat.lt_succ_self _)
def WX5_ringsByGoingRound (P : Sk) (f : St) (a : Nat) (K : Int32 → St → Prop) : Prop := ∃ (I6 : St → Int32 → Int32 → Int32 → Prop) (I31 : St → Int32 → Int32 → Int32 → Int32 → Int32 → Prop) (μ6 : St → Int32 → Int32 → Int32 → Nat) (μ31 : St → Int32 → Int32 → Int32 → Int32 → Int32 → Nat), (vX5_ringsByGoingRound P f a I6 I31 K) ∧ (∀ (g : St) (x1 : Int32) (x2 : Int32) (x3 : Int32) , I6 g x1 x2 x3 → bX5_ringsByGoingRound_6 P a (fun g' z0 z1 z2 => I6 g' z0 z1 z2 ∧ μ6 g' z0 z1 z2 < μ6 g x1 x2 x3) (fun g' z0 z1 z2 z3 z4 => I31 g' z0 z1 z2 z3 z4 ∧ μ31 g' z0 z1 z2 z3 z4 < μ6 g x1 x2 x3) K g x1 x2 x3) ∧ (∀ (g : St) (x1 : Int32) (x2 : Int32) (x3 : Int32) (x4 : Int32) (x5 : Int32) , I31 g x1 x2 x3 x4 x5 → bX5_ringsByGoingRound_31 P a (fun g' z0 z1 z2 => I6 g' z0 z1 z2 ∧ μ6 g' z0 z1 z2 < μ31 g x1 x2 x3 x4 x5) (fun g' z0 z1 z2 z3 z4 => I31 g' z0 z1 z2 z3 z4 ∧ μ31 g' z0 z1 z2 z3 z4 < μ31 g x1 x2 x3 x4 x5) K g x1 x2 x3 x4 x5)
def kX5_ringsByGoingRound (P : Sk) (f : St) (a : Nat) (K : Int32 → St → Prop) : Prop := ∃ n E, EndsIs f a n E ∧ K (nI (rgO E n n 0 0 0)) f
theorem wX5_ringsByGoingRound (P : Sk) (f : St) (a : Nat) (ha : IsTrace P a) (K : Int32 → St → Prop) (h : kX5_ringsByGoingRound P f a K) : WX5_ringsByGoingRound P f a K := by
  obtain ⟨n, E, ⟨t0, h2, h7, hE⟩, hK⟩ := h
  refine ⟨fun g x1 x2 x3 => ∃ k seen found, x1 = nI found ∧ x2 = nI seen ∧ x3 = nI k ∧ g = f ∧ k ≤ n ∧ seen < 128 ∧ rgO E n (n - k) k seen found = rgO E n n 0 0 0, fun g x1 x2 x3 x4 x5 => ∃ k seen found place st, x1 = nI found ∧ x2 = nI seen ∧ x3 = nI k ∧ x4 = nI place ∧ x5 = nI st ∧ g = f ∧ k < n ∧ seen < 128 ∧ place < n ∧ st ≤ n ∧ rgO E n (n - k - 1) (k + 1) (rgI E (n - st) seen place) found = rgO E n n 0 0 0, fun g x1 x2 x3 => 20 * (n - x3.toNatClampNeg), fun g x1 x2 x3 x4 x5 => 20 * (n - 1 - x3.toNatClampNeg) + 1 + (n - x5.toNatClampNeg), ?_, ?_, ?_⟩
  · unfold vX5_ringsByGoingRound
    exact ⟨0, 0, 0, rfl, rfl, rfl, rfl, by omega, by omega, rfl⟩
  · rintro g x1 x2 x3 ⟨k, seen, found, rfl, rfl, rfl, rfl, hk, hs, hR⟩
    unfold bX5_ringsByGoingRound_6
    rw [t0, nI_leI (by omega) (by omega)]
    refine ⟨fun q => ?_, fun q => ?_⟩
    · rw [show n - k = 0 by omega] at hR
      simp only [rgO] at hR
      rw [hR]
      exact hK
    · rw [b_and seen hs k (by omega), nI_1]
      rw [show n - k = (n - k - 1) + 1 by omega, rgO_s] at hR
      unfold jX5_ringsByGoingRound_25
      have m : 20 * (n - 1 - (nI k).toNatClampNeg) + 1 + (n - (nI 0).toNatClampNeg) < 20 * (n - (nI k).toNatClampNeg) := by
        rw [nI_clamp (by omega), nI_clamp (by omega)]
        omega
      refine ⟨fun q2 => ?_, fun q2 x e => ?_⟩
      · rw [if_neg q2] at hR
        exact ⟨⟨k, seen, found, k, 0, rfl, rfl, rfl, rfl, rfl, rfl, by omega, hs, by omega, by omega, hR⟩, m⟩
      · rw [if_pos q2] at hR
        exact ⟨⟨k, seen, found + 1, k, 0, e, rfl, rfl, rfl, rfl, rfl, by omega, hs, by omega, by omega, hR⟩, m⟩
  · rintro g x1 x2 x3 x4 x5 ⟨k, seen, found, place, st, rfl, rfl, rfl, rfl, rfl, rfl, hk, hs, hp, hst, hR⟩
    unfold bX5_ringsByGoingRound_31
    have out : ∀ s2, s2 < 128 → rgO E n (n - k - 1) (k + 1) s2 found = rgO E n n 0 0 0 → s2 = seen → jX5_ringsByGoingRound_73 P a (fun g' z0 z1 z2 => (∃ k seen found, z0 = nI found ∧ z1 = nI seen ∧ z2 = nI k ∧ g' = g ∧ k ≤ n ∧ seen < 128 ∧ rgO E n (n - k) k seen found = rgO E n n 0 0 0) ∧ 20 * (n - z2.toNatClampNeg) < 20 * (n - 1 - (nI k).toNatClampNeg) + 1 + (n - (nI st).toNatClampNeg)) (fun g' z0 z1 z2 z3 z4 => (∃ k seen found place st, z0 = nI found ∧ z1 = nI seen ∧ z2 = nI k ∧ z3 = nI place ∧ z4 = nI st ∧ g' = g ∧ k < n ∧ seen < 128 ∧ place < n ∧ st ≤ n ∧ rgO E n (n - k - 1) (k + 1) (rgI E (n - st) seen place) found = rgO E n n 0 0 0) ∧ 20 * (n - 1 - z2.toNatClampNeg) + 1 + (n - z4.toNatClampNeg) < 20 * (n - 1 - (nI k).toNatClampNeg) + 1 + (n - (nI st).toNatClampNeg)) K (nI found) (nI seen) (nI k) (nI place) (nI st) g := by
      intro s2 q1 q2 q3
      unfold jX5_ringsByGoingRound_73
      rw [nI_1]
      intro x e
      rw [q3] at q2
      refine ⟨⟨k + 1, seen, found, rfl, rfl, e, rfl, by omega, hs, by rw [show n - (k + 1) = n - k - 1 by omega]; exact q2⟩, ?_⟩
      rw [e, nI_clamp (by omega), nI_clamp (by omega)]
      omega
    rw [t0, nI_leI (by omega) (by omega)]
    refine ⟨fun q => ?_, fun q => ?_⟩
    · rw [show n - st = 0 by omega] at hR
      exact out seen hs hR rfl
    · rw [show n - st = (n - st - 1) + 1 by omega, rgI_s] at hR
      rw [b_and seen hs place (by omega)]
      refine ⟨fun q2 => ?_, fun q2 x e => ?_⟩
      · rw [if_neg q2] at hR
        exact out seen hs hR rfl
      · rw [if_pos q2] at hR
        have h3 := b_or seen hs place (by omega) q2
        rw [h3.1] at e
        refine u3_at (wfTrace_n3 ha) (by decide) (by omega) ?_
        have h4 := hE place hp
        rw [h4.2, nI_1]
        intro y e2
        refine ⟨⟨k, _, found, _, st + 1, rfl, e, rfl, rfl, e2, rfl, hk, h3.2, h4.1, by omega, by rw [show n - (st + 1) = n - st - 1 by omega]; exact hR⟩, ?_⟩
        show 20 * (n - 1 - (nI k).toNatClampNeg) + 1 + (n - y.toNatClampNeg) < 20 * (n - 1 - (nI k).toNatClampNeg) + 1 + (n - (nI st).toNatClampNeg)
        have := mu_up e2 (show st < n by omega) (by omega)
        omega

theorem metX5_ringsByGoingRound (l : Launch) (G : Gl) (P : Sk) (f : St) (sz : Nat) (a : Nat) (ha : IsTrace P a) (K : Int32 → St → Prop) (h : kX5_ringsByGoingRound P f a K) : Met l yX5_ringsByGoingRound (wU yX5_ringsByGoingRound cX5_ringsByGoingRound 6 (some .int)) rmX5_ringsByGoingRound (PcW G P f sz [.ref a]) (QcI G P sz K) 0 0 (frA P sz) := by
  obtain ⟨I6, I31, μ6, μ31, qh, qh6, qh31⟩ := wX5_ringsByGoingRound P f a ha K h
  exact mX5_ringsByGoingRound l G P f sz a ha K I6 μ6 I31 μ31 qh qh6 qh31

def jX5_renameRing_31 (P : Sk) (a : Nat) (p1 : Int32) (p2 : Int32) (L2 : St → Int32 → Prop) (K : St → Prop) (x3 : Int32) (f : St) : Prop :=
  ∀ x3_31 : Int32, x3_31 = x3 + 1 → L2 f x3_31
def bX5_renameRing_2 (P : Sk) (a : Nat) (p1 : Int32) (p2 : Int32) (L2 : St → Int32 → Prop) (K : St → Prop) (f : St) (x3 : Int32) : Prop :=
  (f a 7 ≤ x3 → K f) ∧ (¬ f a 7 ≤ x3 → kX3_at P f (a + 13) x3 (fun r15 g15 => (¬ r15 = p1 → jX5_renameRing_31 P a p1 p2 L2 K x3 g15) ∧ (r15 = p1 → kX3_put P g15 (a + 13) x3 p2 (fun g28 => jX5_renameRing_31 P a p1 p2 L2 K x3 g28))))
def vX5_renameRing (P : Sk) (f : St) (a : Nat) (p1 : Int32) (p2 : Int32) (L2 : St → Int32 → Prop) (K : St → Prop) : Prop :=
  L2 f 0
set_option maxRecDepth 20000 in
set_option maxHeartbeats 4000000 in
theorem mX5_renameRing (l : Launch) (G : Gl) (P : Sk) (f : St) (sz : Nat) (a : Nat) (ha : IsTrace P a) (p1 : Int32) (p2 : Int32) (K : St → Prop) (I2 : St → Int32 → Prop) (μ2 : St → Int32 → Nat) 
  (h : vX5_renameRing P f a p1 p2 I2 K)
  (h2 : ∀ (g : St) (x3 : Int32) , I2 g x3 → bX5_renameRing_2 P a p1 p2 (fun g' z0 => I2 g' z0 ∧ μ2 g' z0 < μ2 g x3) K g x3) :
  Met l yX5_renameRing (wU yX5_renameRing cX5_renameRing 4 none) rmX5_renameRing (PcW G P f sz [.ref a, .int p1, .int p2]) (QcV G P sz K) 0 0 (frA P sz) := by
  refine v_met (own := RX5) [.ref a, .int p1, .int p2] (by decide +kernel) rfl (Nat.le_of_ble_eq_true rfl) (fun p e s m args below meth c hsz o hr hnm => ?_)
  refine v_lv (lv2 := [(0, .ref a), (1, .int p1), (2, .int p2)]) rfl ?_
  have main : ∀ n : Nat, (∀ (g : St) (x3 : Int32) , I2 g x3 → μ2 g x3 < n → V p l e rmX5_renameRing s m args below meth c 4 G (frA P sz) (MQ below (QcV G P sz K) args s 0 0 (frA P sz)) 0 0 P [(0, .ref a), (1, .int p1), (2, .int p2), (3, .int x3)] [] 2 g) := by
    intro n
    induction n with
    | zero => exact fun g x3 hI hm => absurd hm (Nat.not_lt_zero _)
    | succ n ih =>
      intro g x3 hI hm
      have h := h2 g x3 hI
      clear hI
      have J31 : ∀ (x3_31 : Int32) (g31 : St), jX5_renameRing_31 P a p1 p2 (fun g' z0 => I2 g' z0 ∧ μ2 g' z0 < μ2 g x3) K x3_31 g31 → V p l e rmX5_renameRing s m args below meth c 4 G (frA P sz) (MQ below (QcV G P sz K) args s 0 0 (frA P sz)) 0 0 P [(0, .ref a), (1, .int p1), (2, .int p2), (3, .int x3_31)] [] 31 g31 := by
        intro x3_31 g31  h
        unfold jX5_renameRing_31 at h
        obtain ⟨x3_31, ex3_31⟩ : ∃ y : Int32, y = x3_31 + 1 := ⟨_, rfl⟩
        replace h := h x3_31 ex3_31
        refine v_iinc o (v := x3_31) (lv' := [(3, .int x3_31), (0, .ref a), (1, .int p1), (2, .int p2)]) 3 dX5_renameRing_31 rfl (by rw [ex3_31]; rfl) (by decide) rfl ?_
        refine v_goto o (tgt := 2) dX5_renameRing_34 (by decide) ?_
        refine v_sub [1, 2, 3, 0] (lv2 := [(0, .ref a), (1, .int p1), (2, .int p2), (3, .int x3_31)]) rfl ?_
        exact ih g31 x3_31  h.1 (by have := h.2; omega)
      unfold bX5_renameRing_2 at h
      refine v_iload_n o 3 dX5_renameRing_2 rfl ?_
      refine v_aload_n o 0 dX5_renameRing_3 rfl ?_
      refine v_gfI o lkX5_38 (by decide) (wfTrace_o ha) dX5_renameRing_4 ?_
      refine v_icmp_ge o (tgt := 37) dX5_renameRing_7 (by decide) (fun c7 => ?_) (fun c7 => ?_)
      · replace h := h.1 c7
        exact v_vret o rfl hr dX5_renameRing_37 h
      · replace h := h.2 c7
        refine v_aload_n o 0 dX5_renameRing_10 rfl ?_
        refine v_gfR o lkX5_35 (by decide) (wfTrace_o ha) (wfTrace_r6 ha) dX5_renameRing_11 ?_
        refine v_iload_n o 3 dX5_renameRing_14 rfl ?_
        refine v_cVi o [.int x3] [] (fun sz => metX3_at l G P g sz (a + 13) (wfTrace_t6 ha) x3 _ h) (cwX5_61 o.1.2.2.2.2 (by decide)) ⟨_, _, rfl⟩ (by decide) (wfRow_o (wfTrace_t6 ha)) rfl (Nat.le_of_ble_eq_true rfl) ⟨Nat.le_of_ble_eq_true rfl, Nat.le_of_ble_eq_true rfl⟩ dX5_renameRing_15 rfl (fun r15 g15 h => ?_)
        refine v_iload_n o 1 dX5_renameRing_18 rfl ?_
        refine v_icmp_ne o (tgt := 31) dX5_renameRing_19 (by decide) (fun c19 => ?_) (fun c19 => ?_)
        · replace h := h.1 c19
          refine v_sub [0, 1, 2, 3] (lv2 := [(0, .ref a), (1, .int p1), (2, .int p2), (3, .int x3)]) rfl ?_
          exact J31 x3 g15  h
        · replace h := h.2 c19
          refine v_aload_n o 0 dX5_renameRing_22 rfl ?_
          refine v_gfR o lkX5_35 (by decide) (wfTrace_o ha) (wfTrace_r6 ha) dX5_renameRing_23 ?_
          refine v_iload_n o 3 dX5_renameRing_26 rfl ?_
          refine v_iload_n o 2 dX5_renameRing_27 rfl ?_
          refine v_cVv o [.int x3, .int p2] [] (fun sz => metX3_put l G P g15 sz (a + 13) (wfTrace_t6 ha) x3 p2 _ h) (cwX5_47 o.1.2.2.2.2 (by decide)) ⟨_, _, rfl⟩ (by decide) (wfRow_o (wfTrace_t6 ha)) rfl (Nat.le_of_ble_eq_true rfl) ⟨Nat.le_of_ble_eq_true rfl, Nat.le_of_ble_eq_true rfl⟩ dX5_renameRing_28 rfl (fun g28 h => ?_)
          refine v_sub [0, 1, 2, 3] (lv2 := [(0, .ref a), (1, .int p1), (2, .int p2), (3, .int x3)]) rfl ?_
          exact J31 x3 g28  h
  unfold vX5_renameRing at h
  refine v_iconst o (v := 0) dX5_renameRing_0 (by decide) ?_
  refine v_istore_n o (lv' := [(3, .int 0), (0, .ref a), (1, .int p1), (2, .int p2)]) dX5_renameRing_1 rfl (by decide) rfl ?_
  refine v_sub [1, 2, 3, 0] (lv2 := [(0, .ref a), (1, .int p1), (2, .int p2), (3, .int 0)]) rfl ?_
  exact (main (μ2 f 0 + 1)) f 0  h (Nat.lt_succ_self _)
def WX5_renameRing (P : Sk) (f : St) (a : Nat) (p1 : Int32) (p2 : Int32) (K : St → Prop) : Prop := ∃ (I2 : St → Int32 → Prop) (μ2 : St → Int32 → Nat), (vX5_renameRing P f a p1 p2 I2 K) ∧ (∀ (g : St) (x3 : Int32) , I2 g x3 → bX5_renameRing_2 P a p1 p2 (fun g' z0 => I2 g' z0 ∧ μ2 g' z0 < μ2 g x3) K g x3)
def kX5_renameRing (P : Sk) (f : St) (a : Nat) (p1 : Int32) (p2 : Int32) (K : St → Prop) : Prop := ∃ n, f a 7 = nI n ∧ n ≤ 7 ∧ ∀ g, (∀ q, q ≠ a + 13 + 1 → g q = f q) → (∀ i, i < n → g (a + 13 + 1) i = if f (a + 13 + 1) i = p1 then p2 else f (a + 13 + 1) i) → K g
theorem wX5_renameRing (P : Sk) (f : St) (a : Nat) (ha : IsTrace P a) (p1 : Int32) (p2 : Int32) (K : St → Prop) (h : kX5_renameRing P f a p1 p2 K) : WX5_renameRing P f a p1 p2 K := by
  obtain ⟨n, t0, h7, hK⟩ := h
  refine ⟨fun g x => ∃ k, x = nI k ∧ k ≤ n ∧ (∀ q, q ≠ a + 13 + 1 → g q = f q) ∧ (∀ i, i < k → g (a + 13 + 1) i = if f (a + 13 + 1) i = p1 then p2 else f (a + 13 + 1) i) ∧ (∀ i, k ≤ i → g (a + 13 + 1) i = f (a + 13 + 1) i), fun g x => n - x.toNatClampNeg, ?_, ?_⟩
  · unfold vX5_renameRing
    exact ⟨0, rfl, Nat.zero_le _, fun _ _ => rfl, fun s hs => absurd hs (Nat.not_lt_zero _), fun _ _ => rfl⟩
  · rintro g x ⟨k, rfl, hk, hfr, hA, hB⟩
    unfold bX5_renameRing_2
    rw [hfr a (by omega), t0, nI_leI (by omega) (by omega)]
    refine ⟨fun q => ?_, fun q => ?_⟩
    · rw [show k = n by omega] at hA
      exact hK g hfr hA
    · refine u3_at (wfTrace_n6 ha) (by decide) (by omega) ?_
      rw [hB k (Nat.le_refl _)]
      unfold jX5_renameRing_31
      rw [nI_1]
      refine ⟨fun q2 x e => ⟨⟨k + 1, e, by omega, hfr, fun i hi => ?_, fun i hi => hB i (by omega)⟩, mu_up e (by omega) (by omega)⟩, fun q2 => ?_⟩
      · by_cases c : i = k
        · rw [c, if_neg q2]
          exact hB k (Nat.le_refl _)
        · exact hA i (by omega)
      · refine u3_put (wfTrace_n6 ha) (by decide) (by omega) ?_
        intro x e
        refine ⟨⟨k + 1, e, by omega, fun q3 hq => by rw [setf_row hq, hfr q3 hq], fun i hi => ?_, fun i hi => ?_⟩, mu_up e (by omega) (by omega)⟩
        · by_cases c : i = k
          · rw [c, if_pos q2, setf_same]
          · rw [setf_off (Or.inr c)]
            exact hA i (by omega)
        · rw [setf_off (Or.inr (by omega))]
          exact hB i (by omega)

theorem metX5_renameRing (l : Launch) (G : Gl) (P : Sk) (f : St) (sz : Nat) (a : Nat) (ha : IsTrace P a) (p1 : Int32) (p2 : Int32) (K : St → Prop) (h : kX5_renameRing P f a p1 p2 K) : Met l yX5_renameRing (wU yX5_renameRing cX5_renameRing 4 none) rmX5_renameRing (PcW G P f sz [.ref a, .int p1, .int p2]) (QcV G P sz K) 0 0 (frA P sz) := by
  obtain ⟨I2, μ2, qh, qh2⟩ := wX5_renameRing P f a ha p1 p2 K h
  exact mX5_renameRing l G P f sz a ha p1 p2 K I2 μ2 qh qh2

def jX5_ringsByJoining_82 (P : Sk) (a : Nat) (L2 : St → Int32 → Prop) (L32 : St → Int32 → Int32 → Prop) (K : Int32 → St → Prop) (x1 : Int32) (x2 : Int32) (x3 : Int32) (x4 : Int32) (f : St) : Prop :=
  ∀ x2_82 : Int32, x2_82 = x2 + 1 → L32 f x1 x2_82
def bX5_ringsByJoining_2 (P : Sk) (a : Nat) (L2 : St → Int32 → Prop) (L32 : St → Int32 → Int32 → Prop) (K : Int32 → St → Prop) (f : St) (x1 : Int32) : Prop :=
  (f a 7 ≤ x1 → ∀ x1_29 : Int32, x1_29 = f a 7 → L32 f x1_29 0) ∧ (¬ f a 7 ≤ x1 → kX3_put P f (a + 13) x1 x1 (fun g16 => ∀ x1_19 : Int32, x1_19 = x1 + 1 → L2 g16 x1_19))
def bX5_ringsByJoining_32 (P : Sk) (a : Nat) (L2 : St → Int32 → Prop) (L32 : St → Int32 → Int32 → Prop) (K : Int32 → St → Prop) (f : St) (x1 : Int32) (x2 : Int32) : Prop :=
  (f a 7 ≤ x2 → K x1 f) ∧ (¬ f a 7 ≤ x2 → kX3_at P f (a + 13) x2 (fun r45 g45 => kX3_at P g45 (a + 7) x2 (fun r58 g58 => kX3_at P g58 (a + 13) r58 (fun r61 g61 => (r45 = r61 → jX5_ringsByJoining_82 P a L2 L32 K x1 x2 r45 r61 g61) ∧ (¬ r45 = r61 → kX5_renameRing P g61 a r61 r45 (fun g76 => ∀ x1_79 : Int32, x1_79 = x1 + (-1) → jX5_ringsByJoining_82 P a L2 L32 K x1_79 x2 r45 r61 g76))))))
def vX5_ringsByJoining (P : Sk) (f : St) (a : Nat) (L2 : St → Int32 → Prop) (L32 : St → Int32 → Int32 → Prop) (K : Int32 → St → Prop) : Prop :=
  L2 f 0
set_option maxRecDepth 20000 in
set_option maxHeartbeats 4000000 in
theorem mX5_ringsByJoining (l : Launch) (G : Gl) (P : Sk) (f : St) (sz : Nat) (a : Nat) (ha : IsTrace P a) (K : Int32 → St → Prop) (I2 : St → Int32 → Prop) (μ2 : St → Int32 → Nat) (I32 : St → Int32 → Int32 → Prop) (μ32 : St → Int32 → Int32 → Nat) 
  (h : vX5_ringsByJoining P f a I2 I32 K)
  (h2 : ∀ (g : St) (x1 : Int32) , I2 g x1 → bX5_ringsByJoining_2 P a (fun g' z0 => I2 g' z0 ∧ μ2 g' z0 < μ2 g x1) (fun g' z0 z1 => I32 g' z0 z1 ∧ μ32 g' z0 z1 < μ2 g x1) K g x1)
  (h32 : ∀ (g : St) (x1 : Int32) (x2 : Int32) , I32 g x1 x2 → bX5_ringsByJoining_32 P a (fun g' z0 => I2 g' z0 ∧ μ2 g' z0 < μ32 g x1 x2) (fun g' z0 z1 => I32 g' z0 z1 ∧ μ32 g' z0 z1 < μ32 g x1 x2) K g x1 x2) :
  Met l yX5_ringsByJoining (wU yX5_ringsByJoining cX5_ringsByJoining 5 (some .int)) rmX5_ringsByJoining (PcW G P f sz [.ref a]) (QcI G P sz K) 0 0 (frA P sz) := by
  refine v_met (own := RX5) [.ref a] (by decide +kernel) rfl (Nat.le_of_ble_eq_true rfl) (fun p e s m args below meth c hsz o hr hnm => ?_)
  refine v_lv (lv2 := [(0, .ref a)]) rfl ?_
  have main : ∀ n : Nat, (∀ (g : St) (x1 : Int32) , I2 g x1 → μ2 g x1 < n → V p l e rmX5_ringsByJoining s m args below meth c 5 G (frA P sz) (MQ below (QcI G P sz K) args s 0 0 (frA P sz)) 0 0 P [(0, .ref a), (1, .int x1)] [] 2 g) ∧ (∀ (g : St) (x1 : Int32) (x2 : Int32) , I32 g x1 x2 → μ32 g x1 x2 < n → V p l e rmX5_ringsByJoining s m args below meth c 5 G (frA P sz) (MQ below (QcI G P sz K) args s 0 0 (frA P sz)) 0 0 P [(0, .ref a), (1, .int x1), (2, .int x2)] [] 32 g) := by
    intro n
    induction n with
    | zero => exact ⟨fun g x1 hI hm => absurd hm (Nat.not_lt_zero _), fun g x1 x2 hI hm => absurd hm (Nat.not_lt_zero _)⟩
    | succ n ih =>
      refine ⟨?_, ?_⟩
      · intro g x1 hI hm
        have h := h2 g x1 hI
        clear hI
        unfold bX5_ringsByJoining_2 at h
        refine v_iload_n o 1 dX5_ringsByJoining_2 rfl ?_
        refine v_aload_n o 0 dX5_ringsByJoining_3 rfl ?_
        refine v_gfI o lkX5_38 (by decide) (wfTrace_o ha) dX5_ringsByJoining_4 ?_
        refine v_icmp_ge o (tgt := 25) dX5_ringsByJoining_7 (by decide) (fun c7 => ?_) (fun c7 => ?_)
        · replace h := h.1 c7
          refine v_aload_n o 0 dX5_ringsByJoining_25 rfl ?_
          refine v_gfI o lkX5_38 (by decide) (wfTrace_o ha) dX5_ringsByJoining_26 ?_
          refine v_topi (fun x1_29 ex1_29 => ?_)
          replace h := h x1_29 ex1_29
          refine v_istore_n o (lv' := [(1, .int x1_29), (0, .ref a)]) dX5_ringsByJoining_29 rfl (by decide) rfl ?_
          refine v_iconst o (v := 0) dX5_ringsByJoining_30 (by decide) ?_
          refine v_istore_n o (lv' := [(2, .int 0), (1, .int x1_29), (0, .ref a)]) dX5_ringsByJoining_31 rfl (by decide) rfl ?_
          refine v_sub [2, 1, 0] (lv2 := [(0, .ref a), (1, .int x1_29), (2, .int 0)]) rfl ?_
          exact ih.2 g x1_29 0  h.1 (by have := h.2; omega)
        · replace h := h.2 c7
          refine v_aload_n o 0 dX5_ringsByJoining_10 rfl ?_
          refine v_gfR o lkX5_35 (by decide) (wfTrace_o ha) (wfTrace_r6 ha) dX5_ringsByJoining_11 ?_
          refine v_iload_n o 1 dX5_ringsByJoining_14 rfl ?_
          refine v_iload_n o 1 dX5_ringsByJoining_15 rfl ?_
          refine v_cVv o [.int x1, .int x1] [] (fun sz => metX3_put l G P g sz (a + 13) (wfTrace_t6 ha) x1 x1 _ h) (cwX5_47 o.1.2.2.2.2 (by decide)) ⟨_, _, rfl⟩ (by decide) (wfRow_o (wfTrace_t6 ha)) rfl (Nat.le_of_ble_eq_true rfl) ⟨Nat.le_of_ble_eq_true rfl, Nat.le_of_ble_eq_true rfl⟩ dX5_ringsByJoining_16 rfl (fun g16 h => ?_)
          obtain ⟨x1_19, ex1_19⟩ : ∃ y : Int32, y = x1 + 1 := ⟨_, rfl⟩
          replace h := h x1_19 ex1_19
          refine v_iinc o (v := x1_19) (lv' := [(1, .int x1_19), (0, .ref a)]) 1 dX5_ringsByJoining_19 rfl (by rw [ex1_19]; rfl) (by decide) rfl ?_
          refine v_goto o (tgt := 2) dX5_ringsByJoining_22 (by decide) ?_
          refine v_sub [1, 0] (lv2 := [(0, .ref a), (1, .int x1_19)]) rfl ?_
          exact ih.1 g16 x1_19  h.1 (by have := h.2; omega)
      · intro g x1 x2 hI hm
        have h := h32 g x1 x2 hI
        clear hI
        have J82 : ∀ (x1_82 : Int32) (x2_82 : Int32) (x3_82 : Int32) (x4_82 : Int32) (g82 : St), jX5_ringsByJoining_82 P a (fun g' z0 => I2 g' z0 ∧ μ2 g' z0 < μ32 g x1 x2) (fun g' z0 z1 => I32 g' z0 z1 ∧ μ32 g' z0 z1 < μ32 g x1 x2) K x1_82 x2_82 x3_82 x4_82 g82 → V p l e rmX5_ringsByJoining s m args below meth c 5 G (frA P sz) (MQ below (QcI G P sz K) args s 0 0 (frA P sz)) 0 0 P [(0, .ref a), (1, .int x1_82), (2, .int x2_82), (3, .int x3_82), (4, .int x4_82)] [] 82 g82 := by
          intro x1_82 x2_82 x3_82 x4_82 g82  h
          unfold jX5_ringsByJoining_82 at h
          obtain ⟨x2_82, ex2_82⟩ : ∃ y : Int32, y = x2_82 + 1 := ⟨_, rfl⟩
          replace h := h x2_82 ex2_82
          refine v_iinc o (v := x2_82) (lv' := [(2, .int x2_82), (0, .ref a), (1, .int x1_82), (3, .int x3_82), (4, .int x4_82)]) 2 dX5_ringsByJoining_82 rfl (by rw [ex2_82]; rfl) (by decide) rfl ?_
          refine v_goto o (tgt := 32) dX5_ringsByJoining_85 (by decide) ?_
          refine v_sub [1, 2, 0] (lv2 := [(0, .ref a), (1, .int x1_82), (2, .int x2_82)]) rfl ?_
          exact ih.2 g82 x1_82 x2_82  h.1 (by have := h.2; omega)
        unfold bX5_ringsByJoining_32 at h
        refine v_iload_n o 2 dX5_ringsByJoining_32 rfl ?_
        refine v_aload_n o 0 dX5_ringsByJoining_33 rfl ?_
        refine v_gfI o lkX5_38 (by decide) (wfTrace_o ha) dX5_ringsByJoining_34 ?_
        refine v_icmp_ge o (tgt := 88) dX5_ringsByJoining_37 (by decide) (fun c37 => ?_) (fun c37 => ?_)
        · replace h := h.1 c37
          refine v_iload_n o 1 dX5_ringsByJoining_88 rfl ?_
          exact v_iret o rfl hr dX5_ringsByJoining_89 h
        · replace h := h.2 c37
          refine v_aload_n o 0 dX5_ringsByJoining_40 rfl ?_
          refine v_gfR o lkX5_35 (by decide) (wfTrace_o ha) (wfTrace_r6 ha) dX5_ringsByJoining_41 ?_
          refine v_iload_n o 2 dX5_ringsByJoining_44 rfl ?_
          refine v_cVi o [.int x2] [] (fun sz => metX3_at l G P g sz (a + 13) (wfTrace_t6 ha) x2 _ h) (cwX5_61 o.1.2.2.2.2 (by decide)) ⟨_, _, rfl⟩ (by decide) (wfRow_o (wfTrace_t6 ha)) rfl (Nat.le_of_ble_eq_true rfl) ⟨Nat.le_of_ble_eq_true rfl, Nat.le_of_ble_eq_true rfl⟩ dX5_ringsByJoining_45 rfl (fun r45 g45 h => ?_)
          refine v_istore_n o (lv' := [(3, .int r45), (0, .ref a), (1, .int x1), (2, .int x2)]) dX5_ringsByJoining_48 rfl (by decide) rfl ?_
          refine v_aload_n o 1 dX5_ringsByJoining_49 rfl ?_
          refine v_gfR o lkX5_35 (by decide) (wfTrace_o ha) (wfTrace_r6 ha) dX5_ringsByJoining_50 ?_
          refine v_aload_n o 1 dX5_ringsByJoining_53 rfl ?_
          refine v_gfR o lkX5_26 (by decide) (wfTrace_o ha) (wfTrace_r3 ha) dX5_ringsByJoining_54 ?_
          refine v_iload_n o 3 dX5_ringsByJoining_57 rfl ?_
          refine v_cVi o [.int x2] [.ref (a + 13)] (fun sz => metX3_at l G P g45 sz (a + 7) (wfTrace_t3 ha) x2 _ h) (cwX5_61 o.1.2.2.2.2 (by decide)) ⟨_, _, rfl⟩ (by decide) (wfRow_o (wfTrace_t3 ha)) rfl (Nat.le_of_ble_eq_true rfl) ⟨Nat.le_of_ble_eq_true rfl, Nat.le_of_ble_eq_true rfl⟩ dX5_ringsByJoining_58 rfl (fun r58 g58 h => ?_)
          refine v_cVi o [.int r58] [] (fun sz => metX3_at l G P g58 sz (a + 13) (wfTrace_t6 ha) r58 _ h) (cwX5_61 o.1.2.2.2.2 (by decide)) ⟨_, _, rfl⟩ (by decide) (wfRow_o (wfTrace_t6 ha)) rfl (Nat.le_of_ble_eq_true rfl) ⟨Nat.le_of_ble_eq_true rfl, Nat.le_of_ble_eq_true rfl⟩ dX5_ringsByJoining_61 rfl (fun r61 g61 h => ?_)
          refine v_istore o (lv' := [(4, .int r61), (3, .int r45), (0, .ref a), (1, .int x1), (2, .int x2)]) dX5_ringsByJoining_64 (by decide) rfl ?_
          refine v_iload_n o 1 dX5_ringsByJoining_66 rfl ?_
          refine v_iload o 0 dX5_ringsByJoining_67 rfl ?_
          refine v_icmp_eq o (tgt := 82) dX5_ringsByJoining_69 (by decide) (fun c69 => ?_) (fun c69 => ?_)
          · replace h := h.1 c69
            refine v_sub [2, 3, 4, 1, 0] (lv2 := [(0, .ref a), (1, .int x1), (2, .int x2), (3, .int r45), (4, .int r61)]) rfl ?_
            exact J82 x1 x2 r45 r61 g61  h
          · replace h := h.2 c69
            refine v_aload_n o 2 dX5_ringsByJoining_72 rfl ?_
            refine v_iload o 0 dX5_ringsByJoining_73 rfl ?_
            refine v_iload_n o 1 dX5_ringsByJoining_75 rfl ?_
            refine v_cVv o [.int r61, .int r45] [] (fun sz => metX5_renameRing l G P g61 sz a ha r61 r45 _ h) (cwX5_78 o.1.2.2.2.2 (by decide)) ⟨_, _, rfl⟩ (by decide) (wfTrace_o ha) rfl (Nat.le_of_ble_eq_true rfl) ⟨Nat.le_of_ble_eq_true rfl, Nat.le_of_ble_eq_true rfl⟩ dX5_ringsByJoining_76 rfl (fun g76 h => ?_)
            obtain ⟨x1_79, ex1_79⟩ : ∃ y : Int32, y = x1 + (-1) := ⟨_, rfl⟩
            replace h := h x1_79 ex1_79
            refine v_iinc o (v := x1_79) (lv' := [(1, .int x1_79), (4, .int r61), (3, .int r45), (0, .ref a), (2, .int x2)]) 3 dX5_ringsByJoining_79 rfl (by rw [ex1_79]; rfl) (by decide) rfl ?_
            refine v_sub [3, 0, 4, 2, 1] (lv2 := [(0, .ref a), (1, .int x1_79), (2, .int x2), (3, .int r45), (4, .int r61)]) rfl ?_
            exact J82 x1_79 x2 r45 r61 g76  h
  unfold vX5_ringsByJoining at h
  refine v_iconst o (v := 0) dX5_ringsByJoining_0 (by decide) ?_
  refine v_istore_n o (lv' := [(1, .int 0), (0, .ref a)]) dX5_ringsByJoining_1 rfl (by decide) rfl ?_
  refine v_sub [1, 0] (lv2 := [(0, .ref a), (1, .int 0)]) rfl ?_
  exact (main (μ2 f 0 + 1)).1 f 0  h (Nat.lt_succ_self _)
def WX5_ringsByJoining (P : Sk) (f : St) (a : Nat) (K : Int32 → St → Prop) : Prop := ∃ (I2 : St → Int32 → Prop) (I32 : St → Int32 → Int32 → Prop) (μ2 : St → Int32 → Nat) (μ32 : St → Int32 → Int32 → Nat), (vX5_ringsByJoining P f a I2 I32 K) ∧ (∀ (g : St) (x1 : Int32) , I2 g x1 → bX5_ringsByJoining_2 P a (fun g' z0 => I2 g' z0 ∧ μ2 g' z0 < μ2 g x1) (fun g' z0 z1 => I32 g' z0 z1 ∧ μ32 g' z0 z1 < μ2 g x1) K g x1) ∧ (∀ (g : St) (x1 : Int32) (x2 : Int32) , I32 g x1 x2 → bX5_ringsByJoining_32 P a (fun g' z0 => I2 g' z0 ∧ μ2 g' z0 < μ32 g x1 x2) (fun g' z0 z1 => I32 g' z0 z1 ∧ μ32 g' z0 z1 < μ32 g x1 x2) K g x1 x2)
def kX5_ringsByJoining (P : Sk) (f : St) (a : Nat) (K : Int32 → St → Prop) : Prop := ∃ n E, EndsIs f a n E ∧ ∀ g, (∀ q, q ≠ a + 13 + 1 → g q = f q) → K (nI (rjO E n n 0 (cd (fun i => i) n) n)) g
theorem wX5_ringsByJoining (P : Sk) (f : St) (a : Nat) (ha : IsTrace P a) (K : Int32 → St → Prop) (h : kX5_ringsByJoining P f a K) : WX5_ringsByJoining P f a K := by
  obtain ⟨n, E, ⟨t0, h2, h7, hE⟩, hK⟩ := h
  refine ⟨fun g x1 => ∃ k, x1 = nI k ∧ k ≤ n ∧ (∀ q, q ≠ a + 13 + 1 → g q = f q) ∧ ∀ i, i < k → g (a + 13 + 1) i = nI i, fun g x1 x2 => ∃ k R left, x1 = nI left ∧ x2 = nI k ∧ k ≤ n ∧ n - k ≤ left ∧ (∀ q, q ≠ a + 13 + 1 → g q = f q) ∧ (∀ i, i < n → g (a + 13 + 1) i = nI (dg R i)) ∧ rjO E n (n - k) k R left = rjO E n n 0 (cd (fun i => i) n) n, fun g x1 => 100 + (n - x1.toNatClampNeg), fun g x1 x2 => n - x2.toNatClampNeg, ?_, ?_, ?_⟩
  · unfold vX5_ringsByJoining
    exact ⟨0, rfl, Nat.zero_le _, fun _ _ => rfl, fun s hs => absurd hs (Nat.not_lt_zero _)⟩
  · rintro g x ⟨k, rfl, hk, hfr, hA⟩
    unfold bX5_ringsByJoining_2
    rw [hfr a (by omega), t0, nI_leI (by omega) (by omega)]
    refine ⟨fun q x e => ?_, fun q => ?_⟩
    · refine ⟨⟨0, cd (fun i => i) n, n, e, rfl, by omega, by omega, hfr, fun i hi => ?_, rfl⟩, ?_⟩
      · rw [dg_cd (fun i => i) n (fun i hi => by omega) i hi]
        exact hA i (by omega)
      · show n - (nI 0).toNatClampNeg < 100 + (n - (nI k).toNatClampNeg)
        omega
    · refine u3_put (wfTrace_n6 ha) (by decide) (by omega) ?_
      rw [nI_1]
      intro x e
      refine ⟨⟨k + 1, e, by omega, fun q3 hq => by rw [setf_row hq, hfr q3 hq], fun i hi => ?_⟩, ?_⟩
      · by_cases c : i = k
        · rw [c, setf_same]
        · rw [setf_off (Or.inr c)]
          exact hA i (by omega)
      · have := mu_up e (show k < n by omega) (by omega)
        show 100 + (n - x.toNatClampNeg) < 100 + (n - (nI k).toNatClampNeg)
        omega
  · rintro g x1 x2 ⟨k, R, left, rfl, rfl, hk, hl, hfr, hA, hR⟩
    unfold bX5_ringsByJoining_32
    rw [hfr a (by omega), t0, nI_leI (by omega) (by omega)]
    refine ⟨fun q => ?_, fun q => ?_⟩
    · rw [show n - k = 0 by omega] at hR
      simp only [rjO] at hR
      rw [hR]
      exact hK g hfr
    · have h3 := hE k (by omega)
      refine u3_at (wfTrace_n6 ha) (by decide) (by omega) ?_
      refine u3_at (wfTrace_n3 ha) (by decide) (by omega) ?_
      rw [hfr (a + 7 + 1) (by omega), h3.2]
      refine u3_at (wfTrace_n6 ha) (by decide) (by omega) ?_
      have l1 := dg_lt R k
      have l2 := dg_lt R (dg E k)
      rw [hA k (by omega), hA (dg E k) h3.1, nI_eq (by omega) (by omega)]
      rw [show n - k = (n - k - 1) + 1 by omega, rjO_s] at hR
      refine ⟨fun q2 => ?_, fun q2 => ?_⟩
      · unfold jX5_ringsByJoining_82
        rw [nI_1]
        rw [if_pos q2] at hR
        exact fun x e => ⟨⟨k + 1, R, left, rfl, e, by omega, by omega, hfr, hA, by rw [show n - (k + 1) = n - k - 1 by omega]; exact hR⟩, mu_up e (by omega) (by omega)⟩
      · rw [if_neg q2] at hR
        refine ⟨n, by rw [hfr a (by omega), t0], h7, fun g2 r1 r2 x e => ?_⟩
        unfold jX5_ringsByJoining_82
        rw [nI_1]
        intro y e2
        refine ⟨⟨k + 1, _, left - 1, ?_, e2, by omega, by omega, fun q3 hq => by rw [r1 q3 hq, hfr q3 hq], fun i hi => ?_, by rw [show n - (k + 1) = n - k - 1 by omega]; exact hR⟩, mu_up e2 (by omega) (by omega)⟩
        · rw [e]
          conv => lhs; rw [show left = (left - 1) + 1 by omega]
          exact pk_m1 _
        · have l3 := dg_lt R i
          rw [r2 i hi, hA i hi, dg_cd _ n (fun j hj => by split <;> exact dg_lt _ _) i hi]
          by_cases c : dg R i = dg R (dg E k)
          · rw [if_pos (by rw [c]), if_pos c]
          · rw [if_neg (fun q5 => c ((nI_eq (by omega) (by omega)).mp q5)), if_neg c]

theorem metX5_ringsByJoining (l : Launch) (G : Gl) (P : Sk) (f : St) (sz : Nat) (a : Nat) (ha : IsTrace P a) (K : Int32 → St → Prop) (h : kX5_ringsByJoining P f a K) : Met l yX5_ringsByJoining (wU yX5_ringsByJoining cX5_ringsByJoining 5 (some .int)) rmX5_ringsByJoining (PcW G P f sz [.ref a]) (QcI G P sz K) 0 0 (frA P sz) := by
  obtain ⟨I2, I32, μ2, μ32, qh, qh2, qh32⟩ := wX5_ringsByJoining P f a ha K h
  exact mX5_ringsByJoining l G P f sz a ha K I2 μ2 I32 μ32 qh qh2 qh32

def bX5_roundOf_14 (P : Sk) (a : Nat) (p1 : Int32) (L14 : St → Int32 → Int32 → Int32 → Prop) (K : Int32 → St → Prop) (f : St) (x2 : Int32) (x3 : Int32) (x4 : Int32) : Prop :=
  (f a 7 ≤ x4 → K x3 f) ∧ (¬ f a 7 ≤ x4 → (x2 = p1 → K x3 f) ∧ (¬ x2 = p1 → kX3_at P f (a + 7) x2 (fun r33 g33 => ∀ x3_37 : Int32, x3_37 = x3 + 1 → ∀ x4_40 : Int32, x4_40 = x4 + 1 → L14 g33 r33 x3_37 x4_40)))
def vX5_roundOf (P : Sk) (f : St) (a : Nat) (p1 : Int32) (L14 : St → Int32 → Int32 → Int32 → Prop) (K : Int32 → St → Prop) : Prop :=
  kX3_at P f (a + 7) p1 (fun r5 g5 => L14 g5 r5 1 0)
set_option maxRecDepth 20000 in
set_option maxHeartbeats 4000000 in
theorem mX5_roundOf (l : Launch) (G : Gl) (P : Sk) (f : St) (sz : Nat) (a : Nat) (ha : IsTrace P a) (p1 : Int32) (K : Int32 → St → Prop) (I14 : St → Int32 → Int32 → Int32 → Prop) (μ14 : St → Int32 → Int32 → Int32 → Nat) 
  (h : vX5_roundOf P f a p1 I14 K)
  (h14 : ∀ (g : St) (x2 : Int32) (x3 : Int32) (x4 : Int32) , I14 g x2 x3 x4 → bX5_roundOf_14 P a p1 (fun g' z0 z1 z2 => I14 g' z0 z1 z2 ∧ μ14 g' z0 z1 z2 < μ14 g x2 x3 x4) K g x2 x3 x4) :
  Met l yX5_roundOf (wU yX5_roundOf cX5_roundOf 5 (some .int)) rmX5_roundOf (PcW G P f sz [.ref a, .int p1]) (QcI G P sz K) 0 0 (frA P sz) := by
  refine v_met (own := RX5) [.ref a, .int p1] (by decide +kernel) rfl (Nat.le_of_ble_eq_true rfl) (fun p e s m args below meth c hsz o hr hnm => ?_)
  refine v_lv (lv2 := [(0, .ref a), (1, .int p1)]) rfl ?_
  have main : ∀ n : Nat, (∀ (g : St) (x2 : Int32) (x3 : Int32) (x4 : Int32) , I14 g x2 x3 x4 → μ14 g x2 x3 x4 < n → V p l e rmX5_roundOf s m args below meth c 5 G (frA P sz) (MQ below (QcI G P sz K) args s 0 0 (frA P sz)) 0 0 P [(0, .ref a), (1, .int p1), (2, .int x2), (3, .int x3), (4, .int x4)] [] 14 g) := by
    intro n
    induction n with
    | zero => exact fun g x2 x3 x4 hI hm => absurd hm (Nat.not_lt_zero _)
    | succ n ih =>
      intro g x2 x3 x4 hI hm
      have h := h14 g x2 x3 x4 hI
      clear hI
      unfold bX5_roundOf_14 at h
      refine v_iload o 4 dX5_roundOf_14 rfl ?_
      refine v_aload_n o 0 dX5_roundOf_16 rfl ?_
      refine v_gfI o lkX5_38 (by decide) (wfTrace_o ha) dX5_roundOf_17 ?_
      refine v_icmp_ge o (tgt := 46) dX5_roundOf_20 (by decide) (fun c20 => ?_) (fun c20 => ?_)
      · replace h := h.1 c20
        refine v_iload_n o 3 dX5_roundOf_46 rfl ?_
        exact v_iret o rfl hr dX5_roundOf_47 h
      · replace h := h.2 c20
        refine v_iload_n o 2 dX5_roundOf_23 rfl ?_
        refine v_iload_n o 1 dX5_roundOf_24 rfl ?_
        refine v_icmp_eq o (tgt := 46) dX5_roundOf_25 (by decide) (fun c25 => ?_) (fun c25 => ?_)
        · replace h := h.1 c25
          refine v_iload_n o 3 dX5_roundOf_46 rfl ?_
          exact v_iret o rfl hr dX5_roundOf_47 h
        · replace h := h.2 c25
          refine v_aload_n o 0 dX5_roundOf_28 rfl ?_
          refine v_gfR o lkX5_26 (by decide) (wfTrace_o ha) (wfTrace_r3 ha) dX5_roundOf_29 ?_
          refine v_iload_n o 2 dX5_roundOf_32 rfl ?_
          refine v_cVi o [.int x2] [] (fun sz => metX3_at l G P g sz (a + 7) (wfTrace_t3 ha) x2 _ h) (cwX5_61 o.1.2.2.2.2 (by decide)) ⟨_, _, rfl⟩ (by decide) (wfRow_o (wfTrace_t3 ha)) rfl (Nat.le_of_ble_eq_true rfl) ⟨Nat.le_of_ble_eq_true rfl, Nat.le_of_ble_eq_true rfl⟩ dX5_roundOf_33 rfl (fun r33 g33 h => ?_)
          refine v_istore_n o (lv' := [(2, .int r33), (0, .ref a), (1, .int p1), (3, .int x3), (4, .int x4)]) dX5_roundOf_36 rfl (by decide) rfl ?_
          obtain ⟨x3_37, ex3_37⟩ : ∃ y : Int32, y = x3 + 1 := ⟨_, rfl⟩
          replace h := h x3_37 ex3_37
          refine v_iinc o (v := x3_37) (lv' := [(3, .int x3_37), (2, .int r33), (0, .ref a), (1, .int p1), (4, .int x4)]) 3 dX5_roundOf_37 rfl (by rw [ex3_37]; rfl) (by decide) rfl ?_
          obtain ⟨x4_40, ex4_40⟩ : ∃ y : Int32, y = x4 + 1 := ⟨_, rfl⟩
          replace h := h x4_40 ex4_40
          refine v_iinc o (v := x4_40) (lv' := [(4, .int x4_40), (3, .int x3_37), (2, .int r33), (0, .ref a), (1, .int p1)]) 4 dX5_roundOf_40 rfl (by rw [ex4_40]; rfl) (by decide) rfl ?_
          refine v_goto o (tgt := 14) dX5_roundOf_43 (by decide) ?_
          refine v_sub [3, 4, 2, 1, 0] (lv2 := [(0, .ref a), (1, .int p1), (2, .int r33), (3, .int x3_37), (4, .int x4_40)]) rfl ?_
          exact ih g33 r33 x3_37 x4_40  h.1 (by have := h.2; omega)
  unfold vX5_roundOf at h
  refine v_aload_n o 0 dX5_roundOf_0 rfl ?_
  refine v_gfR o lkX5_26 (by decide) (wfTrace_o ha) (wfTrace_r3 ha) dX5_roundOf_1 ?_
  refine v_iload_n o 1 dX5_roundOf_4 rfl ?_
  refine v_cVi o [.int p1] [] (fun sz => metX3_at l G P f sz (a + 7) (wfTrace_t3 ha) p1 _ h) (cwX5_61 o.1.2.2.2.2 (by decide)) ⟨_, _, rfl⟩ (by decide) (wfRow_o (wfTrace_t3 ha)) rfl (Nat.le_of_ble_eq_true rfl) ⟨Nat.le_of_ble_eq_true rfl, Nat.le_of_ble_eq_true rfl⟩ dX5_roundOf_5 rfl (fun r5 g5 h => ?_)
  refine v_istore_n o (lv' := [(2, .int r5), (0, .ref a), (1, .int p1)]) dX5_roundOf_8 rfl (by decide) rfl ?_
  refine v_iconst o (v := 1) dX5_roundOf_9 (by decide) ?_
  refine v_istore_n o (lv' := [(3, .int 1), (2, .int r5), (0, .ref a), (1, .int p1)]) dX5_roundOf_10 rfl (by decide) rfl ?_
  refine v_iconst o (v := 0) dX5_roundOf_11 (by decide) ?_
  refine v_istore o (lv' := [(4, .int 0), (3, .int 1), (2, .int r5), (0, .ref a), (1, .int p1)]) dX5_roundOf_12 (by decide) rfl ?_
  refine v_sub [3, 4, 2, 1, 0] (lv2 := [(0, .ref a), (1, .int p1), (2, .int r5), (3, .int 1), (4, .int 0)]) rfl ?_
  exact (main (μ14 g5 r5 1 0 + 1)) g5 r5 1 0  h (Nat.lt_succ_self _)
def WX5_roundOf (P : Sk) (f : St) (a : Nat) (p1 : Int32) (K : Int32 → St → Prop) : Prop := ∃ (I14 : St → Int32 → Int32 → Int32 → Prop) (μ14 : St → Int32 → Int32 → Int32 → Nat), (vX5_roundOf P f a p1 I14 K) ∧ (∀ (g : St) (x2 : Int32) (x3 : Int32) (x4 : Int32) , I14 g x2 x3 x4 → bX5_roundOf_14 P a p1 (fun g' z0 z1 z2 => I14 g' z0 z1 z2 ∧ μ14 g' z0 z1 z2 < μ14 g x2 x3 x4) K g x2 x3 x4)
def kX5_roundOf (P : Sk) (f : St) (a : Nat) (p1 : Int32) (K : Int32 → St → Prop) : Prop := ∃ n E k, p1 = nI k ∧ k < n ∧ EndsIs f a n E ∧ K (nI (roF E k n (dg E k) 1)) f
theorem wX5_roundOf (P : Sk) (f : St) (a : Nat) (ha : IsTrace P a) (p1 : Int32) (K : Int32 → St → Prop) (h : kX5_roundOf P f a p1 K) : WX5_roundOf P f a p1 K := by
  obtain ⟨n, E, k, rfl, hk, ⟨t0, h2, h7, hE⟩, hK⟩ := h
  refine ⟨fun g x2 x3 x4 => ∃ i place st, x2 = nI place ∧ x3 = nI st ∧ x4 = nI i ∧ g = f ∧ place < n ∧ i ≤ n ∧ roF E k (n - i) place st = roF E k n (dg E k) 1, fun g x2 x3 x4 => n - x4.toNatClampNeg, ?_, ?_⟩
  · unfold vX5_roundOf
    refine u3_at (wfTrace_n3 ha) (by decide) (by omega) ?_
    have h4 := hE k hk
    rw [h4.2]
    exact ⟨0, dg E k, 1, rfl, rfl, rfl, rfl, h4.1, by omega, rfl⟩
  · rintro g x2 x3 x4 ⟨i, place, st, rfl, rfl, rfl, rfl, hp, hi, hR⟩
    unfold bX5_roundOf_14
    rw [t0, nI_leI (by omega) (by omega), nI_eq (by omega) (by omega)]
    refine ⟨fun q => ?_, fun q => ?_⟩
    · rw [show n - i = 0 by omega] at hR
      simp only [roF] at hR
      rw [hR]
      exact hK
    · rw [show n - i = (n - i - 1) + 1 by omega, roF_s] at hR
      refine ⟨fun q2 => ?_, fun q2 => ?_⟩
      · rw [if_pos q2] at hR
        rw [hR]
        exact hK
      · rw [if_neg q2] at hR
        refine u3_at (wfTrace_n3 ha) (by decide) (by omega) ?_
        have h4 := hE place hp
        rw [h4.2, nI_1, nI_1]
        exact fun x e y e2 => ⟨⟨i + 1, _, st + 1, rfl, e, e2, rfl, h4.1, by omega, by rw [show n - (i + 1) = n - i - 1 by omega]; exact hR⟩, mu_up e2 (by omega) (by omega)⟩
theorem roF_le (E k : Nat) : ∀ fu p st, st ≤ roF E k fu p st ∧ roF E k fu p st ≤ st + fu
  | 0, p, st => ⟨Nat.le_refl _, Nat.le_refl _⟩
  | fu + 1, p, st => by
    rw [roF_s]
    split
    · omega
    · have := roF_le E k fu (dg E p) (st + 1)
      omega

theorem metX5_roundOf (l : Launch) (G : Gl) (P : Sk) (f : St) (sz : Nat) (a : Nat) (ha : IsTrace P a) (p1 : Int32) (K : Int32 → St → Prop) (h : kX5_roundOf P f a p1 K) : Met l yX5_roundOf (wU yX5_roundOf cX5_roundOf 5 (some .int)) rmX5_roundOf (PcW G P f sz [.ref a, .int p1]) (QcI G P sz K) 0 0 (frA P sz) := by
  obtain ⟨I14, μ14, qh, qh14⟩ := wX5_roundOf P f a ha p1 K h
  exact mX5_roundOf l G P f sz a ha p1 K I14 μ14 qh qh14

def bX5_leastCommonMultiple_4 (P : Sk) (p0 : Int32) (p1 : Int32) (L4 : St → Int32 → Int32 → Prop) (K : Int32 → St → Prop) (f : St) (x2 : Int32) (x3 : Int32) : Prop :=
  (p1 ≤ x3 → K x2 f) ∧ (¬ p1 ≤ x3 → (p1 ≤ 0 → K x2 f) ∧ (¬ p1 ≤ 0 → (¬ p1 = 0) ∧ ((x2 - x2 / p1 * p1 = 0 → K x2 f) ∧ (¬ x2 - x2 / p1 * p1 = 0 → ∀ x2_22 : Int32, x2_22 = x2 + p0 → ∀ x3_23 : Int32, x3_23 = x3 + 1 → L4 f x2_22 x3_23))))
def vX5_leastCommonMultiple (P : Sk) (f : St) (p0 : Int32) (p1 : Int32) (L4 : St → Int32 → Int32 → Prop) (K : Int32 → St → Prop) : Prop :=
  L4 f p0 1
set_option maxRecDepth 20000 in
set_option maxHeartbeats 4000000 in
theorem mX5_leastCommonMultiple (l : Launch) (G : Gl) (P : Sk) (f : St) (sz : Nat) (p0 : Int32) (p1 : Int32) (K : Int32 → St → Prop) (I4 : St → Int32 → Int32 → Prop) (μ4 : St → Int32 → Int32 → Nat) 
  (h : vX5_leastCommonMultiple P f p0 p1 I4 K)
  (h4 : ∀ (g : St) (x2 : Int32) (x3 : Int32) , I4 g x2 x3 → bX5_leastCommonMultiple_4 P p0 p1 (fun g' z0 z1 => I4 g' z0 z1 ∧ μ4 g' z0 z1 < μ4 g x2 x3) K g x2 x3) :
  Met l yX5_leastCommonMultiple (wU yX5_leastCommonMultiple cX5_leastCommonMultiple 4 (some .int)) rmX5_leastCommonMultiple (PcW G P f sz [.int p0, .int p1]) (QcI G P sz K) 0 0 (frA P sz) := by
  refine v_met (own := RX5) [.int p0, .int p1] (by decide +kernel) rfl (Nat.le_of_ble_eq_true rfl) (fun p e s m args below meth c hsz o hr hnm => ?_)
  refine v_lv (lv2 := [(0, .int p0), (1, .int p1)]) rfl ?_
  have main : ∀ n : Nat, (∀ (g : St) (x2 : Int32) (x3 : Int32) , I4 g x2 x3 → μ4 g x2 x3 < n → V p l e rmX5_leastCommonMultiple s m args below meth c 4 G (frA P sz) (MQ below (QcI G P sz K) args s 0 0 (frA P sz)) 0 0 P [(0, .int p0), (1, .int p1), (2, .int x2), (3, .int x3)] [] 4 g) := by
    intro n
    induction n with
    | zero => exact fun g x2 x3 hI hm => absurd hm (Nat.not_lt_zero _)
    | succ n ih =>
      intro g x2 x3 hI hm
      have h := h4 g x2 x3 hI
      clear hI
      unfold bX5_leastCommonMultiple_4 at h
      refine v_iload_n o 3 dX5_leastCommonMultiple_4 rfl ?_
      refine v_iload_n o 1 dX5_leastCommonMultiple_5 rfl ?_
      refine v_icmp_ge o (tgt := 29) dX5_leastCommonMultiple_6 (by decide) (fun c6 => ?_) (fun c6 => ?_)
      · replace h := h.1 c6
        refine v_iload_n o 2 dX5_leastCommonMultiple_29 rfl ?_
        exact v_iret o rfl hr dX5_leastCommonMultiple_30 h
      · replace h := h.2 c6
        refine v_iload_n o 1 dX5_leastCommonMultiple_9 rfl ?_
        refine v_if_le o (tgt := 29) dX5_leastCommonMultiple_10 (by decide) (fun c10 => ?_) (fun c10 => ?_)
        · replace h := h.1 c10
          refine v_iload_n o 2 dX5_leastCommonMultiple_29 rfl ?_
          exact v_iret o rfl hr dX5_leastCommonMultiple_30 h
        · replace h := h.2 c10
          refine v_iload_n o 2 dX5_leastCommonMultiple_13 rfl ?_
          refine v_iload_n o 1 dX5_leastCommonMultiple_14 rfl ?_
          refine v_irem o dX5_leastCommonMultiple_15 h.1 ?_
          replace h := h.2
          refine v_if_eq o (tgt := 29) dX5_leastCommonMultiple_16 (by decide) (fun c16 => ?_) (fun c16 => ?_)
          · replace h := h.1 c16
            refine v_iload_n o 2 dX5_leastCommonMultiple_29 rfl ?_
            exact v_iret o rfl hr dX5_leastCommonMultiple_30 h
          · replace h := h.2 c16
            refine v_iload_n o 2 dX5_leastCommonMultiple_19 rfl ?_
            refine v_iload_n o 0 dX5_leastCommonMultiple_20 rfl ?_
            refine v_iadd o dX5_leastCommonMultiple_21 ?_
            refine v_topi (fun x2_22 ex2_22 => ?_)
            replace h := h x2_22 ex2_22
            refine v_istore_n o (lv' := [(2, .int x2_22), (0, .int p0), (1, .int p1), (3, .int x3)]) dX5_leastCommonMultiple_22 rfl (by decide) rfl ?_
            obtain ⟨x3_23, ex3_23⟩ : ∃ y : Int32, y = x3 + 1 := ⟨_, rfl⟩
            replace h := h x3_23 ex3_23
            refine v_iinc o (v := x3_23) (lv' := [(3, .int x3_23), (2, .int x2_22), (0, .int p0), (1, .int p1)]) 3 dX5_leastCommonMultiple_23 rfl (by rw [ex3_23]; rfl) (by decide) rfl ?_
            refine v_goto o (tgt := 4) dX5_leastCommonMultiple_26 (by decide) ?_
            refine v_sub [2, 3, 1, 0] (lv2 := [(0, .int p0), (1, .int p1), (2, .int x2_22), (3, .int x3_23)]) rfl ?_
            exact ih g x2_22 x3_23  h.1 (by have := h.2; omega)
  unfold vX5_leastCommonMultiple at h
  refine v_iload_n o 0 dX5_leastCommonMultiple_0 rfl ?_
  refine v_istore_n o (lv' := [(2, .int p0), (0, .int p0), (1, .int p1)]) dX5_leastCommonMultiple_1 rfl (by decide) rfl ?_
  refine v_iconst o (v := 1) dX5_leastCommonMultiple_2 (by decide) ?_
  refine v_istore_n o (lv' := [(3, .int 1), (2, .int p0), (0, .int p0), (1, .int p1)]) dX5_leastCommonMultiple_3 rfl (by decide) rfl ?_
  refine v_sub [2, 3, 1, 0] (lv2 := [(0, .int p0), (1, .int p1), (2, .int p0), (3, .int 1)]) rfl ?_
  exact (main (μ4 f p0 1 + 1)) f p0 1  h (Nat.lt_succ_self _)
def WX5_leastCommonMultiple (P : Sk) (f : St) (p0 : Int32) (p1 : Int32) (K : Int32 → St → Prop) : Prop := ∃ (I4 : St → Int32 → Int32 → Prop) (μ4 : St → Int32 → Int32 → Nat), (vX5_leastCommonMultiple P f p0 p1 I4 K) ∧ (∀ (g : St) (x2 : Int32) (x3 : Int32) , I4 g x2 x3 → bX5_leastCommonMultiple_4 P p0 p1 (fun g' z0 z1 => I4 g' z0 z1 ∧ μ4 g' z0 z1 < μ4 g x2 x3) K g x2 x3)
def kX5_leastCommonMultiple (P : Sk) (f : St) (p0 : Int32) (p1 : Int32) (K : Int32 → St → Prop) : Prop := ∃ one other, p0 = nI one ∧ p1 = nI other ∧ 0 < other ∧ other ≤ 8 ∧ one < 2 ^ 27 ∧ K (nI (lcF one other 8 one 1)) f
theorem wX5_leastCommonMultiple (P : Sk) (f : St) (p0 : Int32) (p1 : Int32) (K : Int32 → St → Prop) (h : kX5_leastCommonMultiple P f p0 p1 K) : WX5_leastCommonMultiple P f p0 p1 K := by
  obtain ⟨one, other, rfl, rfl, h0, h8, h1, hK⟩ := h
  refine ⟨fun g x2 x3 => ∃ i m, x2 = nI m ∧ x3 = nI i ∧ g = f ∧ 1 ≤ i ∧ i ≤ 9 ∧ m = one * i ∧ lcF one other (9 - i) m i = lcF one other 8 one 1, fun g x2 x3 => 9 - x3.toNatClampNeg, ?_, ?_⟩
  · unfold vX5_leastCommonMultiple
    exact ⟨1, one, rfl, rfl, rfl, by omega, by omega, by omega, rfl⟩
  · rintro g x2 x3 ⟨i, m, rfl, rfl, rfl, hi, hi9, hm, hR⟩
    unfold bX5_leastCommonMultiple_4
    have hm9 : m ≤ one * 9 := by rw [hm]; exact Nat.mul_le_mul_left _ hi9
    have e0 : (0 : Int32) = nI 0 := rfl
    have hr : nI m - nI m / nI other * nI other = nI (m % other) := pk_rem (by omega) h0 (by omega)
    have hrl : m % other < other := Nat.mod_lt _ h0
    rw [hr, e0, nI_leI (by omega) (by omega), nI_leI (by omega) (by omega), nI_eq (by omega) (by omega), nI_eq (by omega) (by omega)]
    refine ⟨fun q => ?_, fun q => ⟨fun q2 => absurd q2 (by omega), fun q2 => ⟨by omega, fun q3 => ?_, fun q3 => ?_⟩⟩⟩
    · by_cases c : i = 9
      · rw [c] at hR
        simp only [Nat.sub_self, lcF] at hR
        rw [hR]
        exact hK
      · rw [show 9 - i = (8 - i) + 1 by omega, lcF_s, if_neg (fun q4 => by have := q4.1; omega)] at hR
        rw [hR]
        exact hK
    · rw [show 9 - i = (8 - i) + 1 by omega, lcF_s, if_neg (fun q4 => q4.2 q3)] at hR
      rw [hR]
      exact hK
    · rw [show 9 - i = (8 - i) + 1 by omega, lcF_s, if_pos ⟨by omega, q3⟩] at hR
      rw [nI_add, nI_1]
      exact fun x e y e2 => ⟨⟨i + 1, m + one, e, e2, rfl, by omega, by omega, by rw [hm, Nat.mul_succ], by rw [show 9 - (i + 1) = 8 - i by omega]; exact hR⟩, mu_up e2 (by omega) (by omega)⟩
theorem lcF_le (one other : Nat) : ∀ fu m i, m ≤ lcF one other fu m i ∧ lcF one other fu m i ≤ m + one * fu
  | 0, m, i => ⟨Nat.le_refl _, Nat.le_refl _⟩
  | fu + 1, m, i => by
    rw [lcF_s]
    split
    · have := lcF_le one other fu (m + one) (i + 1)
      rw [Nat.mul_succ]
      omega
    · omega

theorem metX5_leastCommonMultiple (l : Launch) (G : Gl) (P : Sk) (f : St) (sz : Nat) (p0 : Int32) (p1 : Int32) (K : Int32 → St → Prop) (h : kX5_leastCommonMultiple P f p0 p1 K) : Met l yX5_leastCommonMultiple (wU yX5_leastCommonMultiple cX5_leastCommonMultiple 4 (some .int)) rmX5_leastCommonMultiple (PcW G P f sz [.int p0, .int p1]) (QcI G P sz K) 0 0 (frA P sz) := by
  obtain ⟨I4, μ4, qh, qh4⟩ := wX5_leastCommonMultiple P f p0 p1 K h
  exact mX5_leastCommonMultiple l G P f sz p0 p1 K I4 μ4 qh qh4

def bX5_timesUntilHome_4 (P : Sk) (a : Nat) (L4 : St → Int32 → Int32 → Prop) (K : Int32 → St → Prop) (f : St) (x1 : Int32) (x2 : Int32) : Prop :=
  (f a 7 ≤ x2 → K x1 f) ∧ (¬ f a 7 ≤ x2 → kX5_roundOf P f a x2 (fun r15 g15 => kX5_leastCommonMultiple P g15 x1 r15 (fun r18 g18 => ∀ x2_22 : Int32, x2_22 = x2 + 1 → L4 g18 r18 x2_22)))
def vX5_timesUntilHome (P : Sk) (f : St) (a : Nat) (L4 : St → Int32 → Int32 → Prop) (K : Int32 → St → Prop) : Prop :=
  L4 f 1 0
set_option maxRecDepth 20000 in
set_option maxHeartbeats 4000000 in
theorem mX5_timesUntilHome (l : Launch) (G : Gl) (P : Sk) (f : St) (sz : Nat) (a : Nat) (ha : IsTrace P a) (K : Int32 → St → Prop) (I4 : St → Int32 → Int32 → Prop) (μ4 : St → Int32 → Int32 → Nat) 
  (h : vX5_timesUntilHome P f a I4 K)
  (h4 : ∀ (g : St) (x1 : Int32) (x2 : Int32) , I4 g x1 x2 → bX5_timesUntilHome_4 P a (fun g' z0 z1 => I4 g' z0 z1 ∧ μ4 g' z0 z1 < μ4 g x1 x2) K g x1 x2) :
  Met l yX5_timesUntilHome (wU yX5_timesUntilHome cX5_timesUntilHome 3 (some .int)) rmX5_timesUntilHome (PcW G P f sz [.ref a]) (QcI G P sz K) 0 0 (frA P sz) := by
  refine v_met (own := RX5) [.ref a] (by decide +kernel) rfl (Nat.le_of_ble_eq_true rfl) (fun p e s m args below meth c hsz o hr hnm => ?_)
  refine v_lv (lv2 := [(0, .ref a)]) rfl ?_
  have main : ∀ n : Nat, (∀ (g : St) (x1 : Int32) (x2 : Int32) , I4 g x1 x2 → μ4 g x1 x2 < n → V p l e rmX5_timesUntilHome s m args below meth c 3 G (frA P sz) (MQ below (QcI G P sz K) args s 0 0 (frA P sz)) 0 0 P [(0, .ref a), (1, .int x1), (2, .int x2)] [] 4 g) := by
    intro n
    induction n with
    | zero => exact fun g x1 x2 hI hm => absurd hm (Nat.not_lt_zero _)
    | succ n ih =>
      intro g x1 x2 hI hm
      have h := h4 g x1 x2 hI
      clear hI
      unfold bX5_timesUntilHome_4 at h
      refine v_iload_n o 2 dX5_timesUntilHome_4 rfl ?_
      refine v_aload_n o 0 dX5_timesUntilHome_5 rfl ?_
      refine v_gfI o lkX5_38 (by decide) (wfTrace_o ha) dX5_timesUntilHome_6 ?_
      refine v_icmp_ge o (tgt := 28) dX5_timesUntilHome_9 (by decide) (fun c9 => ?_) (fun c9 => ?_)
      · replace h := h.1 c9
        refine v_iload_n o 1 dX5_timesUntilHome_28 rfl ?_
        exact v_iret o rfl hr dX5_timesUntilHome_29 h
      · replace h := h.2 c9
        refine v_iload_n o 1 dX5_timesUntilHome_12 rfl ?_
        refine v_aload_n o 0 dX5_timesUntilHome_13 rfl ?_
        refine v_iload_n o 2 dX5_timesUntilHome_14 rfl ?_
        refine v_cVi o [.int x2] [.int x1] (fun sz => metX5_roundOf l G P g sz a ha x2 _ h) (cwX5_81 o.1.2.2.2.2 (by decide)) ⟨_, _, rfl⟩ (by decide) (wfTrace_o ha) rfl (Nat.le_of_ble_eq_true rfl) ⟨Nat.le_of_ble_eq_true rfl, Nat.le_of_ble_eq_true rfl⟩ dX5_timesUntilHome_15 rfl (fun r15 g15 h => ?_)
        refine v_cSi o [.int x1, .int r15] [] (fun sz => metX5_leastCommonMultiple l G P g15 sz x1 r15 _ h) (cwX5_84 o.1.2.2.2.2 (by decide)) rfl (Nat.le_of_ble_eq_true rfl) ⟨Nat.le_of_ble_eq_true rfl, Nat.le_of_ble_eq_true rfl⟩ dX5_timesUntilHome_18 rfl (fun r18 g18 h => ?_)
        refine v_istore_n o (lv' := [(1, .int r18), (0, .ref a), (2, .int x2)]) dX5_timesUntilHome_21 rfl (by decide) rfl ?_
        obtain ⟨x2_22, ex2_22⟩ : ∃ y : Int32, y = x2 + 1 := ⟨_, rfl⟩
        replace h := h x2_22 ex2_22
        refine v_iinc o (v := x2_22) (lv' := [(2, .int x2_22), (1, .int r18), (0, .ref a)]) 2 dX5_timesUntilHome_22 rfl (by rw [ex2_22]; rfl) (by decide) rfl ?_
        refine v_goto o (tgt := 4) dX5_timesUntilHome_25 (by decide) ?_
        refine v_sub [2, 1, 0] (lv2 := [(0, .ref a), (1, .int r18), (2, .int x2_22)]) rfl ?_
        exact ih g18 r18 x2_22  h.1 (by have := h.2; omega)
  unfold vX5_timesUntilHome at h
  refine v_iconst o (v := 1) dX5_timesUntilHome_0 (by decide) ?_
  refine v_istore_n o (lv' := [(1, .int 1), (0, .ref a)]) dX5_timesUntilHome_1 rfl (by decide) rfl ?_
  refine v_iconst o (v := 0) dX5_timesUntilHome_2 (by decide) ?_
  refine v_istore_n o (lv' := [(2, .int 0), (1, .int 1), (0, .ref a)]) dX5_timesUntilHome_3 rfl (by decide) rfl ?_
  refine v_sub [2, 1, 0] (lv2 := [(0, .ref a), (1, .int 1), (2, .int 0)]) rfl ?_
  exact (main (μ4 f 1 0 + 1)) f 1 0  h (Nat.lt_succ_self _)
def WX5_timesUntilHome (P : Sk) (f : St) (a : Nat) (K : Int32 → St → Prop) : Prop := ∃ (I4 : St → Int32 → Int32 → Prop) (μ4 : St → Int32 → Int32 → Nat), (vX5_timesUntilHome P f a I4 K) ∧ (∀ (g : St) (x1 : Int32) (x2 : Int32) , I4 g x1 x2 → bX5_timesUntilHome_4 P a (fun g' z0 z1 => I4 g' z0 z1 ∧ μ4 g' z0 z1 < μ4 g x1 x2) K g x1 x2)
def kX5_timesUntilHome (P : Sk) (f : St) (a : Nat) (K : Int32 → St → Prop) : Prop := ∃ n E, EndsIs f a n E ∧ K (nI (perC E n n 0 1)) f
theorem wX5_timesUntilHome (P : Sk) (f : St) (a : Nat) (ha : IsTrace P a) (K : Int32 → St → Prop) (h : kX5_timesUntilHome P f a K) : WX5_timesUntilHome P f a K := by
  obtain ⟨n, E, hE, hK⟩ := h
  have t0 := hE.1
  have h7 := hE.2.2.1
  refine ⟨fun g x1 x2 => ∃ k t, x1 = nI t ∧ x2 = nI k ∧ g = f ∧ k ≤ n ∧ t ≤ 9 ^ k ∧ perC E n (n - k) k t = perC E n n 0 1, fun g x1 x2 => n - x2.toNatClampNeg, ?_, ?_⟩
  · unfold vX5_timesUntilHome
    exact ⟨0, 1, rfl, rfl, rfl, by omega, by decide, rfl⟩
  · rintro g x1 x2 ⟨k, t, rfl, rfl, rfl, hk, ht, hR⟩
    unfold bX5_timesUntilHome_4
    rw [t0, nI_leI (by omega) (by omega)]
    refine ⟨fun q => ?_, fun q => ?_⟩
    · rw [show n - k = 0 by omega] at hR
      simp only [perC] at hR
      rw [hR]
      exact hK
    · rw [show n - k = (n - k - 1) + 1 by omega, perC_s] at hR
      have r1 := roF_le E k n (dg E k) 1
      have h9 : 9 ^ k ≤ 9 ^ 6 := Nat.pow_le_pow_right (by decide) (by omega)
      have l1 := lcF_le t (roF E k n (dg E k) 1) 8 t 1
      have p9 : 9 ^ (k + 1) = 9 ^ k * 9 := Nat.pow_succ ..
      refine ⟨n, E, k, rfl, by omega, hE, ?_⟩
      refine ⟨t, _, rfl, rfl, by omega, by omega, by omega, ?_⟩
      rw [nI_1]
      exact fun x e => ⟨⟨k + 1, _, rfl, e, rfl, by omega, by omega, by rw [show n - (k + 1) = n - k - 1 by omega]; exact hR⟩, mu_up e (by omega) (by omega)⟩

theorem metX5_timesUntilHome (l : Launch) (G : Gl) (P : Sk) (f : St) (sz : Nat) (a : Nat) (ha : IsTrace P a) (K : Int32 → St → Prop) (h : kX5_timesUntilHome P f a K) : Met l yX5_timesUntilHome (wU yX5_timesUntilHome cX5_timesUntilHome 3 (some .int)) rmX5_timesUntilHome (PcW G P f sz [.ref a]) (QcI G P sz K) 0 0 (frA P sz) := by
  obtain ⟨I4, μ4, qh, qh4⟩ := wX5_timesUntilHome P f a ha K h
  exact mX5_timesUntilHome l G P f sz a ha K I4 μ4 qh qh4

