def bX8_reverses_2 (P : Sk) (a : Nat) (L2 : St → Int32 → Prop) (K : St → Prop) (f : St) (x1 : Int32) : Prop :=
  ((f a 9) / 2 ≤ x1 → kX8_mirrors P f a (fun g59 => K g59)) ∧ (¬ (f a 9) / 2 ≤ x1 → vp_in x1 50 ∧ (∀ x2_18 : Int32, x2_18 = f (a + 5) x1.toNatClampNeg → vp_in (((f a 9) - 1) - x1) 50 ∧ (vp_in x1 50 ∧ (∀ g37 : St, g37 = setf f (a + 5) x1.toNatClampNeg (f (a + 5) (((f a 9) - 1) - x1).toNatClampNeg) → vp_in (((g37 a 9) - 1) - x1) 50 ∧ (∀ g51 : St, g51 = setf g37 (a + 5) (((g37 a 9) - 1) - x1).toNatClampNeg x2_18 → ∀ x1_52 : Int32, x1_52 = x1 + 1 → L2 g51 x1_52)))))
def vX8_reverses (P : Sk) (f : St) (a : Nat) (L2 : St → Int32 → Prop) (K : St → Prop) : Prop :=
  L2 f 0
set_option maxRecDepth 20000 in
set_option maxHeartbeats 4000000 in
theorem mX8_reverses (l : Launch) (G : Gl) (P : Sk) (f : St) (sz : Nat) (a : Nat) (ha : IsModel P a) (K : St → Prop) (I2 : St → Int32 → Prop) (μ2 : St → Int32 → Nat) 
  (h : vX8_reverses P f a I2 K)
  (h2 : ∀ (g : St) (x1 : Int32) , I2 g x1 → bX8_reverses_2 P a (fun g' z0 => I2 g' z0 ∧ μ2 g' z0 < μ2 g x1) K g x1) :
  Met l yX8_reverses (wU yX8_reverses cX8_reverses 3 none) rmX8_reverses (PcW G P f sz [.ref a]) (QcV G P sz K) 0 0 (frA P sz) := by
  refine v_met (own := RX8) [.ref a] (by decide +kernel) rfl (Nat.le_of_ble_eq_true rfl) (fun p e s m args below meth c hsz o hr hnm => ?_)
  refine v_lv (lv2 := [(0, .ref a)]) rfl ?_
  have main : ∀ n : Nat, (∀ (g : St) (x1 : Int32) , I2 g x1 → μ2 g x1 < n → V p l e rmX8_reverses s m args below meth c 3 G (frA P sz) (MQ below (QcV G P sz K) args s 0 0 (frA P sz)) 0 0 P [(0, .ref a), (1, .int x1)] [] 2 g) := by
    intro n
    induction n with
    | zero => exact fun g x1 hI hm => absurd hm (Nat.not_lt_zero _)
    | succ n ih =>
      intro g x1 hI hm
      have h := h2 g x1 hI
      clear hI
      unfold bX8_reverses_2 at h
      refine v_iload_n o 1 dX8_reverses_2 rfl ?_
      refine v_aload_n o 0 dX8_reverses_3 rfl ?_
      refine v_gfI o lkX8_58 (by decide) (wfModel_o ha) dX8_reverses_4 ?_
      refine v_iconst o (v := 2) dX8_reverses_7 (by decide) ?_
      refine v_idiv o dX8_reverses_8 (by decide) ?_
      refine v_icmp_ge o (tgt := 58) dX8_reverses_9 (by decide) (fun c9 => ?_) (fun c9 => ?_)
      · replace h := h.1 c9
        refine v_aload_n o 0 dX8_reverses_58 rfl ?_
        refine v_cVv o [] [] (fun sz => metX8_mirrors l G P g sz a ha _ h) (cwX8_65 o.1.2.2.2.2 (by decide)) ⟨_, _, rfl⟩ (by decide) (wfModel_o ha) rfl (Nat.le_of_ble_eq_true rfl) ⟨Nat.le_of_ble_eq_true rfl, Nat.le_of_ble_eq_true rfl⟩ dX8_reverses_59 rfl (fun g59 h => ?_)
        exact v_vret o rfl hr dX8_reverses_62 h
      · replace h := h.2 c9
        refine v_aload_n o 0 dX8_reverses_12 rfl ?_
        refine v_gfR o lkX8_22 (by decide) (wfModel_o ha) (wfModel_r8 ha) dX8_reverses_13 ?_
        refine v_iload_n o 1 dX8_reverses_16 rfl ?_
        refine v_iald o (wfModel_t8 ha) (wfModel_n8 ha) h.1 dX8_reverses_17 ?_
        replace h := h.2
        refine v_topi (fun x2_18 ex2_18 => ?_)
        replace h := h x2_18 ex2_18
        refine v_istore_n o (lv' := [(2, .int x2_18), (0, .ref a), (1, .int x1)]) dX8_reverses_18 rfl (by decide) rfl ?_
        refine v_aload_n o 1 dX8_reverses_19 rfl ?_
        refine v_gfR o lkX8_22 (by decide) (wfModel_o ha) (wfModel_r8 ha) dX8_reverses_20 ?_
        refine v_iload_n o 2 dX8_reverses_23 rfl ?_
        refine v_aload_n o 1 dX8_reverses_24 rfl ?_
        refine v_gfR o lkX8_22 (by decide) (wfModel_o ha) (wfModel_r8 ha) dX8_reverses_25 ?_
        refine v_aload_n o 1 dX8_reverses_28 rfl ?_
        refine v_gfI o lkX8_58 (by decide) (wfModel_o ha) dX8_reverses_29 ?_
        refine v_iconst o (v := 1) dX8_reverses_32 (by decide) ?_
        refine v_isub o dX8_reverses_33 ?_
        refine v_iload_n o 2 dX8_reverses_34 rfl ?_
        refine v_isub o dX8_reverses_35 ?_
        refine v_iald o (wfModel_t8 ha) (wfModel_n8 ha) h.1 dX8_reverses_36 ?_
        replace h := h.2
        refine v_iast o (wfModel_t8 ha) (wfModel_n8 ha) h.1 dX8_reverses_37 ?_
        replace h := h.2
        refine v_nmf (fun g37 eg37 => ?_)
        replace h := h g37 eg37
        refine v_aload_n o 1 dX8_reverses_38 rfl ?_
        refine v_gfR o lkX8_22 (by decide) (wfModel_o ha) (wfModel_r8 ha) dX8_reverses_39 ?_
        refine v_aload_n o 1 dX8_reverses_42 rfl ?_
        refine v_gfI o lkX8_58 (by decide) (wfModel_o ha) dX8_reverses_43 ?_
        refine v_iconst o (v := 1) dX8_reverses_46 (by decide) ?_
        refine v_isub o dX8_reverses_47 ?_
        refine v_iload_n o 2 dX8_reverses_48 rfl ?_
        refine v_isub o dX8_reverses_49 ?_
        refine v_iload_n o 0 dX8_reverses_50 rfl ?_
        refine v_iast o (wfModel_t8 ha) (wfModel_n8 ha) h.1 dX8_reverses_51 ?_
        replace h := h.2
        refine v_nmf (fun g51 eg51 => ?_)
        replace h := h g51 eg51
        obtain ⟨x1_52, ex1_52⟩ : ∃ y : Int32, y = x1 + 1 := ⟨_, rfl⟩
        replace h := h x1_52 ex1_52
        refine v_iinc o (v := x1_52) (lv' := [(1, .int x1_52), (2, .int x2_18), (0, .ref a)]) 2 dX8_reverses_52 rfl (by rw [ex1_52]; rfl) (by decide) rfl ?_
        refine v_goto o (tgt := 2) dX8_reverses_55 (by decide) ?_
        refine v_sub [2, 0] (lv2 := [(0, .ref a), (1, .int x1_52)]) rfl ?_
        exact ih g51 x1_52  h.1 (by have := h.2; omega)
  unfold vX8_reverses at h
  refine v_iconst o (v := 0) dX8_reverses_0 (by decide) ?_
  refine v_istore_n o (lv' := [(1, .int 0), (0, .ref a)]) dX8_reverses_1 rfl (by decide) rfl ?_
  refine v_sub [1, 0] (lv2 := [(0, .ref a), (1, .int 0)]) rfl ?_
  exact (main (μ2 f 0 + 1)) f 0  h (Nat.lt_succ_self _)
def WX8_reverses (P : Sk) (f : St) (a : Nat) (K : St → Prop) : Prop := ∃ (I2 : St → Int32 → Prop) (μ2 : St → Int32 → Nat), (vX8_reverses P f a I2 K) ∧ (∀ (g : St) (x1 : Int32) , I2 g x1 → bX8_reverses_2 P a (fun g' z0 => I2 g' z0 ∧ μ2 g' z0 < μ2 g x1) K g x1)
def kX8_reverses (P : Sk) (f : St) (a : Nat) (K : St → Prop) : Prop := ∃ w, MW f a w ∧ Cok w ∧ ∀ g, MF f g a (fun i => i = 5) (fun _ => False) → MW g a ((w.map fl).reverse) → K g
theorem wX8_reverses (P : Sk) (f : St) (a : Nat) (ha : IsModel P a) (K : St → Prop) (h : kX8_reverses P f a K) : WX8_reverses P f a K := by
  obtain ⟨w, hw, hc, hK⟩ := h
  have hl := hc.1
  refine ⟨fun g x => ∃ k, x = nI k ∧ k ≤ w.length / 2 ∧ MF f g a (fun i => i = 5) (fun _ => False) ∧ ∀ j, j < w.length → g (a + 5) j = nI (w.getD (if j < k ∨ w.length ≤ j + k then w.length - 1 - j else j) 0), fun g x => w.length / 2 - x.toNatClampNeg, ?_, ?_⟩
  · unfold vX8_reverses
    refine ⟨0, rfl, Nat.zero_le _, MF.refl _ _ _ _, fun j hj => ?_⟩
    rw [if_neg (show ¬ (j < 0 ∨ w.length ≤ j + 0) by omega)]
    exact hw.2 j hj
  · rintro g x ⟨k, rfl, hk, hfr, hA⟩
    unfold bX8_reverses_2
    rw [hfr.2 9 id, hw.1, show (2 : Int32) = nI 2 from rfl, pk_div (by omega) (by decide) (by decide), nI_leI (by omega) (by omega)]
    refine ⟨fun q => ?_, fun q => ?_⟩
    · have hr : MW g a w.reverse := by
        refine ⟨by rw [hfr.2 9 id, hw.1, List.length_reverse], fun j hj => ?_⟩
        rw [List.length_reverse] at hj
        rw [hA j hj, getD_rev w hj]
        by_cases c : j < k ∨ w.length ≤ j + k
        · rw [if_pos c]
        · rw [if_neg c, show w.length - 1 - j = j by omega]
      refine ⟨w.reverse, hr, ⟨by rw [List.length_reverse]; exact hl, fun c hcm => hc.2 c (List.mem_reverse.mp hcm)⟩, fun g2 r2 m2 => hK g2 (hfr.trans r2) ?_⟩
      rw [← List.map_reverse]
      exact m2
    · have i1 : vp_in (nI k) 50 := vp_nI (by omega) (by decide)
      have i2 : vp_in (nI (w.length - 1 - k)) 50 := vp_nI (by omega) (by decide)
      have e1 : nI w.length - 1 - nI k = nI (w.length - 1 - k) := by
        rw [show (1 : Int32) = nI 1 from rfl, pk_sub (by omega), pk_sub (by omega)]
      rw [e1, nI_clamp (by omega), nI_clamp (by omega)]
      refine ⟨i1, fun x2 e2 => ⟨i2, i1, fun g2 eg => ?_⟩⟩
      have h9 : g2 a 9 = nI w.length := by
        rw [eg, setf_off (Or.inl (by omega)), hfr.2 9 id, hw.1]
      rw [h9, e1, nI_clamp (by omega)]
      refine ⟨i2, fun g3 eg3 y e => ⟨⟨k + 1, by rw [e, nI_1], by omega, ?_, fun j hj => ?_⟩, mu_up (by rw [e, nI_1]) (by omega) (by omega)⟩⟩
      · rw [eg3, eg]
        exact hfr.trans ((mf_arr (A := fun i => i = 5) (i := 5) g rfl (by decide)).trans (mf_arr (i := 5) _ rfl (by decide)))
      · rw [eg3, eg, e2, hA k (by omega), hA (w.length - 1 - k) (by omega), if_neg (show ¬ (k < k ∨ w.length ≤ k + k) by omega), if_neg (show ¬ (w.length - 1 - k < k ∨ w.length ≤ w.length - 1 - k + k) by omega)]
        by_cases c1 : j = w.length - 1 - k
        · rw [c1, setf_same, if_pos (show w.length - 1 - k < k + 1 ∨ w.length ≤ w.length - 1 - k + (k + 1) by omega), show w.length - 1 - (w.length - 1 - k) = k by omega]
        · rw [setf_off (Or.inr c1)]
          by_cases c2 : j = k
          · rw [c2, setf_same, if_pos (show k < k + 1 ∨ w.length ≤ k + (k + 1) by omega)]
          · rw [setf_off (Or.inr c2), hA j hj]
            by_cases c : j < k ∨ w.length ≤ j + k
            · rw [if_pos c, if_pos (show j < k + 1 ∨ w.length ≤ j + (k + 1) by omega)]
            · rw [if_neg c, if_neg (show ¬ (j < k + 1 ∨ w.length ≤ j + (k + 1)) by omega)]

theorem metX8_reverses (l : Launch) (G : Gl) (P : Sk) (f : St) (sz : Nat) (a : Nat) (ha : IsModel P a) (K : St → Prop) (h : kX8_reverses P f a K) : Met l yX8_reverses (wU yX8_reverses cX8_reverses 3 none) rmX8_reverses (PcW G P f sz [.ref a]) (QcV G P sz K) 0 0 (frA P sz) := by
  obtain ⟨I2, μ2, qh, qh2⟩ := wX8_reverses P f a ha K h
  exact mX8_reverses l G P f sz a ha K I2 μ2 qh qh2

def bX8_takesMore_2 (P : Sk) (a : Nat) (p1 : Int32) (L2 : St → Int32 → Prop) (K : St → Prop) (f : St) (x2 : Int32) : Prop :=
  kX8_of P f a p1 1 (fun r6 g6 => (r6 ≤ x2 → K g6) ∧ (¬ r6 ≤ x2 → kX8_of P g6 a p1 (2 + x2) (fun r25 g25 => vp_in (g6 a 9) 50 ∧ (∀ g28 : St, g28 = setf g25 (a + 5) (g6 a 9).toNatClampNeg r25 → ∀ g36 : St, g36 = setf g28 a 9 ((g28 a 9) + 1) → ∀ x2_39 : Int32, x2_39 = x2 + 1 → L2 g36 x2_39))))
def vX8_takesMore (P : Sk) (f : St) (a : Nat) (p1 : Int32) (L2 : St → Int32 → Prop) (K : St → Prop) : Prop :=
  L2 f 0
set_option maxRecDepth 20000 in
set_option maxHeartbeats 4000000 in
theorem mX8_takesMore (l : Launch) (G : Gl) (P : Sk) (f : St) (sz : Nat) (a : Nat) (ha : IsModel P a) (p1 : Int32) (K : St → Prop) (I2 : St → Int32 → Prop) (μ2 : St → Int32 → Nat) 
  (h : vX8_takesMore P f a p1 I2 K)
  (h2 : ∀ (g : St) (x2 : Int32) , I2 g x2 → bX8_takesMore_2 P a p1 (fun g' z0 => I2 g' z0 ∧ μ2 g' z0 < μ2 g x2) K g x2) :
  Met l yX8_takesMore (wU yX8_takesMore cX8_takesMore 3 none) rmX8_takesMore (PcW G P f sz [.ref a, .int p1]) (QcV G P sz K) 0 0 (frA P sz) := by
  refine v_met (own := RX8) [.ref a, .int p1] (by decide +kernel) rfl (Nat.le_of_ble_eq_true rfl) (fun p e s m args below meth c hsz o hr hnm => ?_)
  refine v_lv (lv2 := [(0, .ref a), (1, .int p1)]) rfl ?_
  have main : ∀ n : Nat, (∀ (g : St) (x2 : Int32) , I2 g x2 → μ2 g x2 < n → V p l e rmX8_takesMore s m args below meth c 3 G (frA P sz) (MQ below (QcV G P sz K) args s 0 0 (frA P sz)) 0 0 P [(0, .ref a), (1, .int p1), (2, .int x2)] [] 2 g) := by
    intro n
    induction n with
    | zero => exact fun g x2 hI hm => absurd hm (Nat.not_lt_zero _)
    | succ n ih =>
      intro g x2 hI hm
      have h := h2 g x2 hI
      clear hI
      unfold bX8_takesMore_2 at h
      refine v_iload_n o 2 dX8_takesMore_2 rfl ?_
      refine v_aload_n o 0 dX8_takesMore_3 rfl ?_
      refine v_iload_n o 1 dX8_takesMore_4 rfl ?_
      refine v_iconst o (v := 1) dX8_takesMore_5 (by decide) ?_
      refine v_cVi o [.int p1, .int 1] [.int x2] (fun sz => metX8_of l G P g sz a ha p1 1 _ h) (cwX8_51 o.1.2.2.2.2 (by decide)) ⟨_, _, rfl⟩ (by decide) (wfModel_o ha) rfl (Nat.le_of_ble_eq_true rfl) ⟨Nat.le_of_ble_eq_true rfl, Nat.le_of_ble_eq_true rfl⟩ dX8_takesMore_6 rfl (fun r6 g6 h => ?_)
      refine v_icmp_ge o (tgt := 45) dX8_takesMore_9 (by decide) (fun c9 => ?_) (fun c9 => ?_)
      · replace h := h.1 c9
        exact v_vret o rfl hr dX8_takesMore_45 h
      · replace h := h.2 c9
        refine v_aload_n o 0 dX8_takesMore_12 rfl ?_
        refine v_gfR o lkX8_22 (by decide) (wfModel_o ha) (wfModel_r8 ha) dX8_takesMore_13 ?_
        refine v_aload_n o 0 dX8_takesMore_16 rfl ?_
        refine v_gfI o lkX8_58 (by decide) (wfModel_o ha) dX8_takesMore_17 ?_
        refine v_aload_n o 0 dX8_takesMore_20 rfl ?_
        refine v_iload_n o 1 dX8_takesMore_21 rfl ?_
        refine v_iconst o (v := 2) dX8_takesMore_22 (by decide) ?_
        refine v_iload_n o 2 dX8_takesMore_23 rfl ?_
        refine v_iadd o dX8_takesMore_24 ?_
        refine v_cVi o [.int p1, .int (2 + x2)] [.int (g6 a 9), .ref (a + 5)] (fun sz => metX8_of l G P g6 sz a ha p1 (2 + x2) _ h) (cwX8_51 o.1.2.2.2.2 (by decide)) ⟨_, _, rfl⟩ (by decide) (wfModel_o ha) rfl (Nat.le_of_ble_eq_true rfl) ⟨Nat.le_of_ble_eq_true rfl, Nat.le_of_ble_eq_true rfl⟩ dX8_takesMore_25 rfl (fun r25 g25 h => ?_)
        refine v_iast o (wfModel_t8 ha) (wfModel_n8 ha) h.1 dX8_takesMore_28 ?_
        replace h := h.2
        refine v_nmf (fun g28 eg28 => ?_)
        replace h := h g28 eg28
        refine v_aload_n o 0 dX8_takesMore_29 rfl ?_
        refine v_dup o dX8_takesMore_30 rfl ?_
        refine v_gfI o lkX8_58 (by decide) (wfModel_o ha) dX8_takesMore_31 ?_
        refine v_iconst o (v := 1) dX8_takesMore_34 (by decide) ?_
        refine v_iadd o dX8_takesMore_35 ?_
        refine v_pf o lpX8_58 (wfModel_o ha) ⟨rfl, rfl⟩ dX8_takesMore_36 ?_
        refine v_nmf (fun g36 eg36 => ?_)
        replace h := h g36 eg36
        obtain ⟨x2_39, ex2_39⟩ : ∃ y : Int32, y = x2 + 1 := ⟨_, rfl⟩
        replace h := h x2_39 ex2_39
        refine v_iinc o (v := x2_39) (lv' := [(2, .int x2_39), (0, .ref a), (1, .int p1)]) 2 dX8_takesMore_39 rfl (by rw [ex2_39]; rfl) (by decide) rfl ?_
        refine v_goto o (tgt := 2) dX8_takesMore_42 (by decide) ?_
        refine v_sub [1, 2, 0] (lv2 := [(0, .ref a), (1, .int p1), (2, .int x2_39)]) rfl ?_
        exact ih g36 x2_39  h.1 (by have := h.2; omega)
  unfold vX8_takesMore at h
  refine v_iconst o (v := 0) dX8_takesMore_0 (by decide) ?_
  refine v_istore_n o (lv' := [(2, .int 0), (0, .ref a), (1, .int p1)]) dX8_takesMore_1 rfl (by decide) rfl ?_
  refine v_sub [1, 2, 0] (lv2 := [(0, .ref a), (1, .int p1), (2, .int 0)]) rfl ?_
  exact (main (μ2 f 0 + 1)) f 0  h (Nat.lt_succ_self _)
def WX8_takesMore (P : Sk) (f : St) (a : Nat) (p1 : Int32) (K : St → Prop) : Prop := ∃ (I2 : St → Int32 → Prop) (μ2 : St → Int32 → Nat), (vX8_takesMore P f a p1 I2 K) ∧ (∀ (g : St) (x2 : Int32) , I2 g x2 → bX8_takesMore_2 P a p1 (fun g' z0 => I2 g' z0 ∧ μ2 g' z0 < μ2 g x2) K g x2)
def kX8_takesMore (P : Sk) (f : St) (a : Nat) (p1 : Int32) (K : St → Prop) : Prop := ∃ l y w, p1 = nI l ∧ l < 6 ∧ LfM f (a + 1) (4 + 26 * l) y ∧ y.2.length ≤ 24 ∧ MW f a w ∧ w.length ≤ 24 ∧ ∀ g, MF f g a (fun i => i = 5) (fun j => j = 9) → MW g a (w ++ y.2) → K g
theorem wX8_takesMore (P : Sk) (f : St) (a : Nat) (ha : IsModel P a) (p1 : Int32) (K : St → Prop) (h : kX8_takesMore P f a p1 K) : WX8_takesMore P f a p1 K := by
  obtain ⟨l, y, w, rfl, hl, hL, h24, hw, hwl, hK⟩ := h
  refine ⟨fun g x => ∃ k, x = nI k ∧ k ≤ y.2.length ∧ MF f g a (fun i => i = 5) (fun j => j = 9) ∧ g a 9 = nI (w.length + k) ∧ (∀ j, j < w.length → g (a + 5) j = nI (w.getD j 0)) ∧ ∀ j, j < k → g (a + 5) (w.length + j) = nI (y.2.getD j 0), fun g x => y.2.length - x.toNatClampNeg, ?_, ?_⟩
  · unfold vX8_takesMore
    exact ⟨0, rfl, Nat.zero_le _, MF.refl _ _ _ _, hw.1, hw.2, fun j hj => absurd hj (Nat.not_lt_zero _)⟩
  · rintro g x ⟨k, rfl, hk, hfr, h9, hA, hB⟩
    have hrow : g (a + 1) = f (a + 1) := hfr.1 (a + 1) (by omega) (fun i hi => by omega)
    have hL2 := hL.row hrow
    unfold bX8_takesMore_2
    refine u8_of (w := 1) hl (by decide) hL2.2.1 ?_
    change _ ∧ _
    rw [nI_leI (by omega) (by omega), show (2 : Int32) = nI 2 from rfl, nI_add]
    refine ⟨fun q => hK g hfr ⟨?_, fun i hi => ?_⟩, fun q => ?_⟩
    · rw [h9, List.length_append, show k = y.2.length by omega]
    · rw [List.length_append] at hi
      by_cases c : i < w.length
      · rw [getD_app1 _ _ _ c]
        exact hA i c
      · obtain ⟨t, rfl⟩ : ∃ t, i = w.length + t := ⟨i - w.length, by omega⟩
        rw [getD_app2]
        exact hB t (by omega)
    · refine u8_of hl (by omega) (v := nI (y.2.getD k 0)) ?_ ?_
      · rw [← Nat.add_assoc]
        exact hL2.2.2 k (by omega)
      · rw [h9, nI_clamp (by omega)]
        refine ⟨vp_nI (by omega) (by decide), fun g2 e2 g3 e3 z e => ?_⟩
        have h92 : g2 a 9 = nI (w.length + k) := by
          rw [e2, setf_off (Or.inl (by omega)), h9]
        rw [h92, nI_1] at e3
        rw [nI_1] at e
        refine ⟨⟨k + 1, e, by omega, ?_, ?_, fun j hj => ?_, fun j hj => ?_⟩, mu_up e (by omega) (by omega)⟩
        · rw [e3, e2]
          exact hfr.trans ((mf_arr (A := fun i => i = 5) (i := 5) g rfl (by decide)).trans (mf_fld _ rfl))
        · rw [e3, setf_same, Nat.add_assoc]
        · rw [e3, setf_off (Or.inl (by omega)), e2, setf_off (Or.inr (by omega))]
          exact hA j hj
        · rw [e3, setf_off (Or.inl (by omega)), e2]
          by_cases c : j = k
          · rw [c, setf_same]
          · rw [setf_off (Or.inr (by omega))]
            exact hB j (by omega)

theorem metX8_takesMore (l : Launch) (G : Gl) (P : Sk) (f : St) (sz : Nat) (a : Nat) (ha : IsModel P a) (p1 : Int32) (K : St → Prop) (h : kX8_takesMore P f a p1 K) : Met l yX8_takesMore (wU yX8_takesMore cX8_takesMore 3 none) rmX8_takesMore (PcW G P f sz [.ref a, .int p1]) (QcV G P sz K) 0 0 (frA P sz) := by
  obtain ⟨I2, μ2, qh, qh2⟩ := wX8_takesMore P f a ha p1 K h
  exact mX8_takesMore l G P f sz a ha p1 K I2 μ2 qh qh2

def jX8_puts_51 (P : Sk) (a : Nat) (p1 : Int32) (L22 : St → Int32 → Prop) (K : St → Prop) (x2 : Int32) (y2 : Int32) (y3 : Int32) (f : St) : Prop :=
  kX8_store P f a p1 y2 y3 (fun g51 => ∀ x2_54 : Int32, x2_54 = x2 + 1 → L22 g51 x2_54)
def bX8_puts_22 (P : Sk) (a : Nat) (p1 : Int32) (L22 : St → Int32 → Prop) (K : St → Prop) (f : St) (x2 : Int32) : Prop :=
  (24 ≤ x2 → K f) ∧ (¬ 24 ≤ x2 → (f a 9 ≤ x2 → jX8_puts_51 P a p1 L22 K x2 (2 + x2) 0 f) ∧ (¬ f a 9 ≤ x2 → vp_in x2 50 ∧ (jX8_puts_51 P a p1 L22 K x2 (2 + x2) (f (a + 5) x2.toNatClampNeg) f)))
def vX8_puts (P : Sk) (f : St) (a : Nat) (p1 : Int32) (L22 : St → Int32 → Prop) (K : St → Prop) : Prop :=
  kX8_store P f a p1 0 (f a 10) (fun g7 => kX8_store P g7 a p1 1 (g7 a 9) (fun g17 => L22 g17 0))
set_option maxRecDepth 20000 in
set_option maxHeartbeats 4000000 in
theorem mX8_puts (l : Launch) (G : Gl) (P : Sk) (f : St) (sz : Nat) (a : Nat) (ha : IsModel P a) (p1 : Int32) (K : St → Prop) (I22 : St → Int32 → Prop) (μ22 : St → Int32 → Nat) 
  (h : vX8_puts P f a p1 I22 K)
  (h22 : ∀ (g : St) (x2 : Int32) , I22 g x2 → bX8_puts_22 P a p1 (fun g' z0 => I22 g' z0 ∧ μ22 g' z0 < μ22 g x2) K g x2) :
  Met l yX8_puts (wU yX8_puts cX8_puts 3 none) rmX8_puts (PcW G P f sz [.ref a, .int p1]) (QcV G P sz K) 0 0 (frA P sz) := by
  refine v_met (own := RX8) [.ref a, .int p1] (by decide +kernel) rfl (Nat.le_of_ble_eq_true rfl) (fun p e s m args below meth c hsz o hr hnm => ?_)
  refine v_lv (lv2 := [(0, .ref a), (1, .int p1)]) rfl ?_
  have main : ∀ n : Nat, (∀ (g : St) (x2 : Int32) , I22 g x2 → μ22 g x2 < n → V p l e rmX8_puts s m args below meth c 3 G (frA P sz) (MQ below (QcV G P sz K) args s 0 0 (frA P sz)) 0 0 P [(0, .ref a), (1, .int p1), (2, .int x2)] [] 22 g) := by
    intro n
    induction n with
    | zero => exact fun g x2 hI hm => absurd hm (Nat.not_lt_zero _)
    | succ n ih =>
      intro g x2 hI hm
      have h := h22 g x2 hI
      clear hI
      have J51 : ∀ (x2_51 : Int32) (y2_51 : Int32) (y3_51 : Int32) (g51 : St), jX8_puts_51 P a p1 (fun g' z0 => I22 g' z0 ∧ μ22 g' z0 < μ22 g x2) K x2_51 y2_51 y3_51 g51 → V p l e rmX8_puts s m args below meth c 3 G (frA P sz) (MQ below (QcV G P sz K) args s 0 0 (frA P sz)) 0 0 P [(0, .ref a), (1, .int p1), (2, .int x2_51)] [.int y3_51, .int y2_51, .int p1, .ref a] 51 g51 := by
        intro x2_51 y2_51 y3_51 g51  h
        unfold jX8_puts_51 at h
        refine v_cVv o [.int p1, .int y2_51, .int y3_51] [] (fun sz => metX8_store l G P g51 sz a ha p1 y2_51 y3_51 _ h) (cwX8_61 o.1.2.2.2.2 (by decide)) ⟨_, _, rfl⟩ (by decide) (wfModel_o ha) rfl (Nat.le_of_ble_eq_true rfl) ⟨Nat.le_of_ble_eq_true rfl, Nat.le_of_ble_eq_true rfl⟩ dX8_puts_51 rfl (fun g51 h => ?_)
        obtain ⟨x2_54, ex2_54⟩ : ∃ y : Int32, y = x2_51 + 1 := ⟨_, rfl⟩
        replace h := h x2_54 ex2_54
        refine v_iinc o (v := x2_54) (lv' := [(2, .int x2_54), (0, .ref a), (1, .int p1)]) 2 dX8_puts_54 rfl (by rw [ex2_54]; rfl) (by decide) rfl ?_
        refine v_goto o (tgt := 22) dX8_puts_57 (by decide) ?_
        refine v_sub [1, 2, 0] (lv2 := [(0, .ref a), (1, .int p1), (2, .int x2_54)]) rfl ?_
        exact ih g51 x2_54  h.1 (by have := h.2; omega)
      unfold bX8_puts_22 at h
      refine v_iload_n o 2 dX8_puts_22 rfl ?_
      refine v_bipush o (v := 24) dX8_puts_23 (by decide) ?_
      refine v_icmp_ge o (tgt := 60) dX8_puts_25 (by decide) (fun c25 => ?_) (fun c25 => ?_)
      · replace h := h.1 c25
        exact v_vret o rfl hr dX8_puts_60 h
      · replace h := h.2 c25
        refine v_aload_n o 0 dX8_puts_28 rfl ?_
        refine v_iload_n o 1 dX8_puts_29 rfl ?_
        refine v_iconst o (v := 2) dX8_puts_30 (by decide) ?_
        refine v_iload_n o 2 dX8_puts_31 rfl ?_
        refine v_iadd o dX8_puts_32 ?_
        refine v_iload_n o 2 dX8_puts_33 rfl ?_
        refine v_aload_n o 0 dX8_puts_34 rfl ?_
        refine v_gfI o lkX8_58 (by decide) (wfModel_o ha) dX8_puts_35 ?_
        refine v_icmp_ge o (tgt := 50) dX8_puts_38 (by decide) (fun c38 => ?_) (fun c38 => ?_)
        · replace h := h.1 c38
          refine v_iconst o (v := 0) dX8_puts_50 (by decide) ?_
          refine v_sub [0, 1, 2] (lv2 := [(0, .ref a), (1, .int p1), (2, .int x2)]) rfl ?_
          exact J51 x2 (2 + x2) 0 g  h
        · replace h := h.2 c38
          refine v_aload_n o 0 dX8_puts_41 rfl ?_
          refine v_gfR o lkX8_22 (by decide) (wfModel_o ha) (wfModel_r8 ha) dX8_puts_42 ?_
          refine v_iload_n o 2 dX8_puts_45 rfl ?_
          refine v_iald o (wfModel_t8 ha) (wfModel_n8 ha) h.1 dX8_puts_46 ?_
          replace h := h.2
          refine v_goto o (tgt := 51) dX8_puts_47 (by decide) ?_
          refine v_sub [0, 1, 2] (lv2 := [(0, .ref a), (1, .int p1), (2, .int x2)]) rfl ?_
          exact J51 x2 (2 + x2) (g (a + 5) x2.toNatClampNeg) g  h
  unfold vX8_puts at h
  refine v_aload_n o 0 dX8_puts_0 rfl ?_
  refine v_iload_n o 1 dX8_puts_1 rfl ?_
  refine v_iconst o (v := 0) dX8_puts_2 (by decide) ?_
  refine v_aload_n o 0 dX8_puts_3 rfl ?_
  refine v_gfI o lkX8_55 (by decide) (wfModel_o ha) dX8_puts_4 ?_
  refine v_cVv o [.int p1, .int 0, .int (f a 10)] [] (fun sz => metX8_store l G P f sz a ha p1 0 (f a 10) _ h) (cwX8_61 o.1.2.2.2.2 (by decide)) ⟨_, _, rfl⟩ (by decide) (wfModel_o ha) rfl (Nat.le_of_ble_eq_true rfl) ⟨Nat.le_of_ble_eq_true rfl, Nat.le_of_ble_eq_true rfl⟩ dX8_puts_7 rfl (fun g7 h => ?_)
  refine v_aload_n o 0 dX8_puts_10 rfl ?_
  refine v_iload_n o 1 dX8_puts_11 rfl ?_
  refine v_iconst o (v := 1) dX8_puts_12 (by decide) ?_
  refine v_aload_n o 0 dX8_puts_13 rfl ?_
  refine v_gfI o lkX8_58 (by decide) (wfModel_o ha) dX8_puts_14 ?_
  refine v_cVv o [.int p1, .int 1, .int (g7 a 9)] [] (fun sz => metX8_store l G P g7 sz a ha p1 1 (g7 a 9) _ h) (cwX8_61 o.1.2.2.2.2 (by decide)) ⟨_, _, rfl⟩ (by decide) (wfModel_o ha) rfl (Nat.le_of_ble_eq_true rfl) ⟨Nat.le_of_ble_eq_true rfl, Nat.le_of_ble_eq_true rfl⟩ dX8_puts_17 rfl (fun g17 h => ?_)
  refine v_iconst o (v := 0) dX8_puts_20 (by decide) ?_
  refine v_istore_n o (lv' := [(2, .int 0), (0, .ref a), (1, .int p1)]) dX8_puts_21 rfl (by decide) rfl ?_
  refine v_sub [1, 2, 0] (lv2 := [(0, .ref a), (1, .int p1), (2, .int 0)]) rfl ?_
  exact (main (μ22 g17 0 + 1)) g17 0  h (Nat.lt_succ_self _)
def WX8_puts (P : Sk) (f : St) (a : Nat) (p1 : Int32) (K : St → Prop) : Prop := ∃ (I22 : St → Int32 → Prop) (μ22 : St → Int32 → Nat), (vX8_puts P f a p1 I22 K) ∧ (∀ (g : St) (x2 : Int32) , I22 g x2 → bX8_puts_22 P a p1 (fun g' z0 => I22 g' z0 ∧ μ22 g' z0 < μ22 g x2) K g x2)
/-- numbers of one row are as they were, but for a stretch -/
def RwF (f g : St) (q lo hi : Nat) : Prop := ∀ j, j < lo ∨ hi ≤ j → g q j = f q j
def kX8_puts (P : Sk) (f : St) (a : Nat) (p1 : Int32) (K : St → Prop) : Prop := ∃ l n w, p1 = nI l ∧ l < 6 ∧ MW f a w ∧ w.length ≤ 24 ∧ f a 10 = nI n ∧ ∀ g, MF f g a (fun i => i = 1) (fun _ => False) → RwF f g (a + 1) (4 + 26 * l) (4 + 26 * l + 26) → LfM g (a + 1) (4 + 26 * l) (n, w) → K g
theorem wX8_puts (P : Sk) (f : St) (a : Nat) (ha : IsModel P a) (p1 : Int32) (K : St → Prop) (h : kX8_puts P f a p1 K) : WX8_puts P f a p1 K := by
  obtain ⟨l, n, w, rfl, hl, hw, h24, hn, hK⟩ := h
  refine ⟨fun g x => ∃ k, x = nI k ∧ k ≤ 24 ∧ MF f g a (fun i => i = 1) (fun _ => False) ∧ RwF f g (a + 1) (4 + 26 * l) (4 + 26 * l + 26) ∧ g (a + 1) (4 + 26 * l) = nI n ∧ g (a + 1) (4 + 26 * l + 1) = nI w.length ∧ ∀ j, j < k → j < w.length → g (a + 1) (4 + 26 * l + 2 + j) = nI (w.getD j 0), fun g x => 24 - x.toNatClampNeg, ?_, ?_⟩
  · unfold vX8_puts
    refine u8_store (w := 0) hl (by decide) ?_
    refine u8_store (w := 1) hl (by decide) ?_
    refine ⟨0, rfl, by decide, (mf_arr (A := fun i => i = 1) (i := 1) f rfl (by decide)).trans (mf_arr (i := 1) _ rfl (by decide)), fun j hj => ?_, ?_, ?_, fun j hj => absurd hj (Nat.not_lt_zero _)⟩
    · rw [setf_off (Or.inr (by omega)), setf_off (Or.inr (by omega))]
    · rw [setf_off (Or.inr (by omega))]
      exact (setf_same ..).trans hn
    · rw [setf_same, setf_off (Or.inl (by omega)), hw.1]
  · rintro g x ⟨k, rfl, hk, hfr, hr, h0, h1, hA⟩
    unfold bX8_puts_22
    rw [show (24 : Int32) = nI 24 from rfl, nI_leI (by omega) (by omega), hfr.2 9 id, hw.1, nI_leI (by omega) (by omega), show (2 : Int32) = nI 2 from rfl, nI_add, nI_clamp (by omega), hfr.1 (a + 5) (by omega) (fun i hi => by omega)]
    refine ⟨fun q => hK g hfr hr ⟨h0, h1, fun (j : Nat) (hj : j < w.length) => hA j (by omega) hj⟩, fun q => ?_⟩
    have nx : ∀ v, (k < w.length → v = nI (w.getD k 0)) → jX8_puts_51 P a (nI l) (fun g' z0 => (∃ k, z0 = nI k ∧ k ≤ 24 ∧ MF f g' a (fun i => i = 1) (fun _ => False) ∧ RwF f g' (a + 1) (4 + 26 * l) (4 + 26 * l + 26) ∧ g' (a + 1) (4 + 26 * l) = nI n ∧ g' (a + 1) (4 + 26 * l + 1) = nI w.length ∧ ∀ j, j < k → j < w.length → g' (a + 1) (4 + 26 * l + 2 + j) = nI (w.getD j 0)) ∧ 24 - z0.toNatClampNeg < 24 - (nI k).toNatClampNeg) K (nI k) (nI (2 + k)) v g := by
      intro v hv
      unfold jX8_puts_51
      refine u8_store hl (by omega) ?_
      intro y e
      rw [nI_1] at e
      refine ⟨⟨k + 1, e, by omega, hfr.trans (mf_arr g rfl (by decide)), fun j hj => ?_, ?_, ?_, fun j hj hj2 => ?_⟩, mu_up e (by omega) (by omega)⟩
      · rw [setf_off (Or.inr (by omega))]
        exact hr j hj
      · rw [setf_off (Or.inr (by omega))]
        exact h0
      · rw [setf_off (Or.inr (by omega))]
        exact h1
      · by_cases c : j = k
        · rw [c, show 4 + 26 * l + 2 + k = 4 + 26 * l + (2 + k) by omega, setf_same]
          exact hv (by omega)
        · rw [setf_off (Or.inr (by omega))]
          exact hA j (by omega) hj2
    exact ⟨fun q2 => nx _ (fun c => by omega), fun q2 => ⟨vp_nI (by omega) (by decide), nx _ (fun c => hw.2 k c)⟩⟩

theorem metX8_puts (l : Launch) (G : Gl) (P : Sk) (f : St) (sz : Nat) (a : Nat) (ha : IsModel P a) (p1 : Int32) (K : St → Prop) (h : kX8_puts P f a p1 K) : Met l yX8_puts (wU yX8_puts cX8_puts 3 none) rmX8_puts (PcW G P f sz [.ref a, .int p1]) (QcV G P sz K) 0 0 (frA P sz) := by
  obtain ⟨I22, μ22, qh, qh22⟩ := wX8_puts P f a ha p1 K h
  exact mX8_puts l G P f sz a ha p1 K I22 μ22 qh qh22

def jX8_records_50 (P : Sk) (a : Nat) (L11 : St → Int32 → Prop) (L52 : St → Int32 → Prop) (K : St → Prop) (f : St) : Prop :=
  L52 f 0
def bX8_records_11 (P : Sk) (a : Nat) (L11 : St → Int32 → Prop) (L52 : St → Int32 → Prop) (K : St → Prop) (f : St) (x1 : Int32) : Prop :=
  (800 ≤ x1 → ∀ g47 : St, g47 = setf f a 3 ((f a 3) - 1) → jX8_records_50 P a L11 L52 K  g47) ∧ (¬ 800 ≤ x1 → vp_in (x1 + 160) 960 ∧ (vp_in x1 960 ∧ (∀ g33 : St, g33 = setf f (a + 2) x1.toNatClampNeg (f (a + 2) (x1 + 160).toNatClampNeg) → ∀ x1_34 : Int32, x1_34 = x1 + 1 → L11 g33 x1_34)))
def bX8_records_52 (P : Sk) (a : Nat) (L11 : St → Int32 → Prop) (L52 : St → Int32 → Prop) (K : St → Prop) (f : St) (x1 : Int32) : Prop :=
  (160 ≤ x1 → ∀ g93 : St, g93 = setf f a 3 ((f a 3) + 1) → K g93) ∧ (¬ 160 ≤ x1 → vp_in x1 160 ∧ (vp_in ((160 * (f a 3)) + x1) 960 ∧ (∀ g79 : St, g79 = setf f (a + 2) ((160 * (f a 3)) + x1).toNatClampNeg (f (a + 1) x1.toNatClampNeg) → ∀ x1_80 : Int32, x1_80 = x1 + 1 → L52 g79 x1_80)))
def vX8_records (P : Sk) (f : St) (a : Nat) (L11 : St → Int32 → Prop) (L52 : St → Int32 → Prop) (K : St → Prop) : Prop :=
  (¬ f a 3 = 6 → jX8_records_50 P a L11 L52 K  f) ∧ (f a 3 = 6 → L11 f 0)
set_option maxRecDepth 20000 in
set_option maxHeartbeats 4000000 in
theorem mX8_records (l : Launch) (G : Gl) (P : Sk) (f : St) (sz : Nat) (a : Nat) (ha : IsModel P a) (K : St → Prop) (I11 : St → Int32 → Prop) (μ11 : St → Int32 → Nat) (I52 : St → Int32 → Prop) (μ52 : St → Int32 → Nat) 
  (h : vX8_records P f a I11 I52 K)
  (h11 : ∀ (g : St) (x1 : Int32) , I11 g x1 → bX8_records_11 P a (fun g' z0 => I11 g' z0 ∧ μ11 g' z0 < μ11 g x1) (fun g' z0 => I52 g' z0 ∧ μ52 g' z0 < μ11 g x1) K g x1)
  (h52 : ∀ (g : St) (x1 : Int32) , I52 g x1 → bX8_records_52 P a (fun g' z0 => I11 g' z0 ∧ μ11 g' z0 < μ52 g x1) (fun g' z0 => I52 g' z0 ∧ μ52 g' z0 < μ52 g x1) K g x1) :
  Met l yX8_records (wU yX8_records cX8_records 2 none) rmX8_records (PcW G P f sz [.ref a]) (QcV G P sz K) 0 0 (frA P sz) := by
  refine v_met (own := RX8) [.ref a] (by decide +kernel) rfl (Nat.le_of_ble_eq_true rfl) (fun p e s m args below meth c hsz o hr hnm => ?_)
  refine v_lv (lv2 := [(0, .ref a)]) rfl ?_
  have main : ∀ n : Nat, (∀ (g : St) (x1 : Int32) , I11 g x1 → μ11 g x1 < n → V p l e rmX8_records s m args below meth c 2 G (frA P sz) (MQ below (QcV G P sz K) args s 0 0 (frA P sz)) 0 0 P [(0, .ref a), (1, .int x1)] [] 11 g) ∧ (∀ (g : St) (x1 : Int32) , I52 g x1 → μ52 g x1 < n → V p l e rmX8_records s m args below meth c 2 G (frA P sz) (MQ below (QcV G P sz K) args s 0 0 (frA P sz)) 0 0 P [(0, .ref a), (1, .int x1)] [] 52 g) := by
    intro n
    induction n with
    | zero => exact ⟨fun g x1 hI hm => absurd hm (Nat.not_lt_zero _), fun g x1 hI hm => absurd hm (Nat.not_lt_zero _)⟩
    | succ n ih =>
      refine ⟨?_, ?_⟩
      · intro g x1 hI hm
        have h := h11 g x1 hI
        clear hI
        have J50 : ∀ (g50 : St), jX8_records_50 P a (fun g' z0 => I11 g' z0 ∧ μ11 g' z0 < μ11 g x1) (fun g' z0 => I52 g' z0 ∧ μ52 g' z0 < μ11 g x1) K  g50 → V p l e rmX8_records s m args below meth c 2 G (frA P sz) (MQ below (QcV G P sz K) args s 0 0 (frA P sz)) 0 0 P [(0, .ref a)] [] 50 g50 := by
          intro  g50  h
          unfold jX8_records_50 at h
          refine v_iconst o (v := 0) dX8_records_50 (by decide) ?_
          refine v_istore_n o (lv' := [(1, .int 0), (0, .ref a)]) dX8_records_51 rfl (by decide) rfl ?_
          refine v_sub [1, 0] (lv2 := [(0, .ref a), (1, .int 0)]) rfl ?_
          exact ih.2 g50 0  h.1 (by have := h.2; omega)
        unfold bX8_records_11 at h
        refine v_iload_n o 1 dX8_records_11 rfl ?_
        refine v_sipush o (v := 800) dX8_records_12 (by decide) ?_
        refine v_icmp_ge o (tgt := 40) dX8_records_15 (by decide) (fun c15 => ?_) (fun c15 => ?_)
        · replace h := h.1 c15
          refine v_aload_n o 0 dX8_records_40 rfl ?_
          refine v_dup o dX8_records_41 rfl ?_
          refine v_gfI o lkX8_48 (by decide) (wfModel_o ha) dX8_records_42 ?_
          refine v_iconst o (v := 1) dX8_records_45 (by decide) ?_
          refine v_isub o dX8_records_46 ?_
          refine v_pf o lpX8_48 (wfModel_o ha) ⟨rfl, rfl⟩ dX8_records_47 ?_
          refine v_nmf (fun g47 eg47 => ?_)
          replace h := h g47 eg47
          refine v_sub [0] (lv2 := [(0, .ref a)]) rfl ?_
          exact J50  g47  h
        · replace h := h.2 c15
          refine v_aload_n o 0 dX8_records_18 rfl ?_
          refine v_gfR o lkX8_13 (by decide) (wfModel_o ha) (wfModel_r2 ha) dX8_records_19 ?_
          refine v_iload_n o 1 dX8_records_22 rfl ?_
          refine v_aload_n o 0 dX8_records_23 rfl ?_
          refine v_gfR o lkX8_13 (by decide) (wfModel_o ha) (wfModel_r2 ha) dX8_records_24 ?_
          refine v_iload_n o 1 dX8_records_27 rfl ?_
          refine v_sipush o (v := 160) dX8_records_28 (by decide) ?_
          refine v_iadd o dX8_records_31 ?_
          refine v_iald o (wfModel_t2 ha) (wfModel_n2 ha) h.1 dX8_records_32 ?_
          replace h := h.2
          refine v_iast o (wfModel_t2 ha) (wfModel_n2 ha) h.1 dX8_records_33 ?_
          replace h := h.2
          refine v_nmf (fun g33 eg33 => ?_)
          replace h := h g33 eg33
          obtain ⟨x1_34, ex1_34⟩ : ∃ y : Int32, y = x1 + 1 := ⟨_, rfl⟩
          replace h := h x1_34 ex1_34
          refine v_iinc o (v := x1_34) (lv' := [(1, .int x1_34), (0, .ref a)]) 1 dX8_records_34 rfl (by rw [ex1_34]; rfl) (by decide) rfl ?_
          refine v_goto o (tgt := 11) dX8_records_37 (by decide) ?_
          refine v_sub [1, 0] (lv2 := [(0, .ref a), (1, .int x1_34)]) rfl ?_
          exact ih.1 g33 x1_34  h.1 (by have := h.2; omega)
      · intro g x1 hI hm
        have h := h52 g x1 hI
        clear hI
        unfold bX8_records_52 at h
        refine v_iload_n o 1 dX8_records_52 rfl ?_
        refine v_sipush o (v := 160) dX8_records_53 (by decide) ?_
        refine v_icmp_ge o (tgt := 86) dX8_records_56 (by decide) (fun c56 => ?_) (fun c56 => ?_)
        · replace h := h.1 c56
          refine v_aload_n o 0 dX8_records_86 rfl ?_
          refine v_dup o dX8_records_87 rfl ?_
          refine v_gfI o lkX8_48 (by decide) (wfModel_o ha) dX8_records_88 ?_
          refine v_iconst o (v := 1) dX8_records_91 (by decide) ?_
          refine v_iadd o dX8_records_92 ?_
          refine v_pf o lpX8_48 (wfModel_o ha) ⟨rfl, rfl⟩ dX8_records_93 ?_
          refine v_nmf (fun g93 eg93 => ?_)
          replace h := h g93 eg93
          exact v_vret o rfl hr dX8_records_96 h
        · replace h := h.2 c56
          refine v_aload_n o 0 dX8_records_59 rfl ?_
          refine v_gfR o lkX8_13 (by decide) (wfModel_o ha) (wfModel_r2 ha) dX8_records_60 ?_
          refine v_sipush o (v := 160) dX8_records_63 (by decide) ?_
          refine v_aload_n o 0 dX8_records_66 rfl ?_
          refine v_gfI o lkX8_48 (by decide) (wfModel_o ha) dX8_records_67 ?_
          refine v_imul o dX8_records_70 ?_
          refine v_iload_n o 1 dX8_records_71 rfl ?_
          refine v_iadd o dX8_records_72 ?_
          refine v_aload_n o 0 dX8_records_73 rfl ?_
          refine v_gfR o lkX8_7 (by decide) (wfModel_o ha) (wfModel_r1 ha) dX8_records_74 ?_
          refine v_iload_n o 1 dX8_records_77 rfl ?_
          refine v_iald o (wfModel_t1 ha) (wfModel_n1 ha) h.1 dX8_records_78 ?_
          replace h := h.2
          refine v_iast o (wfModel_t2 ha) (wfModel_n2 ha) h.1 dX8_records_79 ?_
          replace h := h.2
          refine v_nmf (fun g79 eg79 => ?_)
          replace h := h g79 eg79
          obtain ⟨x1_80, ex1_80⟩ : ∃ y : Int32, y = x1 + 1 := ⟨_, rfl⟩
          replace h := h x1_80 ex1_80
          refine v_iinc o (v := x1_80) (lv' := [(1, .int x1_80), (0, .ref a)]) 1 dX8_records_80 rfl (by rw [ex1_80]; rfl) (by decide) rfl ?_
          refine v_goto o (tgt := 52) dX8_records_83 (by decide) ?_
          refine v_sub [1, 0] (lv2 := [(0, .ref a), (1, .int x1_80)]) rfl ?_
          exact ih.2 g79 x1_80  h.1 (by have := h.2; omega)
  have J50 : ∀ (g50 : St), jX8_records_50 P a I11 I52 K  g50 → V p l e rmX8_records s m args below meth c 2 G (frA P sz) (MQ below (QcV G P sz K) args s 0 0 (frA P sz)) 0 0 P [(0, .ref a)] [] 50 g50 := by
    intro  g50  h
    unfold jX8_records_50 at h
    refine v_iconst o (v := 0) dX8_records_50 (by decide) ?_
    refine v_istore_n o (lv' := [(1, .int 0), (0, .ref a)]) dX8_records_51 rfl (by decide) rfl ?_
    refine v_sub [1, 0] (lv2 := [(0, .ref a), (1, .int 0)]) rfl ?_
    exact (main (μ52 g50 0 + 1)).2 g50 0  h (Nat.lt_succ_self _)
  unfold vX8_records at h
  refine v_aload_n o 0 dX8_records_0 rfl ?_
  refine v_gfI o lkX8_48 (by decide) (wfModel_o ha) dX8_records_1 ?_
  refine v_bipush o (v := 6) dX8_records_4 (by decide) ?_
  refine v_icmp_ne o (tgt := 50) dX8_records_6 (by decide) (fun c6 => ?_) (fun c6 => ?_)
  · replace h := h.1 c6
    refine v_sub [0] (lv2 := [(0, .ref a)]) rfl ?_
    exact J50  f  h
  · replace h := h.2 c6
    refine v_iconst o (v := 0) dX8_records_9 (by decide) ?_
    refine v_istore_n o (lv' := [(1, .int 0), (0, .ref a)]) dX8_records_10 rfl (by decide) rfl ?_
    refine v_sub [1, 0] (lv2 := [(0, .ref a), (1, .int 0)]) rfl ?_
    exact (main (μ11 f 0 + 1)).1 f 0  h (Nat.lt_succ_self _)
def WX8_records (P : Sk) (f : St) (a : Nat) (K : St → Prop) : Prop := ∃ (I11 : St → Int32 → Prop) (I52 : St → Int32 → Prop) (μ11 : St → Int32 → Nat) (μ52 : St → Int32 → Nat), (vX8_records P f a I11 I52 K) ∧ (∀ (g : St) (x1 : Int32) , I11 g x1 → bX8_records_11 P a (fun g' z0 => I11 g' z0 ∧ μ11 g' z0 < μ11 g x1) (fun g' z0 => I52 g' z0 ∧ μ52 g' z0 < μ11 g x1) K g x1) ∧ (∀ (g : St) (x1 : Int32) , I52 g x1 → bX8_records_52 P a (fun g' z0 => I11 g' z0 ∧ μ11 g' z0 < μ52 g x1) (fun g' z0 => I52 g' z0 ∧ μ52 g' z0 < μ52 g x1) K g x1)
theorem StM.cp {f g : St} {q o q2 o2 : Nat} {bd : Bd} (h : StM f q o bd) (hb : Bok bd) (e : ∀ j, j < 160 → g q2 (o2 + j) = f q (o + j)) : StM g q2 o2 bd := by
  have h6 := hb.1
  refine ⟨(e 0 (by decide)).trans h.1, (e 1 (by decide)).trans h.2.1, (e 2 (by decide)).trans h.2.2.1, (e 3 (by decide)).trans h.2.2.2.1, fun i hi => ?_⟩
  obtain ⟨k1, k2, k3⟩ := h.2.2.2.2 i hi
  have hl := (hb.at hi).1.2.2.1
  refine ⟨?_, ?_, fun j hj => ?_⟩
  · rw [show o2 + 4 + 26 * i = o2 + (4 + 26 * i) by omega, e _ (by omega), ← Nat.add_assoc]
    exact k1
  · rw [show o2 + 4 + 26 * i + 1 = o2 + (4 + 26 * i + 1) by omega, e _ (by omega), show o + (4 + 26 * i + 1) = o + 4 + 26 * i + 1 by omega]
    exact k2
  · rw [show o2 + 4 + 26 * i + 2 + j = o2 + (4 + 26 * i + 2 + j) by omega, e _ (by omega), show o + (4 + 26 * i + 2 + j) = o + 4 + 26 * i + 2 + j by omega]
    exact k3 j hj
theorem HiM.cp {f g : St} {a : Nat} {hs : List Bd} (h : HiM f a hs) (hk : Hok hs) (e3 : g a 3 = f a 3) (e : ∀ j, j < 160 * hs.length → g (a + 2) j = f (a + 2) j) : HiM g a hs := ⟨by rw [e3]; exact h.1, fun i hi => (h.2 i hi).cp (hk.2 _ (bd_mem hi)) (fun j hj => e _ (by omega))⟩
def kX8_records (P : Sk) (f : St) (a : Nat) (K : St → Prop) : Prop := ∃ hs bd, HiM f a hs ∧ Hok hs ∧ StM f (a + 1) 0 bd ∧ Bok bd ∧ ∀ g, MF f g a (fun i => i = 2) (fun j => j = 3) → HiM g a (svH hs bd) → K g
theorem wX8_records (P : Sk) (f : St) (a : Nat) (ha : IsModel P a) (K : St → Prop) (h : kX8_records P f a K) : WX8_records P f a K := by
  obtain ⟨hs, bd, hH, hk, hS, hb, hK⟩ := h
  have h6 := hk.1
  refine ⟨fun g x => ∃ k, x = nI k ∧ k ≤ 800 ∧ hs.length = 6 ∧ MF f g a (fun i => i = 2) (fun _ => False) ∧ (∀ j, j < k → g (a + 2) j = f (a + 2) (j + 160)) ∧ ∀ j, k ≤ j → g (a + 2) j = f (a + 2) j,
    fun g x => ∃ k hs', x = nI k ∧ k ≤ 160 ∧ hs'.length ≤ 5 ∧ Hok hs' ∧ svH hs bd = hs' ++ [bd] ∧ MF f g a (fun i => i = 2) (fun j => j = 3) ∧ HiM g a hs' ∧ ∀ j, j < k → g (a + 2) (160 * hs'.length + j) = f (a + 1) j,
    fun g x => 1000 + (800 - x.toNatClampNeg), fun g x => 160 - x.toNatClampNeg, ?_, ?_, ?_⟩
  · unfold vX8_records
    rw [hH.1, show (6 : Int32) = nI 6 from rfl, nI_eq (by omega) (by omega)]
    refine ⟨fun q => ?_, fun q => ?_⟩
    · refine ⟨0, hs, rfl, by decide, by omega, hk, ?_, MF.refl _ _ _ _, hH, fun j hj => absurd hj (Nat.not_lt_zero _)⟩
      unfold svH
      rw [if_pos (by omega)]
    · exact ⟨0, rfl, by decide, q, MF.refl _ _ _ _, fun j hj => absurd hj (Nat.not_lt_zero _), fun _ _ => rfl⟩
  · rintro g x ⟨k, rfl, hk8, hl6, hfr, hA, hB⟩
    unfold bX8_records_11
    rw [show (800 : Int32) = nI 800 from rfl, show (160 : Int32) = nI 160 from rfl, nI_leI (by omega) (by omega), nI_add, nI_clamp (by omega), nI_clamp (by omega)]
    refine ⟨fun q => ?_, fun q => ?_⟩
    · intro g2 e2
      have h3 : g a 3 = nI hs.length := by rw [hfr.2 3 id]; exact hH.1
      have r2 : g2 (a + 2) = g (a + 2) := by rw [e2, setf_row (by omega)]
      have ht : hs.tail.length = 5 := by rw [List.length_tail]; omega
      refine ⟨⟨0, hs.tail, rfl, by decide, by omega, ⟨by omega, fun b hbm => hk.2 b (List.mem_of_mem_tail hbm)⟩, ?_, ?_, ⟨?_, fun i hi => ?_⟩, fun j hj => absurd hj (Nat.not_lt_zero _)⟩, ?_⟩
      · unfold svH
        rw [if_neg (by omega)]
      · rw [e2]
        exact (hfr.mono (fun _ h => h) (fun _ h => absurd h id)).trans (mf_fld _ rfl)
      · rw [e2, setf_same, h3, ht, hl6]
        rfl
      · rw [bd_tail]
        refine (hH.2 (i + 1) (by omega)).cp (hk.2 _ (bd_mem (by omega))) (fun j hj => ?_)
        rw [r2, hA _ (by omega)]
        congr 1
        omega
      · show 160 - (nI 0).toNatClampNeg < 1000 + (800 - (nI k).toNatClampNeg)
        omega
    · refine ⟨vp_nI (by omega) (by decide), vp_nI (by omega) (by decide), fun g2 e2 y e => ?_⟩
      rw [nI_1] at e
      refine ⟨⟨k + 1, e, by omega, hl6, ?_, fun j hj => ?_, fun j hj => ?_⟩, ?_⟩
      · rw [e2]
        exact hfr.trans (mf_arr g rfl (by decide))
      · rw [e2]
        by_cases c : j = k
        · rw [c, setf_same]
          exact hB _ (by omega)
        · rw [setf_off (Or.inr c)]
          exact hA j (by omega)
      · rw [e2, setf_off (Or.inr (by omega))]
        exact hB j (by omega)
      · have := mu_up (N := 800) e (by omega) (by omega)
        show 1000 + (800 - y.toNatClampNeg) < 1000 + (800 - (nI k).toNatClampNeg)
        omega
  · rintro g x ⟨k, hs', rfl, hk1, hl5, hk2, hsv, hfr, hH2, hA⟩
    unfold bX8_records_52
    rw [hH2.1, show (160 : Int32) = nI 160 from rfl, nI_leI (by omega) (by omega), nI_mul, nI_add, nI_clamp (by omega), nI_clamp (by omega), hfr.1 (a + 1) (by omega) (fun i hi => by omega)]
    refine ⟨fun q => ?_, fun q => ?_⟩
    · intro g2 e2
      rw [nI_1] at e2
      refine hK g2 ?_ ?_
      · rw [e2]
        exact hfr.trans (mf_fld _ rfl)
      · have r2 : g2 (a + 2) = g (a + 2) := by rw [e2, setf_row (by omega)]
        rw [hsv]
        refine ⟨by rw [e2, setf_same, List.length_append]; rfl, fun i hi => ?_⟩
        rw [List.length_append] at hi
        have hi2 : i < hs'.length + 1 := hi
        by_cases c : i = hs'.length
        · rw [c, bd_app2]
          refine hS.cp hb (fun j hj => ?_)
          rw [r2, hA j (by omega), Nat.zero_add]
        · rw [bd_app1 _ _ (by omega)]
          exact (hH2.2 i (by omega)).row r2
    · refine ⟨vp_nI (by omega) (by decide), vp_nI (by omega) (by decide), fun g2 e2 y e => ?_⟩
      rw [nI_1] at e
      refine ⟨⟨k + 1, hs', e, by omega, hl5, hk2, hsv, ?_, ?_, fun j hj => ?_⟩, mu_up e (by omega) (by omega)⟩
      · rw [e2]
        exact hfr.trans (mf_arr g rfl (by decide))
      · refine hH2.cp hk2 ?_ (fun j hj => ?_)
        · rw [e2, setf_off (Or.inl (by omega))]
        · rw [e2, setf_off (Or.inr (by omega))]
      · rw [e2]
        by_cases c : j = k
        · rw [c, setf_same]
        · rw [setf_off (Or.inr (by omega))]
          exact hA j (by omega)

theorem metX8_records (l : Launch) (G : Gl) (P : Sk) (f : St) (sz : Nat) (a : Nat) (ha : IsModel P a) (K : St → Prop) (h : kX8_records P f a K) : Met l yX8_records (wU yX8_records cX8_records 2 none) rmX8_records (PcW G P f sz [.ref a]) (QcV G P sz K) 0 0 (frA P sz) := by
  obtain ⟨I11, I52, μ11, μ52, qh, qh11, qh52⟩ := wX8_records P f a ha K h
  exact mX8_records l G P f sz a ha K I11 μ11 I52 μ52 qh qh11 qh52

def jX8_isLikeOther_51 (P : Sk) (a : Nat) (L19 : St → Int32 → Int32 → Prop) (K : Int32 → St → Prop) (x1 : Int32) (x2 : Int32) (y0 : Int32) (f : St) : Prop :=
  ∀ x2_52 : Int32, x2_52 = x2 + 1 → L19 f y0 x2_52
def jX8_isLikeOther_16 (P : Sk) (a : Nat) (L19 : St → Int32 → Int32 → Prop) (K : Int32 → St → Prop) (y0 : Int32) (f : St) : Prop :=
  L19 f y0 0
def bX8_isLikeOther_19 (P : Sk) (a : Nat) (L19 : St → Int32 → Int32 → Prop) (K : Int32 → St → Prop) (f : St) (x1 : Int32) (x2 : Int32) : Prop :=
  (f a 9 ≤ x2 → (x1 = 0 ∨ x1 = 1) ∧ K x1 f) ∧ (¬ f a 9 ≤ x2 → (x1 = 0 → (x1 = 0 ∨ x1 = 1) ∧ K x1 f) ∧ (¬ x1 = 0 → vp_in x2 50 ∧ (vp_in x2 50 ∧ ((¬ f (a + 5) x2.toNatClampNeg = f (a + 9) x2.toNatClampNeg → jX8_isLikeOther_51 P a L19 K x1 x2 0 f) ∧ (f (a + 5) x2.toNatClampNeg = f (a + 9) x2.toNatClampNeg → jX8_isLikeOther_51 P a L19 K x1 x2 1 f)))))
def vX8_isLikeOther (P : Sk) (f : St) (a : Nat) (L19 : St → Int32 → Int32 → Prop) (K : Int32 → St → Prop) : Prop :=
  (¬ f a 9 = f a 17 → jX8_isLikeOther_16 P a L19 K 0 f) ∧ (f a 9 = f a 17 → jX8_isLikeOther_16 P a L19 K 1 f)
set_option maxRecDepth 20000 in
set_option maxHeartbeats 4000000 in
theorem mX8_isLikeOther (l : Launch) (G : Gl) (P : Sk) (f : St) (sz : Nat) (a : Nat) (ha : IsModel P a) (K : Int32 → St → Prop) (I19 : St → Int32 → Int32 → Prop) (μ19 : St → Int32 → Int32 → Nat) 
  (h : vX8_isLikeOther P f a I19 K)
  (h19 : ∀ (g : St) (x1 : Int32) (x2 : Int32) , I19 g x1 x2 → bX8_isLikeOther_19 P a (fun g' z0 z1 => I19 g' z0 z1 ∧ μ19 g' z0 z1 < μ19 g x1 x2) K g x1 x2) :
  Met l yX8_isLikeOther (wU yX8_isLikeOther cX8_isLikeOther 3 (some .boolean)) rmX8_isLikeOther (PcW G P f sz [.ref a]) (QcI G P sz K) 0 0 (frA P sz) := by
  refine v_met (own := RX8) [.ref a] (by decide +kernel) rfl (Nat.le_of_ble_eq_true rfl) (fun p e s m args below meth c hsz o hr hnm => ?_)
  refine v_lv (lv2 := [(0, .ref a)]) rfl ?_
  have main : ∀ n : Nat, (∀ (g : St) (x1 : Int32) (x2 : Int32) , I19 g x1 x2 → μ19 g x1 x2 < n → V p l e rmX8_isLikeOther s m args below meth c 3 G (frA P sz) (MQ below (QcI G P sz K) args s 0 0 (frA P sz)) 0 0 P [(0, .ref a), (1, .int x1), (2, .int x2)] [] 19 g) := by
    intro n
    induction n with
    | zero => exact fun g x1 x2 hI hm => absurd hm (Nat.not_lt_zero _)
    | succ n ih =>
      intro g x1 x2 hI hm
      have h := h19 g x1 x2 hI
      clear hI
      have J51 : ∀ (x1_51 : Int32) (x2_51 : Int32) (y0_51 : Int32) (g51 : St), jX8_isLikeOther_51 P a (fun g' z0 z1 => I19 g' z0 z1 ∧ μ19 g' z0 z1 < μ19 g x1 x2) K x1_51 x2_51 y0_51 g51 → V p l e rmX8_isLikeOther s m args below meth c 3 G (frA P sz) (MQ below (QcI G P sz K) args s 0 0 (frA P sz)) 0 0 P [(0, .ref a), (1, .int x1_51), (2, .int x2_51)] [.int y0_51] 51 g51 := by
        intro x1_51 x2_51 y0_51 g51  h
        unfold jX8_isLikeOther_51 at h
        refine v_istore_n o (lv' := [(1, .int y0_51), (0, .ref a), (2, .int x2_51)]) dX8_isLikeOther_51 rfl (by decide) rfl ?_
        obtain ⟨x2_52, ex2_52⟩ : ∃ y : Int32, y = x2_51 + 1 := ⟨_, rfl⟩
        replace h := h x2_52 ex2_52
        refine v_iinc o (v := x2_52) (lv' := [(2, .int x2_52), (1, .int y0_51), (0, .ref a)]) 2 dX8_isLikeOther_52 rfl (by rw [ex2_52]; rfl) (by decide) rfl ?_
        refine v_goto o (tgt := 19) dX8_isLikeOther_55 (by decide) ?_
        refine v_sub [2, 1, 0] (lv2 := [(0, .ref a), (1, .int y0_51), (2, .int x2_52)]) rfl ?_
        exact ih g51 y0_51 x2_52  h.1 (by have := h.2; omega)
      unfold bX8_isLikeOther_19 at h
      refine v_iload_n o 2 dX8_isLikeOther_19 rfl ?_
      refine v_aload_n o 0 dX8_isLikeOther_20 rfl ?_
      refine v_gfI o lkX8_58 (by decide) (wfModel_o ha) dX8_isLikeOther_21 ?_
      refine v_icmp_ge o (tgt := 58) dX8_isLikeOther_24 (by decide) (fun c24 => ?_) (fun c24 => ?_)
      · replace h := h.1 c24
        refine v_iload_n o 1 dX8_isLikeOther_58 rfl ?_
        exact v_zret o rfl hr (bzz h.1).1 dX8_isLikeOther_59 h.2
      · replace h := h.2 c24
        refine v_iload_n o 1 dX8_isLikeOther_27 rfl ?_
        refine v_if_eq o (tgt := 58) dX8_isLikeOther_28 (by decide) (fun c28 => ?_) (fun c28 => ?_)
        · replace h := h.1 c28
          refine v_iload_n o 1 dX8_isLikeOther_58 rfl ?_
          exact v_zret o rfl hr (bzz h.1).1 dX8_isLikeOther_59 h.2
        · replace h := h.2 c28
          refine v_aload_n o 0 dX8_isLikeOther_31 rfl ?_
          refine v_gfR o lkX8_22 (by decide) (wfModel_o ha) (wfModel_r8 ha) dX8_isLikeOther_32 ?_
          refine v_iload_n o 2 dX8_isLikeOther_35 rfl ?_
          refine v_iald o (wfModel_t8 ha) (wfModel_n8 ha) h.1 dX8_isLikeOther_36 ?_
          replace h := h.2
          refine v_aload_n o 0 dX8_isLikeOther_37 rfl ?_
          refine v_gfR o lkX8_34 (by decide) (wfModel_o ha) (wfModel_r16 ha) dX8_isLikeOther_38 ?_
          refine v_iload_n o 2 dX8_isLikeOther_41 rfl ?_
          refine v_iald o (wfModel_t16 ha) (wfModel_n16 ha) h.1 dX8_isLikeOther_42 ?_
          replace h := h.2
          refine v_icmp_ne o (tgt := 50) dX8_isLikeOther_43 (by decide) (fun c43 => ?_) (fun c43 => ?_)
          · replace h := h.1 c43
            refine v_iconst o (v := 0) dX8_isLikeOther_50 (by decide) ?_
            refine v_sub [0, 1, 2] (lv2 := [(0, .ref a), (1, .int x1), (2, .int x2)]) rfl ?_
            exact J51 x1 x2 0 g  h
          · replace h := h.2 c43
            refine v_iconst o (v := 1) dX8_isLikeOther_46 (by decide) ?_
            refine v_goto o (tgt := 51) dX8_isLikeOther_47 (by decide) ?_
            refine v_sub [0, 1, 2] (lv2 := [(0, .ref a), (1, .int x1), (2, .int x2)]) rfl ?_
            exact J51 x1 x2 1 g  h
  have J16 : ∀ (y0_16 : Int32) (g16 : St), jX8_isLikeOther_16 P a I19 K y0_16 g16 → V p l e rmX8_isLikeOther s m args below meth c 3 G (frA P sz) (MQ below (QcI G P sz K) args s 0 0 (frA P sz)) 0 0 P [(0, .ref a)] [.int y0_16] 16 g16 := by
    intro y0_16 g16  h
    unfold jX8_isLikeOther_16 at h
    refine v_istore_n o (lv' := [(1, .int y0_16), (0, .ref a)]) dX8_isLikeOther_16 rfl (by decide) rfl ?_
    refine v_iconst o (v := 0) dX8_isLikeOther_17 (by decide) ?_
    refine v_istore_n o (lv' := [(2, .int 0), (1, .int y0_16), (0, .ref a)]) dX8_isLikeOther_18 rfl (by decide) rfl ?_
    refine v_sub [2, 1, 0] (lv2 := [(0, .ref a), (1, .int y0_16), (2, .int 0)]) rfl ?_
    exact (main (μ19 g16 y0_16 0 + 1)) g16 y0_16 0  h (Nat.lt_succ_self _)
  unfold vX8_isLikeOther at h
  refine v_aload_n o 0 dX8_isLikeOther_0 rfl ?_
  refine v_gfI o lkX8_58 (by decide) (wfModel_o ha) dX8_isLikeOther_1 ?_
  refine v_aload_n o 0 dX8_isLikeOther_4 rfl ?_
  refine v_gfI o lkX8_92 (by decide) (wfModel_o ha) dX8_isLikeOther_5 ?_
  refine v_icmp_ne o (tgt := 15) dX8_isLikeOther_8 (by decide) (fun c8 => ?_) (fun c8 => ?_)
  · replace h := h.1 c8
    refine v_iconst o (v := 0) dX8_isLikeOther_15 (by decide) ?_
    refine v_sub [0] (lv2 := [(0, .ref a)]) rfl ?_
    exact J16 0 f  h
  · replace h := h.2 c8
    refine v_iconst o (v := 1) dX8_isLikeOther_11 (by decide) ?_
    refine v_goto o (tgt := 16) dX8_isLikeOther_12 (by decide) ?_
    refine v_sub [0] (lv2 := [(0, .ref a)]) rfl ?_
    exact J16 1 f  h
def WX8_isLikeOther (P : Sk) (f : St) (a : Nat) (K : Int32 → St → Prop) : Prop := ∃ (I19 : St → Int32 → Int32 → Prop) (μ19 : St → Int32 → Int32 → Nat), (vX8_isLikeOther P f a I19 K) ∧ (∀ (g : St) (x1 : Int32) (x2 : Int32) , I19 g x1 x2 → bX8_isLikeOther_19 P a (fun g' z0 z1 => I19 g' z0 z1 ∧ μ19 g' z0 z1 < μ19 g x1 x2) K g x1 x2)
def kX8_isLikeOther (P : Sk) (f : St) (a : Nat) (K : Int32 → St → Prop) : Prop := ∃ w o, MW f a w ∧ Cok w ∧ MO f a o ∧ Cok o ∧ (w = o → K 1 f) ∧ (w ≠ o → K 0 f)
theorem wX8_isLikeOther (P : Sk) (f : St) (a : Nat) (ha : IsModel P a) (K : Int32 → St → Prop) (h : kX8_isLikeOther P f a K) : WX8_isLikeOther P f a K := by
  obtain ⟨w, o, hw, hc, ho, hd, hK1, hK0⟩ := h
  have hl := hc.1
  have hm := hd.1
  refine ⟨fun g x1 x2 => ∃ k, x2 = nI k ∧ g = f ∧ k ≤ w.length ∧ ((x1 = 1 ∧ w.length = o.length ∧ ∀ j, j < k → w.getD j 0 = o.getD j 0) ∨ (x1 = 0 ∧ w ≠ o)), fun g x1 x2 => w.length - x2.toNatClampNeg, ?_, ?_⟩
  · unfold vX8_isLikeOther jX8_isLikeOther_16
    rw [hw.1, ho.1, nI_eq (by omega) (by omega)]
    exact ⟨fun q => ⟨0, rfl, rfl, Nat.zero_le _, Or.inr ⟨rfl, fun e => q (by rw [e])⟩⟩, fun q => ⟨0, rfl, rfl, Nat.zero_le _, Or.inl ⟨rfl, q, fun j hj => absurd hj (Nat.not_lt_zero _)⟩⟩⟩
  · rintro g x1 x2 ⟨k, rfl, rfl, hk, hx⟩
    unfold bX8_isLikeOther_19 jX8_isLikeOther_51
    rw [hw.1, nI_leI (by omega) (by omega)]
    refine ⟨fun q => ?_, fun q => ⟨fun q2 => ?_, fun q2 => ?_⟩⟩
    · rcases hx with ⟨rfl, e, hA⟩ | ⟨rfl, hne⟩
      · exact ⟨Or.inr rfl, hK1 (getD_ext _ _ e (fun i hi => hA i (by omega)))⟩
      · exact ⟨Or.inl rfl, hK0 hne⟩
    · rcases hx with ⟨rfl, e, hA⟩ | ⟨rfl, hne⟩
      · exact absurd q2 (by decide)
      · exact ⟨Or.inl rfl, hK0 hne⟩
    · rcases hx with ⟨rfl, e, hA⟩ | ⟨rfl, hne⟩
      · have i1 : vp_in (nI k) 50 := vp_nI (by omega) (by decide)
        have c1 := hc.at (i := k) (by omega)
        have c2 := hd.at (i := k) (by omega)
        rw [nI_clamp (by omega), hw.2 k (by omega), ho.2 k (by omega), nI_eq (by omega) (by omega), nI_1]
        refine ⟨i1, i1, fun q3 y ey => ⟨⟨k + 1, ey, rfl, by omega, Or.inr ⟨rfl, fun e => q3 (by rw [e])⟩⟩, mu_up ey (by omega) (by omega)⟩, fun q3 y ey => ⟨⟨k + 1, ey, rfl, by omega, Or.inl ⟨rfl, e, fun j hj => ?_⟩⟩, mu_up ey (by omega) (by omega)⟩⟩
        by_cases c : j = k
        · rw [c]
          exact q3
        · exact hA j (by omega)
      · exact absurd rfl q2

theorem metX8_isLikeOther (l : Launch) (G : Gl) (P : Sk) (f : St) (sz : Nat) (a : Nat) (ha : IsModel P a) (K : Int32 → St → Prop) (h : kX8_isLikeOther P f a K) : Met l yX8_isLikeOther (wU yX8_isLikeOther cX8_isLikeOther 3 (some .boolean)) rmX8_isLikeOther (PcW G P f sz [.ref a]) (QcI G P sz K) 0 0 (frA P sz) := by
  obtain ⟨I19, μ19, qh, qh19⟩ := wX8_isLikeOther P f a ha K h
  exact mX8_isLikeOther l G P f sz a ha K I19 μ19 qh qh19

def jX8_changes_26 (P : Sk) (a : Nat) (p1 : Int32) (K : St → Prop) (f : St) : Prop :=
  (¬ p1 = 3 → K f) ∧ (p1 = 3 → kX8_loosens P f a (fun g32 => K g32))
def jX8_changes_17 (P : Sk) (a : Nat) (p1 : Int32) (K : St → Prop) (f : St) : Prop :=
  (¬ p1 = 2 → jX8_changes_26 P a p1 K  f) ∧ (p1 = 2 → kX8_reverses P f a (fun g23 => jX8_changes_26 P a p1 K  g23))
def jX8_changes_8 (P : Sk) (a : Nat) (p1 : Int32) (K : St → Prop) (f : St) : Prop :=
  (¬ p1 = 1 → jX8_changes_17 P a p1 K  f) ∧ (p1 = 1 → kX8_turns P f a (fun g14 => jX8_changes_17 P a p1 K  g14))
def vX8_changes (P : Sk) (f : St) (a : Nat) (p1 : Int32) (K : St → Prop) : Prop :=
  (¬ p1 = 0 → jX8_changes_8 P a p1 K  f) ∧ (p1 = 0 → kX8_mirrors P f a (fun g5 => jX8_changes_8 P a p1 K  g5))
set_option maxRecDepth 20000 in
set_option maxHeartbeats 4000000 in
theorem mX8_changes (l : Launch) (G : Gl) (P : Sk) (f : St) (sz : Nat) (a : Nat) (ha : IsModel P a) (p1 : Int32) (K : St → Prop) (h : vX8_changes P f a p1 K)  :
  Met l yX8_changes (wU yX8_changes cX8_changes 2 none) rmX8_changes (PcW G P f sz [.ref a, .int p1]) (QcV G P sz K) 0 0 (frA P sz) := by
  refine v_met (own := RX8) [.ref a, .int p1] (by decide +kernel) rfl (Nat.le_of_ble_eq_true rfl) (fun p e s m args below meth c hsz o hr hnm => ?_)
  refine v_lv (lv2 := [(0, .ref a), (1, .int p1)]) rfl ?_
  have J26 : ∀ (g26 : St), jX8_changes_26 P a p1 K  g26 → V p l e rmX8_changes s m args below meth c 2 G (frA P sz) (MQ below (QcV G P sz K) args s 0 0 (frA P sz)) 0 0 P [(0, .ref a), (1, .int p1)] [] 26 g26 := by
    intro  g26  h
    unfold jX8_changes_26 at h
    refine v_iload_n o 1 dX8_changes_26 rfl ?_
    refine v_iconst o (v := 3) dX8_changes_27 (by decide) ?_
    refine v_icmp_ne o (tgt := 35) dX8_changes_28 (by decide) (fun c28 => ?_) (fun c28 => ?_)
    · replace h := h.1 c28
      exact v_vret o rfl hr dX8_changes_35 h
    · replace h := h.2 c28
      refine v_aload_n o 0 dX8_changes_31 rfl ?_
      refine v_cVv o [] [] (fun sz => metX8_loosens l G P g26 sz a ha _ h) (cwX8_101 o.1.2.2.2.2 (by decide)) ⟨_, _, rfl⟩ (by decide) (wfModel_o ha) rfl (Nat.le_of_ble_eq_true rfl) ⟨Nat.le_of_ble_eq_true rfl, Nat.le_of_ble_eq_true rfl⟩ dX8_changes_32 rfl (fun g32 h => ?_)
      exact v_vret o rfl hr dX8_changes_35 h
  have J17 : ∀ (g17 : St), jX8_changes_17 P a p1 K  g17 → V p l e rmX8_changes s m args below meth c 2 G (frA P sz) (MQ below (QcV G P sz K) args s 0 0 (frA P sz)) 0 0 P [(0, .ref a), (1, .int p1)] [] 17 g17 := by
    intro  g17  h
    unfold jX8_changes_17 at h
    refine v_iload_n o 1 dX8_changes_17 rfl ?_
    refine v_iconst o (v := 2) dX8_changes_18 (by decide) ?_
    refine v_icmp_ne o (tgt := 26) dX8_changes_19 (by decide) (fun c19 => ?_) (fun c19 => ?_)
    · replace h := h.1 c19
      refine v_sub [0, 1] (lv2 := [(0, .ref a), (1, .int p1)]) rfl ?_
      exact J26  g17  h
    · replace h := h.2 c19
      refine v_aload_n o 0 dX8_changes_22 rfl ?_
      refine v_cVv o [] [] (fun sz => metX8_reverses l G P g17 sz a ha _ h) (cwX8_98 o.1.2.2.2.2 (by decide)) ⟨_, _, rfl⟩ (by decide) (wfModel_o ha) rfl (Nat.le_of_ble_eq_true rfl) ⟨Nat.le_of_ble_eq_true rfl, Nat.le_of_ble_eq_true rfl⟩ dX8_changes_23 rfl (fun g23 h => ?_)
      refine v_sub [0, 1] (lv2 := [(0, .ref a), (1, .int p1)]) rfl ?_
      exact J26  g23  h
  have J8 : ∀ (g8 : St), jX8_changes_8 P a p1 K  g8 → V p l e rmX8_changes s m args below meth c 2 G (frA P sz) (MQ below (QcV G P sz K) args s 0 0 (frA P sz)) 0 0 P [(0, .ref a), (1, .int p1)] [] 8 g8 := by
    intro  g8  h
    unfold jX8_changes_8 at h
    refine v_iload_n o 1 dX8_changes_8 rfl ?_
    refine v_iconst o (v := 1) dX8_changes_9 (by decide) ?_
    refine v_icmp_ne o (tgt := 17) dX8_changes_10 (by decide) (fun c10 => ?_) (fun c10 => ?_)
    · replace h := h.1 c10
      refine v_sub [0, 1] (lv2 := [(0, .ref a), (1, .int p1)]) rfl ?_
      exact J17  g8  h
    · replace h := h.2 c10
      refine v_aload_n o 0 dX8_changes_13 rfl ?_
      refine v_cVv o [] [] (fun sz => metX8_turns l G P g8 sz a ha _ h) (cwX8_95 o.1.2.2.2.2 (by decide)) ⟨_, _, rfl⟩ (by decide) (wfModel_o ha) rfl (Nat.le_of_ble_eq_true rfl) ⟨Nat.le_of_ble_eq_true rfl, Nat.le_of_ble_eq_true rfl⟩ dX8_changes_14 rfl (fun g14 h => ?_)
      refine v_sub [0, 1] (lv2 := [(0, .ref a), (1, .int p1)]) rfl ?_
      exact J17  g14  h
  unfold vX8_changes at h
  refine v_iload_n o 1 dX8_changes_0 rfl ?_
  refine v_if_ne o (tgt := 8) dX8_changes_1 (by decide) (fun c1 => ?_) (fun c1 => ?_)
  · replace h := h.1 c1
    refine v_sub [0, 1] (lv2 := [(0, .ref a), (1, .int p1)]) rfl ?_
    exact J8  f  h
  · replace h := h.2 c1
    refine v_aload_n o 0 dX8_changes_4 rfl ?_
    refine v_cVv o [] [] (fun sz => metX8_mirrors l G P f sz a ha _ h) (cwX8_65 o.1.2.2.2.2 (by decide)) ⟨_, _, rfl⟩ (by decide) (wfModel_o ha) rfl (Nat.le_of_ble_eq_true rfl) ⟨Nat.le_of_ble_eq_true rfl, Nat.le_of_ble_eq_true rfl⟩ dX8_changes_5 rfl (fun g5 h => ?_)
    refine v_sub [0, 1] (lv2 := [(0, .ref a), (1, .int p1)]) rfl ?_
    exact J8  g5  h
abbrev kX8_changes := @vX8_changes
abbrev metX8_changes := @mX8_changes
theorem cok_of {n : Nat} {w : List Nat} (h : Wok n w) : Cok w := ⟨by have := h.2.2.1; omega, fun c hc => by
  have h1 := h.2.2.2 c hc
  have h2 := h.2.1
  omega⟩
theorem u8_changes {P : Sk} {f : St} {a n how : Nat} {w : List Nat} {K : St → Prop} (hw : MW f a w) (ho : Wok n w) (hn : f a 10 = nI n) (hh : how < 4) (hK : ∀ g, MF f g a (fun i => i = 5) (fun j => j = 9) → MW g a (chg n w how) → K g) : kX8_changes P f a (nI how) K := by
  show vX8_changes P f a (nI how) K
  unfold vX8_changes jX8_changes_8 jX8_changes_17 jX8_changes_26
  have hc := cok_of ho
  match how, hh with
  | 0, _ => exact ⟨fun q => absurd rfl q, fun _ => ⟨w, hw, hc, fun g r m => ⟨fun _ => ⟨fun _ => ⟨fun _ => hK g (r.mono (fun _ h => h) (fun _ h => absurd h id)) m, fun q => absurd q (by decide)⟩, fun q => absurd q (by decide)⟩, fun q => absurd q (by decide)⟩⟩⟩
  | 1, _ => exact ⟨fun _ => ⟨fun q => absurd rfl q, fun _ => ⟨n, w, hw, ho, hn, fun g r m => ⟨fun _ => ⟨fun _ => hK g (r.mono (fun _ h => h) (fun _ h => absurd h id)) m, fun q => absurd q (by decide)⟩, fun q => absurd q (by decide)⟩⟩⟩, fun q => absurd q (by decide)⟩
  | 2, _ => exact ⟨fun _ => ⟨fun _ => ⟨fun q => absurd rfl q, fun _ => ⟨w, hw, hc, fun g r m => ⟨fun _ => hK g (r.mono (fun _ h => h) (fun _ h => absurd h id)) m, fun q => absurd q (by decide)⟩⟩⟩, fun q => absurd q (by decide)⟩, fun q => absurd q (by decide)⟩
  | 3, _ => exact ⟨fun _ => ⟨fun _ => ⟨fun _ => ⟨fun q => absurd rfl q, fun _ => ⟨w, hw, hc, fun g r m => hK g r m⟩⟩, fun q => absurd q (by decide)⟩, fun q => absurd q (by decide)⟩, fun q => absurd q (by decide)⟩
theorem u8_changesM {P : Sk} {f : St} {a : Nat} {K : St → Prop} (hK : K f) : kX8_changes P f a (-1) K := by
  show vX8_changes P f a (-1) K
  unfold vX8_changes jX8_changes_8 jX8_changes_17 jX8_changes_26
  exact ⟨fun _ => ⟨fun _ => ⟨fun _ => ⟨fun _ => hK, fun q => absurd q (by decide)⟩, fun q => absurd q (by decide)⟩, fun q => absurd q (by decide)⟩, fun q => absurd q (by decide)⟩

def vX8_isLoaf (P : Sk) (f : St) (a : Nat) (p1 : Int32) (K : Int32 → St → Prop) : Prop :=
  vp_in 0 160 ∧ (kX8_in P f p1 0 ((f (a + 1) ((0 : Int32)).toNatClampNeg) - 1) (fun r10 g10 => (r10 = 0 ∨ r10 = 1) ∧ K r10 g10))
set_option maxRecDepth 20000 in
set_option maxHeartbeats 4000000 in
theorem mX8_isLoaf (l : Launch) (G : Gl) (P : Sk) (f : St) (sz : Nat) (a : Nat) (ha : IsModel P a) (p1 : Int32) (K : Int32 → St → Prop) (h : vX8_isLoaf P f a p1 K)  :
  Met l yX8_isLoaf (wU yX8_isLoaf cX8_isLoaf 2 (some .boolean)) rmX8_isLoaf (PcW G P f sz [.ref a, .int p1]) (QcI G P sz K) 0 0 (frA P sz) := by
  refine v_met (own := RX8) [.ref a, .int p1] (by decide +kernel) rfl (Nat.le_of_ble_eq_true rfl) (fun p e s m args below meth c hsz o hr hnm => ?_)
  refine v_lv (lv2 := [(0, .ref a), (1, .int p1)]) rfl ?_
  unfold vX8_isLoaf at h
  refine v_iload_n o 1 dX8_isLoaf_0 rfl ?_
  refine v_iconst o (v := 0) dX8_isLoaf_1 (by decide) ?_
  refine v_aload_n o 0 dX8_isLoaf_2 rfl ?_
  refine v_gfR o lkX8_7 (by decide) (wfModel_o ha) (wfModel_r1 ha) dX8_isLoaf_3 ?_
  refine v_iconst o (v := 0) dX8_isLoaf_6 (by decide) ?_
  refine v_iald o (wfModel_t1 ha) (wfModel_n1 ha) h.1 dX8_isLoaf_7 ?_
  replace h := h.2
  refine v_iconst o (v := 1) dX8_isLoaf_8 (by decide) ?_
  refine v_isub o dX8_isLoaf_9 ?_
  refine v_cSi o [.int p1, .int 0, .int ((f (a + 1) ((0 : Int32)).toNatClampNeg) - 1)] [] (fun sz => metX8_in l G P f sz p1 0 ((f (a + 1) ((0 : Int32)).toNatClampNeg) - 1) _ h) (cwX8_44 o.1.2.2.2.2 (by decide)) rfl (Nat.le_of_ble_eq_true rfl) ⟨Nat.le_of_ble_eq_true rfl, Nat.le_of_ble_eq_true rfl⟩ dX8_isLoaf_10 rfl (fun r10 g10 h => ?_)
  exact v_zret o rfl hr (bzz h.1).1 dX8_isLoaf_13 h.2
abbrev kX8_isLoaf := @vX8_isLoaf
abbrev metX8_isLoaf := @mX8_isLoaf
/-- scratch but for the reading has changed alone -/
def Sc9 (f g : St) (m : Nat) : Prop := MF f g m (fun i => 5 ≤ i ∧ i ≤ 9) (fun j => 9 ≤ j ∧ j ≤ 17)
theorem Sc9.scr {f g : St} {m : Nat} (r : Sc9 f g m) : Scr f g m := r.mono (fun i h => ⟨h.1, by omega⟩) (fun j h => ⟨h.1, by omega⟩)
theorem tn0 : (0 : Int32).toNatClampNeg = 0 := by decide
theorem tn1 : (1 : Int32).toNatClampNeg = 1 := by decide
theorem nn_m1 {p : Int32} (h : ¬ p < 0) : (-1 : Int32) < p := by
  rw [Int32.lt_iff_toInt_lt] at h ⊢
  have h0 : (0 : Int32).toInt = 0 := by decide
  have h1 : (-1 : Int32).toInt = -1 := by decide
  omega
theorem lt_iff1 {p : Int32} {n : Nat} (hn : n < 2 ^ 30) : (¬ p < 0 ∧ p.toNatClampNeg < n) ↔ (¬ p < 0 ∧ ¬ (nI n - 1 < p)) := by
  refine ⟨fun h => ⟨h.1, ?_⟩, fun h => ⟨h.1, ?_⟩⟩
  · obtain ⟨m, rfl⟩ : ∃ m, n = m + 1 := ⟨n - 1, by have := h.2; omega⟩
    obtain ⟨j, hj, rfl⟩ := nI_of h.1
    have h2 := h.2
    rw [nI_clamp hj] at h2
    rw [nI_m1, nI_ltI (by omega) hj]
    omega
  · have h2 := h.2
    match n, hn, h2 with
    | 0, _, h2 =>
      exact absurd (nn_m1 h.1) h2
    | m + 1, hm, h2 =>
      obtain ⟨j, hj, rfl⟩ := nI_of h.1
      rw [nI_m1, nI_ltI (by omega) hj] at h2
      rw [nI_clamp hj]
      omega
theorem lt_iff2 {p : Int32} {m : Nat} (hm : m + 1 < 2 ^ 30) : (¬ p < 0 ∧ p.toNatClampNeg < m + 1) ↔ (¬ p < 0 ∧ ¬ (nI m < p)) := by
  have := lt_iff1 (p := p) hm
  rw [nI_m1] at this
  exact this
theorem u8_isLoaf {P : Sk} {f : St} {a : Nat} {p : Int32} {bd : Bd} {K : Int32 → St → Prop} (hS : StM f (a + 1) 0 bd) (hb : Bok bd) (hK1 : hasB bd p → K 1 f) (hK0 : ¬ hasB bd p → K 0 f) : kX8_isLoaf P f a p K := by
  show vX8_isLoaf P f a p K
  unfold vX8_isLoaf
  have h6 := hb.1
  have hi := lt_iff1 (p := p) (n := bd.1.length) (by omega)
  rw [tn0, hS.1]
  refine ⟨vp_nI (i := 0) (by decide) (by decide), u8_in (fun q1 q2 => ?_) (fun q => ?_)⟩
  · exact ⟨Or.inr rfl, hK1 (hi.mpr ⟨q1, q2⟩)⟩
  · refine ⟨Or.inl rfl, hK0 (fun h => ?_)⟩
    have h2 := hi.mp h
    rcases q with q | q
    · exact h2.1 q
    · exact h2.2 q
theorem StM.lf {f : St} {a : Nat} {bd : Bd} (h : StM f (a + 1) 0 bd) {l : Nat} (hl : l < bd.1.length) : LfM f (a + 1) (4 + 26 * l) (lfAt bd.1 l) := by
  have := h.2.2.2.2 l hl
  rw [Nat.zero_add] at this
  exact this
theorem StM.has {f : St} {a : Nat} {bd : Bd} {p : Int32} (h : StM f (a + 1) 0 bd) (hp : hasB bd p) : LfM f (a + 1) (4 + 26 * p.toNatClampNeg) (lfP bd p) := h.lf hp.2
theorem u8_ofP {P : Sk} {f : St} {a w : Nat} {p v : Int32} {bd : Bd} {K : Int32 → St → Prop} (hb : Bok bd) (hp : hasB bd p) (hw : w < 26) (hv : f (a + 1) (4 + 26 * p.toNatClampNeg + w) = v) (hK : K v f) : kX8_of P f a p (nI w) K := by
  have h6 := hb.1
  have h2 := hp.2
  have h3 := u8_of (P := P) (f := f) (a := a) (l := p.toNatClampNeg) (w := w) (v := v) (K := K) (by omega) hw hv hK
  rw [← nI_cl hp.1] at h3
  exact h3

def vX8_fails (P : Sk) (f : St) (a : Nat) (p1 : Int32) (K : Int32 → St → Prop) : Prop :=
  ∀ g2 : St, g2 = setf f a 0 p1 → K 0 g2
set_option maxRecDepth 20000 in
set_option maxHeartbeats 4000000 in
theorem mX8_fails (l : Launch) (G : Gl) (P : Sk) (f : St) (sz : Nat) (a : Nat) (ha : IsModel P a) (p1 : Int32) (K : Int32 → St → Prop) (h : vX8_fails P f a p1 K)  :
  Met l yX8_fails (wU yX8_fails cX8_fails 2 (some .int)) rmX8_fails (PcW G P f sz [.ref a, .int p1]) (QcI G P sz K) 0 0 (frA P sz) := by
  refine v_met (own := RX8) [.ref a, .int p1] (by decide +kernel) rfl (Nat.le_of_ble_eq_true rfl) (fun p e s m args below meth c hsz o hr hnm => ?_)
  refine v_lv (lv2 := [(0, .ref a), (1, .int p1)]) rfl ?_
  unfold vX8_fails at h
  refine v_aload_n o 0 dX8_fails_0 rfl ?_
  refine v_iload_n o 1 dX8_fails_1 rfl ?_
  refine v_pf o lpX8_40 (wfModel_o ha) ⟨rfl, rfl⟩ dX8_fails_2 ?_
  refine v_nmf (fun g2 eg2 => ?_)
  replace h := h g2 eg2
  refine v_iconst o (v := 0) dX8_fails_5 (by decide) ?_
  exact v_iret o rfl hr dX8_fails_6 h
abbrev kX8_fails := @vX8_fails
abbrev metX8_fails := @mX8_fails
theorem u8_fails {P : Sk} {f : St} {a : Nat} {p : Int32} {K : Int32 → St → Prop} (hK : K 0 (setf f a 0 p)) : kX8_fails P f a p K := by
  show vX8_fails P f a p K
  unfold vX8_fails
  exact fun g e => by rw [e]; exact hK

def vX8_refusesCross (P : Sk) (f : St) (a : Nat) (p1 : Int32) (p2 : Int32) (p3 : Int32) (K : Int32 → St → Prop) : Prop :=
  kX8_isLoaf P f a p1 (fun r2 g2 => (¬ r2 = 0 → kX8_of P g2 a p1 0 (fun r15 g15 => kX8_in P g15 p2 0 (r15 - 2) (fun r20 g20 => (¬ r20 = 0 → kX8_takes P g20 a p1 (fun g30 => vp_in (g30 a 9) 50 ∧ (∀ g46 : St, g46 = setf g30 (a + 5) (g30 a 9).toNatClampNeg ((2 * p2) + p3) → ∀ g54 : St, g54 = setf g46 a 9 ((g46 a 9) + 1) → kX8_why P g54 a (fun r58 g58 => K r58 g58)))) ∧ (r20 = 0 → K 4 g20)))) ∧ (r2 = 0 → K 3 g2))
set_option maxRecDepth 20000 in
set_option maxHeartbeats 4000000 in
theorem mX8_refusesCross (l : Launch) (G : Gl) (P : Sk) (f : St) (sz : Nat) (a : Nat) (ha : IsModel P a) (p1 : Int32) (p2 : Int32) (p3 : Int32) (K : Int32 → St → Prop) (h : vX8_refusesCross P f a p1 p2 p3 K)  :
  Met l yX8_refusesCross (wU yX8_refusesCross cX8_refusesCross 4 (some .int)) rmX8_refusesCross (PcW G P f sz [.ref a, .int p1, .int p2, .int p3]) (QcI G P sz K) 0 0 (frA P sz) := by
  refine v_met (own := RX8) [.ref a, .int p1, .int p2, .int p3] (by decide +kernel) rfl (Nat.le_of_ble_eq_true rfl) (fun p e s m args below meth c hsz o hr hnm => ?_)
  refine v_lv (lv2 := [(0, .ref a), (1, .int p1), (2, .int p2), (3, .int p3)]) rfl ?_
  unfold vX8_refusesCross at h
  refine v_aload_n o 0 dX8_refusesCross_0 rfl ?_
  refine v_iload_n o 1 dX8_refusesCross_1 rfl ?_
  refine v_cVi o [.int p1] [] (fun sz => metX8_isLoaf l G P f sz a ha p1 _ h) (cwX8_104 o.1.2.2.2.2 (by decide)) ⟨_, _, rfl⟩ (by decide) (wfModel_o ha) rfl (Nat.le_of_ble_eq_true rfl) ⟨Nat.le_of_ble_eq_true rfl, Nat.le_of_ble_eq_true rfl⟩ dX8_refusesCross_2 rfl (fun r2 g2 h => ?_)
  refine v_if_ne o (tgt := 10) dX8_refusesCross_5 (by decide) (fun c5 => ?_) (fun c5 => ?_)
  · replace h := h.1 c5
    refine v_iload_n o 2 dX8_refusesCross_10 rfl ?_
    refine v_iconst o (v := 0) dX8_refusesCross_11 (by decide) ?_
    refine v_aload_n o 0 dX8_refusesCross_12 rfl ?_
    refine v_iload_n o 1 dX8_refusesCross_13 rfl ?_
    refine v_iconst o (v := 0) dX8_refusesCross_14 (by decide) ?_
    refine v_cVi o [.int p1, .int 0] [.int 0, .int p2] (fun sz => metX8_of l G P g2 sz a ha p1 0 _ h) (cwX8_51 o.1.2.2.2.2 (by decide)) ⟨_, _, rfl⟩ (by decide) (wfModel_o ha) rfl (Nat.le_of_ble_eq_true rfl) ⟨Nat.le_of_ble_eq_true rfl, Nat.le_of_ble_eq_true rfl⟩ dX8_refusesCross_15 rfl (fun r15 g15 h => ?_)
    refine v_iconst o (v := 2) dX8_refusesCross_18 (by decide) ?_
    refine v_isub o dX8_refusesCross_19 ?_
    refine v_cSi o [.int p2, .int 0, .int (r15 - 2)] [] (fun sz => metX8_in l G P g15 sz p2 0 (r15 - 2) _ h) (cwX8_44 o.1.2.2.2.2 (by decide)) rfl (Nat.le_of_ble_eq_true rfl) ⟨Nat.le_of_ble_eq_true rfl, Nat.le_of_ble_eq_true rfl⟩ dX8_refusesCross_20 rfl (fun r20 g20 h => ?_)
    refine v_if_ne o (tgt := 28) dX8_refusesCross_23 (by decide) (fun c23 => ?_) (fun c23 => ?_)
    · replace h := h.1 c23
      refine v_aload_n o 0 dX8_refusesCross_28 rfl ?_
      refine v_iload_n o 1 dX8_refusesCross_29 rfl ?_
      refine v_cVv o [.int p1] [] (fun sz => metX8_takes l G P g20 sz a ha p1 _ h) (cwX8_107 o.1.2.2.2.2 (by decide)) ⟨_, _, rfl⟩ (by decide) (wfModel_o ha) rfl (Nat.le_of_ble_eq_true rfl) ⟨Nat.le_of_ble_eq_true rfl, Nat.le_of_ble_eq_true rfl⟩ dX8_refusesCross_30 rfl (fun g30 h => ?_)
      refine v_aload_n o 0 dX8_refusesCross_33 rfl ?_
      refine v_gfR o lkX8_22 (by decide) (wfModel_o ha) (wfModel_r8 ha) dX8_refusesCross_34 ?_
      refine v_aload_n o 0 dX8_refusesCross_37 rfl ?_
      refine v_gfI o lkX8_58 (by decide) (wfModel_o ha) dX8_refusesCross_38 ?_
      refine v_iconst o (v := 2) dX8_refusesCross_41 (by decide) ?_
      refine v_iload_n o 2 dX8_refusesCross_42 rfl ?_
      refine v_imul o dX8_refusesCross_43 ?_
      refine v_iload_n o 3 dX8_refusesCross_44 rfl ?_
      refine v_iadd o dX8_refusesCross_45 ?_
      refine v_iast o (wfModel_t8 ha) (wfModel_n8 ha) h.1 dX8_refusesCross_46 ?_
      replace h := h.2
      refine v_nmf (fun g46 eg46 => ?_)
      replace h := h g46 eg46
      refine v_aload_n o 0 dX8_refusesCross_47 rfl ?_
      refine v_dup o dX8_refusesCross_48 rfl ?_
      refine v_gfI o lkX8_58 (by decide) (wfModel_o ha) dX8_refusesCross_49 ?_
      refine v_iconst o (v := 1) dX8_refusesCross_52 (by decide) ?_
      refine v_iadd o dX8_refusesCross_53 ?_
      refine v_pf o lpX8_58 (wfModel_o ha) ⟨rfl, rfl⟩ dX8_refusesCross_54 ?_
      refine v_nmf (fun g54 eg54 => ?_)
      replace h := h g54 eg54
      refine v_aload_n o 0 dX8_refusesCross_57 rfl ?_
      refine v_cVi o [] [] (fun sz => metX8_why l G P g54 sz a ha _ h) (cwX8_110 o.1.2.2.2.2 (by decide)) ⟨_, _, rfl⟩ (by decide) (wfModel_o ha) rfl (Nat.le_of_ble_eq_true rfl) ⟨Nat.le_of_ble_eq_true rfl, Nat.le_of_ble_eq_true rfl⟩ dX8_refusesCross_58 rfl (fun r58 g58 h => ?_)
      exact v_iret o rfl hr dX8_refusesCross_61 h
    · replace h := h.2 c23
      refine v_iconst o (v := 4) dX8_refusesCross_26 (by decide) ?_
      exact v_iret o rfl hr dX8_refusesCross_27 h
  · replace h := h.2 c5
    refine v_iconst o (v := 3) dX8_refusesCross_8 (by decide) ?_
    exact v_iret o rfl hr dX8_refusesCross_9 h
abbrev kX8_refusesCross := @vX8_refusesCross
abbrev metX8_refusesCross := @mX8_refusesCross
theorem mw_snoc {g1 g2 g3 : St} {a c : Nat} {w : List Nat} (h : MW g1 a w) (e2 : g2 = setf g1 (a + 5) w.length (nI c)) (e3 : g3 = setf g2 a 9 (nI (w.length + 1))) : MW g3 a (w ++ [c]) ∧ MF g1 g3 a (fun i => i = 5) (fun j => j = 9) := by
  refine ⟨⟨?_, fun i hi => ?_⟩, ?_⟩
  · rw [e3, setf_same, List.length_append]
    rfl
  · rw [List.length_append] at hi
    have hi2 : i < w.length + 1 := hi
    rw [e3, setf_off (Or.inl (by omega)), e2]
    by_cases q : i = w.length
    · rw [q, setf_same]
      have := getD_app2 w [c] 0
      rw [Nat.add_zero] at this
      rw [this]
      rfl
    · rw [setf_off (Or.inr q), getD_app1 _ _ _ (by omega)]
      exact h.2 i (by omega)
  · rw [e3, e2]
    exact (mf_arr (A := fun i => i = 5) (i := 5) g1 rfl (by decide)).trans (mf_fld _ rfl)
theorem u8_refusesCross {P : Sk} {f : St} {a r : Nat} {p q : Int32} {bd : Bd} {K : Int32 → St → Prop} (hS : StM f (a + 1) 0 bd) (hb : Bok bd) (hr : r < 2) (hK : ∀ g, Sc9 f g a → ((rsCross bd p q r).1 = 0 → MW g a (rsCross bd p q r).2.2 ∧ g a 10 = nI (rsCross bd p q r).2.1 ∧ g a 14 = nI (hidA (rsCross bd p q r).2.2 ((rsCross bd p q r).2.2.length - 1))) → K (nI (rsCross bd p q r).1) g) : kX8_refusesCross P f a p q (nI r) K := by
  show vX8_refusesCross P f a p q (nI r) K
  unfold vX8_refusesCross
  refine u8_isLoaf hS hb (fun c1 => ?_) (fun c1 => ?_)
  · refine ⟨fun _ => ?_, fun q0 => absurd q0 (by decide)⟩
    have ho := (hb.has c1).1
    have hL := hS.has c1
    have h6 := hb.1
    have c12 := c1.2
    have h2 := ho.1
    have h7 := ho.2.1
    have h24 := ho.2.2.1
    refine u8_ofP (w := 0) hb c1 (by decide) hL.1 ?_
    have e2 : nI (lfP bd p).1 - 2 = nI ((lfP bd p).1 - 1) - 1 := by
      rw [show (2 : Int32) = nI 2 from rfl, show (1 : Int32) = nI 1 from rfl, pk_sub (by omega), pk_sub (by omega)]
      rfl
    have hi := lt_iff1 (p := q) (n := (lfP bd p).1 - 1) (by omega)
    change kX8_in P f q 0 (nI (lfP bd p).1 - 2) _
    rw [e2]
    refine u8_in (fun q1 q2 => ?_) (fun q0 => ?_)
    · refine ⟨fun _ => ?_, fun q0 => absurd q0 (by decide)⟩
      have h3 := hi.mpr ⟨q1, q2⟩
      have c2 : plB (lfP bd p) q := ⟨h3.1, by have := h3.2; omega⟩
      refine ⟨p.toNatClampNeg, lfP bd p, nI_cl c1.1, by omega, hL, ho, fun g1 r1 m1 n1 => ?_⟩
      change _ ∧ _
      rw [m1.1, nI_clamp (by omega)]
      refine ⟨vp_nI (by omega) (by decide), fun g2 e2 g3 e3 => ?_⟩
      have h9 : g2 a 9 = nI (lfP bd p).2.length := by
        rw [e2, setf_off (Or.inl (by omega)), m1.1]
      have hq := nI_cl c2.1
      have e4 : (2 : Int32) * q + nI r = nI (2 * q.toNatClampNeg + r) := by
        conv => lhs; rw [hq]
        rw [show (2 : Int32) = nI 2 from rfl, nI_mul, nI_add]
      rw [e4] at e2
      rw [h9, nI_1] at e3
      obtain ⟨m3, r3⟩ := mw_snoc m1 e2 e3
      have n3 : g3 a 10 = nI (lfP bd p).1 := by
        rw [r3.2 10 (by omega), n1]
      have s3 : Sc9 f g3 a := (r1.mono (fun i h => by omega) (fun j h => by omega)).trans (r3.mono (fun i h => by omega) (fun j h => by omega))
      have hl2 : ((lfP bd p).2 ++ [2 * q.toNatClampNeg + r]).length = (lfP bd p).2.length + 1 := by
        rw [List.length_append]
        rfl
      refine ⟨(lfP bd p).1, (lfP bd p).2 ++ [2 * q.toNatClampNeg + r], m3, by omega, n3, fun c3 => ?_, fun c3 => ⟨?_, fun g r4 W L => ?_⟩⟩
      · have e : rsCross bd p q r = (1, lfP bd p) := by
          unfold rsCross
          rw [cif_pos c1, cif_pos c2, cif_neg (by omega)]
        rw [e] at hK
        exact hK g3 s3 (fun h => absurd h (Nat.succ_ne_zero _))
      · have := c2.2
        exact wok_snoc ho (by omega) (by omega)
      · have e : rsCross bd p q r = rsS ((lfP bd p).1, (lfP bd p).2 ++ [2 * q.toNatClampNeg + r]) := by
          unfold rsCross
          rw [cif_pos c1, cif_pos c2, cif_pos (by omega)]
        rw [e] at hK
        refine hK g (s3.trans (r4.mono (fun i h => by omega) (fun j h => by omega))) (fun _ => ⟨m3.keep r4 (fun i h => by omega) (by omega), ?_, ?_⟩)
        · rw [r4.2 10 (by omega)]
          exact n3
        · exact (L (by omega)).1
    · refine ⟨fun q0 => absurd rfl q0, fun _ => ?_⟩
      have c2 : ¬ plB (lfP bd p) q := fun h => by
        have h4 := hi.mp ⟨h.1, by have := h.2; omega⟩
        rcases q0 with q0 | q0
        · exact h4.1 q0
        · exact h4.2 q0
      have e : rsCross bd p q r = (4, lfP bd p) := by
        unfold rsCross
        rw [cif_pos c1, cif_neg c2]
      rw [e] at hK
      exact hK f (MF.refl _ _ _ _) (fun h => absurd h (Nat.succ_ne_zero _))
  · refine ⟨fun q0 => absurd rfl q0, fun _ => ?_⟩
    have e : rsCross bd p q r = (3, lfP bd p) := by
      unfold rsCross
      rw [cif_neg c1]
    rw [e] at hK
    exact hK f (MF.refl _ _ _ _) (fun h => absurd h (Nat.succ_ne_zero _))

def vX8_refusesChange (P : Sk) (f : St) (a : Nat) (p1 : Int32) (p2 : Int32) (K : Int32 → St → Prop) : Prop :=
  kX8_isLoaf P f a p1 (fun r2 g2 => (¬ r2 = 0 → kX8_takes P g2 a p1 (fun g12 => kX8_changes P g12 a p2 (fun g17 => kX8_why P g17 a (fun r21 g21 => K r21 g21)))) ∧ (r2 = 0 → K 3 g2))
set_option maxRecDepth 20000 in
set_option maxHeartbeats 4000000 in
theorem mX8_refusesChange (l : Launch) (G : Gl) (P : Sk) (f : St) (sz : Nat) (a : Nat) (ha : IsModel P a) (p1 : Int32) (p2 : Int32) (K : Int32 → St → Prop) (h : vX8_refusesChange P f a p1 p2 K)  :
  Met l yX8_refusesChange (wU yX8_refusesChange cX8_refusesChange 3 (some .int)) rmX8_refusesChange (PcW G P f sz [.ref a, .int p1, .int p2]) (QcI G P sz K) 0 0 (frA P sz) := by
  refine v_met (own := RX8) [.ref a, .int p1, .int p2] (by decide +kernel) rfl (Nat.le_of_ble_eq_true rfl) (fun p e s m args below meth c hsz o hr hnm => ?_)
  refine v_lv (lv2 := [(0, .ref a), (1, .int p1), (2, .int p2)]) rfl ?_
  unfold vX8_refusesChange at h
  refine v_aload_n o 0 dX8_refusesChange_0 rfl ?_
  refine v_iload_n o 1 dX8_refusesChange_1 rfl ?_
  refine v_cVi o [.int p1] [] (fun sz => metX8_isLoaf l G P f sz a ha p1 _ h) (cwX8_104 o.1.2.2.2.2 (by decide)) ⟨_, _, rfl⟩ (by decide) (wfModel_o ha) rfl (Nat.le_of_ble_eq_true rfl) ⟨Nat.le_of_ble_eq_true rfl, Nat.le_of_ble_eq_true rfl⟩ dX8_refusesChange_2 rfl (fun r2 g2 h => ?_)
  refine v_if_ne o (tgt := 10) dX8_refusesChange_5 (by decide) (fun c5 => ?_) (fun c5 => ?_)
  · replace h := h.1 c5
    refine v_aload_n o 0 dX8_refusesChange_10 rfl ?_
    refine v_iload_n o 1 dX8_refusesChange_11 rfl ?_
    refine v_cVv o [.int p1] [] (fun sz => metX8_takes l G P g2 sz a ha p1 _ h) (cwX8_107 o.1.2.2.2.2 (by decide)) ⟨_, _, rfl⟩ (by decide) (wfModel_o ha) rfl (Nat.le_of_ble_eq_true rfl) ⟨Nat.le_of_ble_eq_true rfl, Nat.le_of_ble_eq_true rfl⟩ dX8_refusesChange_12 rfl (fun g12 h => ?_)
    refine v_aload_n o 0 dX8_refusesChange_15 rfl ?_
    refine v_iload_n o 2 dX8_refusesChange_16 rfl ?_
    refine v_cVv o [.int p2] [] (fun sz => metX8_changes l G P g12 sz a ha p2 _ h) (cwX8_113 o.1.2.2.2.2 (by decide)) ⟨_, _, rfl⟩ (by decide) (wfModel_o ha) rfl (Nat.le_of_ble_eq_true rfl) ⟨Nat.le_of_ble_eq_true rfl, Nat.le_of_ble_eq_true rfl⟩ dX8_refusesChange_17 rfl (fun g17 h => ?_)
    refine v_aload_n o 0 dX8_refusesChange_20 rfl ?_
    refine v_cVi o [] [] (fun sz => metX8_why l G P g17 sz a ha _ h) (cwX8_110 o.1.2.2.2.2 (by decide)) ⟨_, _, rfl⟩ (by decide) (wfModel_o ha) rfl (Nat.le_of_ble_eq_true rfl) ⟨Nat.le_of_ble_eq_true rfl, Nat.le_of_ble_eq_true rfl⟩ dX8_refusesChange_21 rfl (fun r21 g21 h => ?_)
    exact v_iret o rfl hr dX8_refusesChange_24 h
  · replace h := h.2 c5
    refine v_iconst o (v := 3) dX8_refusesChange_8 (by decide) ?_
    exact v_iret o rfl hr dX8_refusesChange_9 h
abbrev kX8_refusesChange := @vX8_refusesChange
abbrev metX8_refusesChange := @mX8_refusesChange
theorem u8_refusesChange {P : Sk} {f : St} {a how : Nat} {p : Int32} {bd : Bd} {K : Int32 → St → Prop} (hS : StM f (a + 1) 0 bd) (hb : Bok bd) (hh : how < 4) (hK : ∀ g, Sc9 f g a → ((rsChange bd p how).1 = 0 → MW g a (rsChange bd p how).2.2 ∧ g a 10 = nI (rsChange bd p how).2.1) → K (nI (rsChange bd p how).1) g) : kX8_refusesChange P f a p (nI how) K := by
  show vX8_refusesChange P f a p (nI how) K
  unfold vX8_refusesChange
  refine u8_isLoaf hS hb (fun c1 => ?_) (fun c1 => ?_)
  · refine ⟨fun _ => ?_, fun q0 => absurd q0 (by decide)⟩
    have ho := (hb.has c1).1
    have h6 := hb.1
    have c12 := c1.2
    refine ⟨p.toNatClampNeg, lfP bd p, nI_cl c1.1, by omega, hS.has c1, ho, fun g1 r1 m1 n1 => ?_⟩
    refine u8_changes m1 ho n1 hh (fun g2 r2 m2 => ?_)
    have ho2 := wok_chg ho how
    have h24 := ho2.2.2.1
    have n2 : g2 a 10 = nI (lfP bd p).1 := by
      rw [r2.2 10 (by omega), n1]
    refine ⟨(lfP bd p).1, chg (lfP bd p).1 (lfP bd p).2 how, m2, by omega, n2, fun c3 => absurd h24 (by omega), fun _ => ⟨ho2, fun g r4 W L => ?_⟩⟩
    have e : rsChange bd p how = rsS ((lfP bd p).1, chg (lfP bd p).1 (lfP bd p).2 how) := by
      unfold rsChange
      rw [cif_pos c1]
    rw [e] at hK
    refine hK g ?_ (fun _ => ⟨m2.keep r4 (fun i h => by omega) (by omega), ?_⟩)
    · exact (r1.mono (fun i h => by omega) (fun j h => by omega)).trans ((r2.mono (fun i h => by omega) (fun j h => by omega)).trans (r4.mono (fun i h => by omega) (fun j h => by omega)))
    · rw [r4.2 10 (by omega)]
      exact n2
  · refine ⟨fun q0 => absurd rfl q0, fun _ => ?_⟩
    have e : rsChange bd p how = (3, lfP bd p) := by
      unfold rsChange
      rw [cif_neg c1]
    rw [e] at hK
    exact hK f (MF.refl _ _ _ _) (fun h => absurd h (Nat.succ_ne_zero _))

def vX8_refusesJoin (P : Sk) (f : St) (a : Nat) (p1 : Int32) (p2 : Int32) (K : Int32 → St → Prop) : Prop :=
  kX8_isLoaf P f a p1 (fun r2 g2 => (r2 = 0 → K 3 g2) ∧ (¬ r2 = 0 → kX8_isLoaf P g2 a p2 (fun r10 g10 => (¬ r10 = 0 → kX8_of P g10 a p1 0 (fun r21 g21 => kX8_of P g21 a p2 0 (fun r27 g27 => (r21 = r27 → kX8_takes P g27 a p1 (fun g37 => kX8_takesMore P g37 a p2 (fun g42 => kX8_why P g42 a (fun r46 g46 => K r46 g46)))) ∧ (¬ r21 = r27 → K 5 g27)))) ∧ (r10 = 0 → K 3 g10))))
set_option maxRecDepth 20000 in
set_option maxHeartbeats 4000000 in
theorem mX8_refusesJoin (l : Launch) (G : Gl) (P : Sk) (f : St) (sz : Nat) (a : Nat) (ha : IsModel P a) (p1 : Int32) (p2 : Int32) (K : Int32 → St → Prop) (h : vX8_refusesJoin P f a p1 p2 K)  :
  Met l yX8_refusesJoin (wU yX8_refusesJoin cX8_refusesJoin 3 (some .int)) rmX8_refusesJoin (PcW G P f sz [.ref a, .int p1, .int p2]) (QcI G P sz K) 0 0 (frA P sz) := by
  refine v_met (own := RX8) [.ref a, .int p1, .int p2] (by decide +kernel) rfl (Nat.le_of_ble_eq_true rfl) (fun p e s m args below meth c hsz o hr hnm => ?_)
  refine v_lv (lv2 := [(0, .ref a), (1, .int p1), (2, .int p2)]) rfl ?_
  unfold vX8_refusesJoin at h
  refine v_aload_n o 0 dX8_refusesJoin_0 rfl ?_
  refine v_iload_n o 1 dX8_refusesJoin_1 rfl ?_
  refine v_cVi o [.int p1] [] (fun sz => metX8_isLoaf l G P f sz a ha p1 _ h) (cwX8_104 o.1.2.2.2.2 (by decide)) ⟨_, _, rfl⟩ (by decide) (wfModel_o ha) rfl (Nat.le_of_ble_eq_true rfl) ⟨Nat.le_of_ble_eq_true rfl, Nat.le_of_ble_eq_true rfl⟩ dX8_refusesJoin_2 rfl (fun r2 g2 h => ?_)
  refine v_if_eq o (tgt := 16) dX8_refusesJoin_5 (by decide) (fun c5 => ?_) (fun c5 => ?_)
  · replace h := h.1 c5
    refine v_iconst o (v := 3) dX8_refusesJoin_16 (by decide) ?_
    exact v_iret o rfl hr dX8_refusesJoin_17 h
  · replace h := h.2 c5
    refine v_aload_n o 0 dX8_refusesJoin_8 rfl ?_
    refine v_iload_n o 2 dX8_refusesJoin_9 rfl ?_
    refine v_cVi o [.int p2] [] (fun sz => metX8_isLoaf l G P g2 sz a ha p2 _ h) (cwX8_104 o.1.2.2.2.2 (by decide)) ⟨_, _, rfl⟩ (by decide) (wfModel_o ha) rfl (Nat.le_of_ble_eq_true rfl) ⟨Nat.le_of_ble_eq_true rfl, Nat.le_of_ble_eq_true rfl⟩ dX8_refusesJoin_10 rfl (fun r10 g10 h => ?_)
    refine v_if_ne o (tgt := 18) dX8_refusesJoin_13 (by decide) (fun c13 => ?_) (fun c13 => ?_)
    · replace h := h.1 c13
      refine v_aload_n o 0 dX8_refusesJoin_18 rfl ?_
      refine v_iload_n o 1 dX8_refusesJoin_19 rfl ?_
      refine v_iconst o (v := 0) dX8_refusesJoin_20 (by decide) ?_
      refine v_cVi o [.int p1, .int 0] [] (fun sz => metX8_of l G P g10 sz a ha p1 0 _ h) (cwX8_51 o.1.2.2.2.2 (by decide)) ⟨_, _, rfl⟩ (by decide) (wfModel_o ha) rfl (Nat.le_of_ble_eq_true rfl) ⟨Nat.le_of_ble_eq_true rfl, Nat.le_of_ble_eq_true rfl⟩ dX8_refusesJoin_21 rfl (fun r21 g21 h => ?_)
      refine v_aload_n o 0 dX8_refusesJoin_24 rfl ?_
      refine v_iload_n o 2 dX8_refusesJoin_25 rfl ?_
      refine v_iconst o (v := 0) dX8_refusesJoin_26 (by decide) ?_
      refine v_cVi o [.int p2, .int 0] [.int r21] (fun sz => metX8_of l G P g21 sz a ha p2 0 _ h) (cwX8_51 o.1.2.2.2.2 (by decide)) ⟨_, _, rfl⟩ (by decide) (wfModel_o ha) rfl (Nat.le_of_ble_eq_true rfl) ⟨Nat.le_of_ble_eq_true rfl, Nat.le_of_ble_eq_true rfl⟩ dX8_refusesJoin_27 rfl (fun r27 g27 h => ?_)
      refine v_icmp_eq o (tgt := 35) dX8_refusesJoin_30 (by decide) (fun c30 => ?_) (fun c30 => ?_)
      · replace h := h.1 c30
        refine v_aload_n o 0 dX8_refusesJoin_35 rfl ?_
        refine v_iload_n o 1 dX8_refusesJoin_36 rfl ?_
        refine v_cVv o [.int p1] [] (fun sz => metX8_takes l G P g27 sz a ha p1 _ h) (cwX8_107 o.1.2.2.2.2 (by decide)) ⟨_, _, rfl⟩ (by decide) (wfModel_o ha) rfl (Nat.le_of_ble_eq_true rfl) ⟨Nat.le_of_ble_eq_true rfl, Nat.le_of_ble_eq_true rfl⟩ dX8_refusesJoin_37 rfl (fun g37 h => ?_)
        refine v_aload_n o 0 dX8_refusesJoin_40 rfl ?_
        refine v_iload_n o 2 dX8_refusesJoin_41 rfl ?_
        refine v_cVv o [.int p2] [] (fun sz => metX8_takesMore l G P g37 sz a ha p2 _ h) (cwX8_116 o.1.2.2.2.2 (by decide)) ⟨_, _, rfl⟩ (by decide) (wfModel_o ha) rfl (Nat.le_of_ble_eq_true rfl) ⟨Nat.le_of_ble_eq_true rfl, Nat.le_of_ble_eq_true rfl⟩ dX8_refusesJoin_42 rfl (fun g42 h => ?_)
        refine v_aload_n o 0 dX8_refusesJoin_45 rfl ?_
        refine v_cVi o [] [] (fun sz => metX8_why l G P g42 sz a ha _ h) (cwX8_110 o.1.2.2.2.2 (by decide)) ⟨_, _, rfl⟩ (by decide) (wfModel_o ha) rfl (Nat.le_of_ble_eq_true rfl) ⟨Nat.le_of_ble_eq_true rfl, Nat.le_of_ble_eq_true rfl⟩ dX8_refusesJoin_46 rfl (fun r46 g46 h => ?_)
        exact v_iret o rfl hr dX8_refusesJoin_49 h
      · replace h := h.2 c30
        refine v_iconst o (v := 5) dX8_refusesJoin_33 (by decide) ?_
        exact v_iret o rfl hr dX8_refusesJoin_34 h
    · replace h := h.2 c13
      refine v_iconst o (v := 3) dX8_refusesJoin_16 (by decide) ?_
      exact v_iret o rfl hr dX8_refusesJoin_17 h
abbrev kX8_refusesJoin := @vX8_refusesJoin
abbrev metX8_refusesJoin := @mX8_refusesJoin
theorem u8_refusesJoin {P : Sk} {f : St} {a : Nat} {p q : Int32} {bd : Bd} {K : Int32 → St → Prop} (hS : StM f (a + 1) 0 bd) (hb : Bok bd) (hK : ∀ g, Sc9 f g a → ((rsJoin bd p q).1 = 0 → MW g a (rsJoin bd p q).2.2 ∧ g a 10 = nI (rsJoin bd p q).2.1) → K (nI (rsJoin bd p q).1) g) : kX8_refusesJoin P f a p q K := by
  show vX8_refusesJoin P f a p q K
  unfold vX8_refusesJoin
  have no : ¬ (hasB bd p ∧ hasB bd q) → K 3 f := by
    intro c
    have e : rsJoin bd p q = (3, lfP bd p) := by
      unfold rsJoin
      rw [cif_neg c]
    rw [e] at hK
    exact hK f (MF.refl _ _ _ _) (fun h => absurd h (Nat.succ_ne_zero _))
  refine u8_isLoaf hS hb (fun c1 => ?_) (fun c1 => ?_)
  · refine ⟨fun q0 => absurd q0 (by decide), fun _ => ?_⟩
    refine u8_isLoaf hS hb (fun c2 => ?_) (fun c2 => ?_)
    · refine ⟨fun _ => ?_, fun q0 => absurd q0 (by decide)⟩
      have ho := (hb.has c1).1
      have hq := (hb.has c2).1
      have h6 := hb.1
      have c12 := c1.2
      have c22 := c2.2
      have h7 := ho.2.1
      have k7 := hq.2.1
      have h24 := ho.2.2.1
      have k24 := hq.2.2.1
      refine u8_ofP (w := 0) hb c1 (by decide) (hS.has c1).1 ?_
      refine u8_ofP (w := 0) hb c2 (by decide) (hS.has c2).1 ?_
      change _ ∧ _
      rw [nI_eq (by omega) (by omega)]
      refine ⟨fun c3 => ?_, fun c3 => ?_⟩
      · refine ⟨p.toNatClampNeg, lfP bd p, nI_cl c1.1, by omega, hS.has c1, ho, fun g1 r1 m1 n1 => ?_⟩
        refine ⟨q.toNatClampNeg, lfP bd q, (lfP bd p).2, nI_cl c2.1, by omega, (hS.has c2).row (r1.1 (a + 1) (by omega) (fun i hi => by omega)), k24, m1, h24, fun g2 r2 m2 => ?_⟩
        have n2 : g2 a 10 = nI (lfP bd p).1 := by
          rw [r2.2 10 (by omega), n1]
        have s2 : Sc9 f g2 a := (r1.mono (fun i h => by omega) (fun j h => by omega)).trans (r2.mono (fun i h => by omega) (fun j h => by omega))
        have hl2 : ((lfP bd p).2 ++ (lfP bd q).2).length = (lfP bd p).2.length + (lfP bd q).2.length := List.length_append
        refine ⟨(lfP bd p).1, (lfP bd p).2 ++ (lfP bd q).2, m2, by omega, n2, fun c4 => ?_, fun c4 => ⟨?_, fun g r4 W L => ?_⟩⟩
        · have e : rsJoin bd p q = (1, lfP bd p) := by
            unfold rsJoin
            rw [cif_pos ⟨c1, c2⟩, cif_pos c3, cif_neg (by omega)]
          rw [e] at hK
          exact hK g2 s2 (fun h => absurd h (Nat.succ_ne_zero _))
        · rw [← c3] at hq
          exact wok_app ho hq (by omega)
        · have e : rsJoin bd p q = rsS ((lfP bd p).1, (lfP bd p).2 ++ (lfP bd q).2) := by
            unfold rsJoin
            rw [cif_pos ⟨c1, c2⟩, cif_pos c3, cif_pos (by omega)]
          rw [e] at hK
          refine hK g (s2.trans (r4.mono (fun i h => by omega) (fun j h => by omega))) (fun _ => ⟨m2.keep r4 (fun i h => by omega) (by omega), ?_⟩)
          rw [r4.2 10 (by omega)]
          exact n2
      · have e : rsJoin bd p q = (5, lfP bd p) := by
          unfold rsJoin
          rw [cif_pos ⟨c1, c2⟩, cif_neg c3]
        rw [e] at hK
        exact hK f (MF.refl _ _ _ _) (fun h => absurd h (Nat.succ_ne_zero _))
    · exact ⟨fun q0 => absurd rfl q0, fun _ => no (fun h => c2 h.2)⟩
  · exact ⟨fun _ => no (fun h => c1 h.1), fun q0 => absurd rfl q0⟩

def vX8_refusesBack (P : Sk) (f : St) (a : Nat) (p1 : Int32) (K : Int32 → St → Prop) : Prop :=
  kX8_isLoaf P f a p1 (fun r2 g2 => (¬ r2 = 0 → kX8_of P g2 a p1 1 (fun r15 g15 => (¬ r15 = 0 → K 0 g15) ∧ (r15 = 0 → K 6 g15))) ∧ (r2 = 0 → K 3 g2))
set_option maxRecDepth 20000 in
set_option maxHeartbeats 4000000 in
theorem mX8_refusesBack (l : Launch) (G : Gl) (P : Sk) (f : St) (sz : Nat) (a : Nat) (ha : IsModel P a) (p1 : Int32) (K : Int32 → St → Prop) (h : vX8_refusesBack P f a p1 K)  :
  Met l yX8_refusesBack (wU yX8_refusesBack cX8_refusesBack 2 (some .int)) rmX8_refusesBack (PcW G P f sz [.ref a, .int p1]) (QcI G P sz K) 0 0 (frA P sz) := by
  refine v_met (own := RX8) [.ref a, .int p1] (by decide +kernel) rfl (Nat.le_of_ble_eq_true rfl) (fun p e s m args below meth c hsz o hr hnm => ?_)
  refine v_lv (lv2 := [(0, .ref a), (1, .int p1)]) rfl ?_
  unfold vX8_refusesBack at h
  refine v_aload_n o 0 dX8_refusesBack_0 rfl ?_
  refine v_iload_n o 1 dX8_refusesBack_1 rfl ?_
  refine v_cVi o [.int p1] [] (fun sz => metX8_isLoaf l G P f sz a ha p1 _ h) (cwX8_104 o.1.2.2.2.2 (by decide)) ⟨_, _, rfl⟩ (by decide) (wfModel_o ha) rfl (Nat.le_of_ble_eq_true rfl) ⟨Nat.le_of_ble_eq_true rfl, Nat.le_of_ble_eq_true rfl⟩ dX8_refusesBack_2 rfl (fun r2 g2 h => ?_)
  refine v_if_ne o (tgt := 12) dX8_refusesBack_5 (by decide) (fun c5 => ?_) (fun c5 => ?_)
  · replace h := h.1 c5
    refine v_aload_n o 0 dX8_refusesBack_12 rfl ?_
    refine v_iload_n o 1 dX8_refusesBack_13 rfl ?_
    refine v_iconst o (v := 1) dX8_refusesBack_14 (by decide) ?_
    refine v_cVi o [.int p1, .int 1] [] (fun sz => metX8_of l G P g2 sz a ha p1 1 _ h) (cwX8_51 o.1.2.2.2.2 (by decide)) ⟨_, _, rfl⟩ (by decide) (wfModel_o ha) rfl (Nat.le_of_ble_eq_true rfl) ⟨Nat.le_of_ble_eq_true rfl, Nat.le_of_ble_eq_true rfl⟩ dX8_refusesBack_15 rfl (fun r15 g15 h => ?_)
    refine v_if_ne o (tgt := 26) dX8_refusesBack_18 (by decide) (fun c18 => ?_) (fun c18 => ?_)
    · replace h := h.1 c18
      refine v_iconst o (v := 0) dX8_refusesBack_26 (by decide) ?_
      exact v_iret o rfl hr dX8_refusesBack_27 h
    · replace h := h.2 c18
      refine v_bipush o (v := 6) dX8_refusesBack_21 (by decide) ?_
      refine v_goto o (tgt := 27) dX8_refusesBack_23 (by decide) ?_
      exact v_iret o rfl hr dX8_refusesBack_27 h
  · replace h := h.2 c5
    refine v_iconst o (v := 3) dX8_refusesBack_8 (by decide) ?_
    refine v_goto o (tgt := 27) dX8_refusesBack_9 (by decide) ?_
    exact v_iret o rfl hr dX8_refusesBack_27 h
abbrev kX8_refusesBack := @vX8_refusesBack
abbrev metX8_refusesBack := @mX8_refusesBack
theorem u8_refusesBack {P : Sk} {f : St} {a : Nat} {p : Int32} {bd : Bd} {K : Int32 → St → Prop} (hS : StM f (a + 1) 0 bd) (hb : Bok bd) (hK : K (nI (rsBack bd p).1) f) : kX8_refusesBack P f a p K := by
  show vX8_refusesBack P f a p K
  unfold vX8_refusesBack
  refine u8_isLoaf hS hb (fun c1 => ?_) (fun c1 => ?_)
  · refine ⟨fun _ => ?_, fun q0 => absurd q0 (by decide)⟩
    have h24 := (hb.has c1).1.2.2.1
    refine u8_ofP (w := 1) hb c1 (by decide) (hS.has c1).2.1 ?_
    change _ ∧ _
    rw [show (0 : Int32) = nI 0 from rfl, nI_eq (by omega) (by omega)]
    refine ⟨fun c2 => ?_, fun c2 => ?_⟩
    · unfold rsBack at hK
      rw [cif_pos c1, cif_neg c2] at hK
      exact hK
    · unfold rsBack at hK
      rw [cif_pos c1, cif_pos c2] at hK
      exact hK
  · refine ⟨fun q0 => absurd rfl q0, fun _ => ?_⟩
    unfold rsBack at hK
    rw [cif_neg c1] at hK
    exact hK

