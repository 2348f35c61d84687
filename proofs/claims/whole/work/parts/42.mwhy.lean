def jX8_why_56 (P : Sk) (a : Nat) (L23 : St → Int32 → Int32 → Prop) (K : Int32 → St → Prop) (x1 : Int32) (x2 : Int32) (y0 : Int32) (f : St) : Prop :=
  ∀ x2_57 : Int32, x2_57 = x2 + 1 → L23 f y0 x2_57
def bX8_why_23 (P : Sk) (a : Nat) (L23 : St → Int32 → Int32 → Prop) (K : Int32 → St → Prop) (f : St) (x1 : Int32) (x2 : Int32) : Prop :=
  (f a 10 ≤ x2 → K x1 f) ∧ (¬ f a 10 ≤ x2 → vp_in x2 7 ∧ (vp_in x2 7 ∧ (((f (a + 8) x2.toNatClampNeg) + (2 * (f (a + 7) x2.toNatClampNeg)) ≤ 30 → jX8_why_56 P a L23 K x1 x2 x1 f) ∧ (¬ (f (a + 8) x2.toNatClampNeg) + (2 * (f (a + 7) x2.toNatClampNeg)) ≤ 30 → jX8_why_56 P a L23 K x1 x2 2 f))))
def vX8_why (P : Sk) (f : St) (a : Nat) (L23 : St → Int32 → Int32 → Prop) (K : Int32 → St → Prop) : Prop :=
  (f a 9 ≤ 24 → kX8_walks P f a (f a 9) (fun g16 => L23 g16 0 0)) ∧ (¬ f a 9 ≤ 24 → K 1 f)
set_option maxRecDepth 20000 in
set_option maxHeartbeats 4000000 in
theorem mX8_why (l : Launch) (G : Gl) (P : Sk) (f : St) (sz : Nat) (a : Nat) (ha : IsModel P a) (K : Int32 → St → Prop) (I23 : St → Int32 → Int32 → Prop) (μ23 : St → Int32 → Int32 → Nat) 
  (h : vX8_why P f a I23 K)
  (h23 : ∀ (g : St) (x1 : Int32) (x2 : Int32) , I23 g x1 x2 → bX8_why_23 P a (fun g' z0 z1 => I23 g' z0 z1 ∧ μ23 g' z0 z1 < μ23 g x1 x2) K g x1 x2) :
  Met l yX8_why (wU yX8_why cX8_why 3 (some .int)) rmX8_why (PcW G P f sz [.ref a]) (QcI G P sz K) 0 0 (frA P sz) := by
  refine v_met (own := RX8) [.ref a] (by decide +kernel) rfl (Nat.le_of_ble_eq_true rfl) (fun p e s m args below meth c hsz o hr hnm => ?_)
  refine v_lv (lv2 := [(0, .ref a)]) rfl ?_
  have main : ∀ n : Nat, (∀ (g : St) (x1 : Int32) (x2 : Int32) , I23 g x1 x2 → μ23 g x1 x2 < n → V p l e rmX8_why s m args below meth c 3 G (frA P sz) (MQ below (QcI G P sz K) args s 0 0 (frA P sz)) 0 0 P [(0, .ref a), (1, .int x1), (2, .int x2)] [] 23 g) := by
    intro n
    induction n with
    | zero => exact fun g x1 x2 hI hm => absurd hm (Nat.not_lt_zero _)
    | succ n ih =>
      intro g x1 x2 hI hm
      have h := h23 g x1 x2 hI
      clear hI
      have J56 : ∀ (x1_56 : Int32) (x2_56 : Int32) (y0_56 : Int32) (g56 : St), jX8_why_56 P a (fun g' z0 z1 => I23 g' z0 z1 ∧ μ23 g' z0 z1 < μ23 g x1 x2) K x1_56 x2_56 y0_56 g56 → V p l e rmX8_why s m args below meth c 3 G (frA P sz) (MQ below (QcI G P sz K) args s 0 0 (frA P sz)) 0 0 P [(0, .ref a), (1, .int x1_56), (2, .int x2_56)] [.int y0_56] 56 g56 := by
        intro x1_56 x2_56 y0_56 g56  h
        unfold jX8_why_56 at h
        refine v_istore_n o (lv' := [(1, .int y0_56), (0, .ref a), (2, .int x2_56)]) dX8_why_56 rfl (by decide) rfl ?_
        obtain ⟨x2_57, ex2_57⟩ : ∃ y : Int32, y = x2_56 + 1 := ⟨_, rfl⟩
        replace h := h x2_57 ex2_57
        refine v_iinc o (v := x2_57) (lv' := [(2, .int x2_57), (1, .int y0_56), (0, .ref a)]) 2 dX8_why_57 rfl (by rw [ex2_57]; rfl) (by decide) rfl ?_
        refine v_goto o (tgt := 23) dX8_why_60 (by decide) ?_
        refine v_sub [2, 1, 0] (lv2 := [(0, .ref a), (1, .int y0_56), (2, .int x2_57)]) rfl ?_
        exact ih g56 y0_56 x2_57  h.1 (by have := h.2; omega)
      unfold bX8_why_23 at h
      refine v_iload_n o 2 dX8_why_23 rfl ?_
      refine v_aload_n o 0 dX8_why_24 rfl ?_
      refine v_gfI o lkX8_55 (by decide) (wfModel_o ha) dX8_why_25 ?_
      refine v_icmp_ge o (tgt := 63) dX8_why_28 (by decide) (fun c28 => ?_) (fun c28 => ?_)
      · replace h := h.1 c28
        refine v_iload_n o 1 dX8_why_63 rfl ?_
        exact v_iret o rfl hr dX8_why_64 h
      · replace h := h.2 c28
        refine v_aload_n o 0 dX8_why_31 rfl ?_
        refine v_gfR o lkX8_31 (by decide) (wfModel_o ha) (wfModel_r13 ha) dX8_why_32 ?_
        refine v_iload_n o 2 dX8_why_35 rfl ?_
        refine v_iald o (wfModel_t13 ha) (wfModel_n13 ha) h.1 dX8_why_36 ?_
        replace h := h.2
        refine v_iconst o (v := 2) dX8_why_37 (by decide) ?_
        refine v_aload_n o 0 dX8_why_38 rfl ?_
        refine v_gfR o lkX8_28 (by decide) (wfModel_o ha) (wfModel_r12 ha) dX8_why_39 ?_
        refine v_iload_n o 2 dX8_why_42 rfl ?_
        refine v_iald o (wfModel_t12 ha) (wfModel_n12 ha) h.1 dX8_why_43 ?_
        replace h := h.2
        refine v_imul o dX8_why_44 ?_
        refine v_iadd o dX8_why_45 ?_
        refine v_bipush o (v := 30) dX8_why_46 (by decide) ?_
        refine v_icmp_le o (tgt := 55) dX8_why_48 (by decide) (fun c48 => ?_) (fun c48 => ?_)
        · replace h := h.1 c48
          refine v_iload_n o 1 dX8_why_55 rfl ?_
          refine v_sub [0, 1, 2] (lv2 := [(0, .ref a), (1, .int x1), (2, .int x2)]) rfl ?_
          exact J56 x1 x2 x1 g  h
        · replace h := h.2 c48
          refine v_iconst o (v := 2) dX8_why_51 (by decide) ?_
          refine v_goto o (tgt := 56) dX8_why_52 (by decide) ?_
          refine v_sub [0, 1, 2] (lv2 := [(0, .ref a), (1, .int x1), (2, .int x2)]) rfl ?_
          exact J56 x1 x2 2 g  h
  unfold vX8_why at h
  refine v_aload_n o 0 dX8_why_0 rfl ?_
  refine v_gfI o lkX8_58 (by decide) (wfModel_o ha) dX8_why_1 ?_
  refine v_bipush o (v := 24) dX8_why_4 (by decide) ?_
  refine v_icmp_le o (tgt := 11) dX8_why_6 (by decide) (fun c6 => ?_) (fun c6 => ?_)
  · replace h := h.1 c6
    refine v_aload_n o 0 dX8_why_11 rfl ?_
    refine v_aload_n o 0 dX8_why_12 rfl ?_
    refine v_gfI o lkX8_58 (by decide) (wfModel_o ha) dX8_why_13 ?_
    refine v_cVv o [.int (f a 9)] [] (fun sz => metX8_walks l G P f sz a ha (f a 9) _ h) (cwX8_89 o.1.2.2.2.2 (by decide)) ⟨_, _, rfl⟩ (by decide) (wfModel_o ha) rfl (Nat.le_of_ble_eq_true rfl) ⟨Nat.le_of_ble_eq_true rfl, Nat.le_of_ble_eq_true rfl⟩ dX8_why_16 rfl (fun g16 h => ?_)
    refine v_iconst o (v := 0) dX8_why_19 (by decide) ?_
    refine v_istore_n o (lv' := [(1, .int 0), (0, .ref a)]) dX8_why_20 rfl (by decide) rfl ?_
    refine v_iconst o (v := 0) dX8_why_21 (by decide) ?_
    refine v_istore_n o (lv' := [(2, .int 0), (1, .int 0), (0, .ref a)]) dX8_why_22 rfl (by decide) rfl ?_
    refine v_sub [2, 1, 0] (lv2 := [(0, .ref a), (1, .int 0), (2, .int 0)]) rfl ?_
    exact (main (μ23 g16 0 0 + 1)) g16 0 0  h (Nat.lt_succ_self _)
  · replace h := h.2 c6
    refine v_iconst o (v := 1) dX8_why_9 (by decide) ?_
    exact v_iret o rfl hr dX8_why_10 h
def WX8_why (P : Sk) (f : St) (a : Nat) (K : Int32 → St → Prop) : Prop := ∃ (I23 : St → Int32 → Int32 → Prop) (μ23 : St → Int32 → Int32 → Nat), (vX8_why P f a I23 K) ∧ (∀ (g : St) (x1 : Int32) (x2 : Int32) , I23 g x1 x2 → bX8_why_23 P a (fun g' z0 z1 => I23 g' z0 z1 ∧ μ23 g' z0 z1 < μ23 g x1 x2) K g x1 x2)
def kX8_why (P : Sk) (f : St) (a : Nat) (K : Int32 → St → Prop) : Prop := ∃ n w, MW f a w ∧ w.length ≤ 48 ∧ f a 10 = nI n ∧ (24 < w.length → K 1 f) ∧ (w.length ≤ 24 → Wok n w ∧ ∀ g, MF f g a (fun i => 6 ≤ i ∧ i ≤ 8) (fun j => j = 14 ∨ j = 15) → WkM g a w w.length → (0 < w.length → g a 14 = nI (hidA w (w.length - 1)) ∧ g a 15 = nI (abvA w (w.length - 1))) → K (nI (rsS (n, w)).1) g)
theorem wX8_why (P : Sk) (f : St) (a : Nat) (ha : IsModel P a) (K : Int32 → St → Prop) (h : kX8_why P f a K) : WX8_why P f a K := by
  obtain ⟨n, w, hw, hl, hn, hK1, hK2⟩ := h
  refine ⟨fun g x1 x2 => ∃ k, x2 = nI k ∧ w.length ≤ 24 ∧ k ≤ n ∧ MF f g a (fun i => 6 ≤ i ∧ i ≤ 8) (fun j => j = 14 ∨ j = 15) ∧ WkM g a w w.length ∧ (0 < w.length → g a 14 = nI (hidA w (w.length - 1)) ∧ g a 15 = nI (abvA w (w.length - 1))) ∧ ((x1 = 0 ∧ ∀ s, s < k → dgh w s ≤ 30) ∨ (x1 = 2 ∧ ∃ s, s < k ∧ ¬ dgh w s ≤ 30)), fun g x1 x2 => n - x2.toNatClampNeg, ?_, ?_⟩
  · unfold vX8_why
    rw [hw.1, show (24 : Int32) = nI 24 from rfl, nI_leI (by omega) (by omega)]
    refine ⟨fun q => ⟨n, w, w.length, rfl, Nat.le_refl _, hw, (hK2 q).1, fun g r W L => ?_⟩, fun q => hK1 (by omega)⟩
    exact ⟨0, rfl, q, Nat.zero_le _, r, W, L, Or.inl ⟨rfl, fun s hs => absurd hs (Nat.not_lt_zero _)⟩⟩
  · rintro g x1 x2 ⟨k, rfl, h24, hk, r, W, L, hx⟩
    obtain ⟨ho, hK⟩ := hK2 h24
    have h7 := ho.2.1
    unfold bX8_why_23
    rw [r.2 10 (by omega), hn, nI_leI (by omega) (by omega)]
    refine ⟨fun q => ?_, fun q => ?_⟩
    · have hKg := hK g r W L
      rcases hx with ⟨rfl, hA⟩ | ⟨rfl, s, hs, hA⟩
      · rw [show (rsS (n, w)).1 = 0 from cif_pos (fun s hs => hA s (by omega))] at hKg
        exact hKg
      · rw [show (rsS (n, w)).1 = 2 from cif_neg (fun d => hA (d s (by omega)))] at hKg
        exact hKg
    · have i7 : vp_in (nI k) 7 := vp_nI (by omega) (by decide)
      have hd := dgh_le ho k
      have e : nI (tA w w.length k) + nI 2 * nI (tU w w.length k) = nI (dgh w k) := by
        rw [nI_mul, nI_add]
        rfl
      rw [nI_clamp (by omega), (W k (by omega)).2.1, (W k (by omega)).2.2, show (2 : Int32) = nI 2 from rfl, e, show (30 : Int32) = nI 30 from rfl, nI_leI (by omega) (by omega)]
      unfold jX8_why_56
      rw [nI_1]
      refine ⟨i7, i7, fun q2 y ey => ⟨⟨k + 1, ey, h24, by omega, r, W, L, ?_⟩, ?_⟩, fun q2 y ey => ⟨⟨k + 1, ey, h24, by omega, r, W, L, Or.inr ⟨rfl, k, by omega, q2⟩⟩, ?_⟩⟩
      · rcases hx with ⟨e0, hA⟩ | ⟨e0, s, hs, hA⟩
        · refine Or.inl ⟨e0, fun s hs => ?_⟩
          by_cases c : s = k
          · rw [c]
            exact q2
          · exact hA s (by omega)
        · exact Or.inr ⟨e0, s, by omega, hA⟩
      · exact mu_up ey (by omega) (by omega)
      · exact mu_up ey (by omega) (by omega)

theorem metX8_why (l : Launch) (G : Gl) (P : Sk) (f : St) (sz : Nat) (a : Nat) (ha : IsModel P a) (K : Int32 → St → Prop) (h : kX8_why P f a K) : Met l yX8_why (wU yX8_why cX8_why 3 (some .int)) rmX8_why (PcW G P f sz [.ref a]) (QcI G P sz K) 0 0 (frA P sz) := by
  obtain ⟨I23, μ23, qh, qh23⟩ := wX8_why P f a ha K h
  exact mX8_why l G P f sz a ha K I23 μ23 qh qh23

def bX8_keepsOther_10 (P : Sk) (a : Nat) (L10 : St → Int32 → Prop) (K : St → Prop) (f : St) (x1 : Int32) : Prop :=
  (f a 9 ≤ x1 → K f) ∧ (¬ f a 9 ≤ x1 → vp_in x1 50 ∧ (vp_in x1 50 ∧ (∀ g29 : St, g29 = setf f (a + 9) x1.toNatClampNeg (f (a + 5) x1.toNatClampNeg) → ∀ x1_30 : Int32, x1_30 = x1 + 1 → L10 g29 x1_30)))
def vX8_keepsOther (P : Sk) (f : St) (a : Nat) (L10 : St → Int32 → Prop) (K : St → Prop) : Prop :=
  ∀ g5 : St, g5 = setf f a 17 (f a 9) → L10 g5 0
set_option maxRecDepth 20000 in
set_option maxHeartbeats 4000000 in
theorem mX8_keepsOther (l : Launch) (G : Gl) (P : Sk) (f : St) (sz : Nat) (a : Nat) (ha : IsModel P a) (K : St → Prop) (I10 : St → Int32 → Prop) (μ10 : St → Int32 → Nat) 
  (h : vX8_keepsOther P f a I10 K)
  (h10 : ∀ (g : St) (x1 : Int32) , I10 g x1 → bX8_keepsOther_10 P a (fun g' z0 => I10 g' z0 ∧ μ10 g' z0 < μ10 g x1) K g x1) :
  Met l yX8_keepsOther (wU yX8_keepsOther cX8_keepsOther 2 none) rmX8_keepsOther (PcW G P f sz [.ref a]) (QcV G P sz K) 0 0 (frA P sz) := by
  refine v_met (own := RX8) [.ref a] (by decide +kernel) rfl (Nat.le_of_ble_eq_true rfl) (fun p e s m args below meth c hsz o hr hnm => ?_)
  refine v_lv (lv2 := [(0, .ref a)]) rfl ?_
  have main : ∀ n : Nat, (∀ (g : St) (x1 : Int32) , I10 g x1 → μ10 g x1 < n → V p l e rmX8_keepsOther s m args below meth c 2 G (frA P sz) (MQ below (QcV G P sz K) args s 0 0 (frA P sz)) 0 0 P [(0, .ref a), (1, .int x1)] [] 10 g) := by
    intro n
    induction n with
    | zero => exact fun g x1 hI hm => absurd hm (Nat.not_lt_zero _)
    | succ n ih =>
      intro g x1 hI hm
      have h := h10 g x1 hI
      clear hI
      unfold bX8_keepsOther_10 at h
      refine v_iload_n o 1 dX8_keepsOther_10 rfl ?_
      refine v_aload_n o 0 dX8_keepsOther_11 rfl ?_
      refine v_gfI o lkX8_58 (by decide) (wfModel_o ha) dX8_keepsOther_12 ?_
      refine v_icmp_ge o (tgt := 36) dX8_keepsOther_15 (by decide) (fun c15 => ?_) (fun c15 => ?_)
      · replace h := h.1 c15
        exact v_vret o rfl hr dX8_keepsOther_36 h
      · replace h := h.2 c15
        refine v_aload_n o 0 dX8_keepsOther_18 rfl ?_
        refine v_gfR o lkX8_34 (by decide) (wfModel_o ha) (wfModel_r16 ha) dX8_keepsOther_19 ?_
        refine v_iload_n o 1 dX8_keepsOther_22 rfl ?_
        refine v_aload_n o 0 dX8_keepsOther_23 rfl ?_
        refine v_gfR o lkX8_22 (by decide) (wfModel_o ha) (wfModel_r8 ha) dX8_keepsOther_24 ?_
        refine v_iload_n o 1 dX8_keepsOther_27 rfl ?_
        refine v_iald o (wfModel_t8 ha) (wfModel_n8 ha) h.1 dX8_keepsOther_28 ?_
        replace h := h.2
        refine v_iast o (wfModel_t16 ha) (wfModel_n16 ha) h.1 dX8_keepsOther_29 ?_
        replace h := h.2
        refine v_nmf (fun g29 eg29 => ?_)
        replace h := h g29 eg29
        obtain ⟨x1_30, ex1_30⟩ : ∃ y : Int32, y = x1 + 1 := ⟨_, rfl⟩
        replace h := h x1_30 ex1_30
        refine v_iinc o (v := x1_30) (lv' := [(1, .int x1_30), (0, .ref a)]) 1 dX8_keepsOther_30 rfl (by rw [ex1_30]; rfl) (by decide) rfl ?_
        refine v_goto o (tgt := 10) dX8_keepsOther_33 (by decide) ?_
        refine v_sub [1, 0] (lv2 := [(0, .ref a), (1, .int x1_30)]) rfl ?_
        exact ih g29 x1_30  h.1 (by have := h.2; omega)
  unfold vX8_keepsOther at h
  refine v_aload_n o 0 dX8_keepsOther_0 rfl ?_
  refine v_aload_n o 0 dX8_keepsOther_1 rfl ?_
  refine v_gfI o lkX8_58 (by decide) (wfModel_o ha) dX8_keepsOther_2 ?_
  refine v_pf o lpX8_92 (wfModel_o ha) ⟨rfl, rfl⟩ dX8_keepsOther_5 ?_
  refine v_nmf (fun g5 eg5 => ?_)
  replace h := h g5 eg5
  refine v_iconst o (v := 0) dX8_keepsOther_8 (by decide) ?_
  refine v_istore_n o (lv' := [(1, .int 0), (0, .ref a)]) dX8_keepsOther_9 rfl (by decide) rfl ?_
  refine v_sub [1, 0] (lv2 := [(0, .ref a), (1, .int 0)]) rfl ?_
  exact (main (μ10 g5 0 + 1)) g5 0  h (Nat.lt_succ_self _)
def WX8_keepsOther (P : Sk) (f : St) (a : Nat) (K : St → Prop) : Prop := ∃ (I10 : St → Int32 → Prop) (μ10 : St → Int32 → Nat), (vX8_keepsOther P f a I10 K) ∧ (∀ (g : St) (x1 : Int32) , I10 g x1 → bX8_keepsOther_10 P a (fun g' z0 => I10 g' z0 ∧ μ10 g' z0 < μ10 g x1) K g x1)
/-- the other word -/
def MO (f : St) (m : Nat) (w : List Nat) : Prop := f m 17 = nI w.length ∧ ∀ i, i < w.length → f (m + 9) i = nI (w.getD i 0)
def kX8_keepsOther (P : Sk) (f : St) (a : Nat) (K : St → Prop) : Prop := ∃ w, MW f a w ∧ Cok w ∧ ∀ g, MF f g a (fun i => i = 9) (fun j => j = 17) → MO g a w → K g
theorem wX8_keepsOther (P : Sk) (f : St) (a : Nat) (ha : IsModel P a) (K : St → Prop) (h : kX8_keepsOther P f a K) : WX8_keepsOther P f a K := by
  obtain ⟨w, hw, hc, hK⟩ := h
  have hl := hc.1
  refine ⟨fun g x => ∃ k, x = nI k ∧ k ≤ w.length ∧ MF f g a (fun i => i = 9) (fun j => j = 17) ∧ g a 17 = nI w.length ∧ ∀ j, j < k → g (a + 9) j = nI (w.getD j 0), fun g x => w.length - x.toNatClampNeg, ?_, ?_⟩
  · unfold vX8_keepsOther
    intro g e
    refine ⟨0, rfl, Nat.zero_le _, ?_, ?_, fun j hj => absurd hj (Nat.not_lt_zero _)⟩
    · rw [e]
      exact mf_fld f rfl
    · rw [e, setf_same, hw.1]
  · rintro g x ⟨k, rfl, hk, hfr, h17, hA⟩
    have hg := hw.keep hfr (fun i hi => by omega) (by omega)
    unfold bX8_keepsOther_10
    rw [hg.1, nI_leI (by omega) (by omega)]
    refine ⟨fun q => hK g hfr ⟨h17, fun j hj => hA j (by omega)⟩, fun q => ?_⟩
    have hin : vp_in (nI k) 50 := vp_nI (by omega) (by decide)
    refine ⟨hin, hin, fun g2 e2 y e => ?_⟩
    rw [nI_1] at e
    rw [nI_clamp (by omega), hg.2 k (by omega)] at e2
    refine ⟨⟨k + 1, e, by omega, ?_, ?_, fun j hj => ?_⟩, mu_up e (by omega) (by omega)⟩
    · rw [e2]
      exact hfr.trans (mf_arr (i := 9) g rfl (by decide))
    · rw [e2, setf_off (Or.inl (by omega))]
      exact h17
    · rw [e2]
      by_cases c : j = k
      · rw [c, setf_same]
      · rw [setf_off (Or.inr c)]
        exact hA j (by omega)

theorem metX8_keepsOther (l : Launch) (G : Gl) (P : Sk) (f : St) (sz : Nat) (a : Nat) (ha : IsModel P a) (K : St → Prop) (h : kX8_keepsOther P f a K) : Met l yX8_keepsOther (wU yX8_keepsOther cX8_keepsOther 2 none) rmX8_keepsOther (PcW G P f sz [.ref a]) (QcV G P sz K) 0 0 (frA P sz) := by
  obtain ⟨I10, μ10, qh, qh10⟩ := wX8_keepsOther P f a ha K h
  exact mX8_keepsOther l G P f sz a ha K I10 μ10 qh qh10

