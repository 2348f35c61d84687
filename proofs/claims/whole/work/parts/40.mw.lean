def vX8_in (P : Sk) (f : St) (p0 : Int32) (p1 : Int32) (p2 : Int32) (K : Int32 → St → Prop) : Prop :=
  (p0 < p1 → K 0 f) ∧ (¬ p0 < p1 → (p2 < p0 → K 0 f) ∧ (¬ p2 < p0 → K 1 f))
set_option maxRecDepth 20000 in
set_option maxHeartbeats 4000000 in
theorem mX8_in (l : Launch) (G : Gl) (P : Sk) (f : St) (sz : Nat) (p0 : Int32) (p1 : Int32) (p2 : Int32) (K : Int32 → St → Prop) (h : vX8_in P f p0 p1 p2 K)  :
  Met l yX8_in (wU yX8_in cX8_in 3 (some .boolean)) rmX8_in (PcW G P f sz [.int p0, .int p1, .int p2]) (QcI G P sz K) 0 0 (frA P sz) := by
  refine v_met (own := RX8) [.int p0, .int p1, .int p2] (by decide +kernel) rfl (Nat.le_of_ble_eq_true rfl) (fun p e s m args below meth c hsz o hr hnm => ?_)
  refine v_lv (lv2 := [(0, .int p0), (1, .int p1), (2, .int p2)]) rfl ?_
  unfold vX8_in at h
  refine v_iload_n o 0 dX8_in_0 rfl ?_
  refine v_iload_n o 1 dX8_in_1 rfl ?_
  refine v_icmp_lt o (tgt := 14) dX8_in_2 (by decide) (fun c2 => ?_) (fun c2 => ?_)
  · replace h := h.1 c2
    refine v_iconst o (v := 0) dX8_in_14 (by decide) ?_
    exact v_zret o rfl hr bz0.1 dX8_in_15 h
  · replace h := h.2 c2
    refine v_iload_n o 0 dX8_in_5 rfl ?_
    refine v_iload_n o 2 dX8_in_6 rfl ?_
    refine v_icmp_gt o (tgt := 14) dX8_in_7 (by decide) (fun c7 => ?_) (fun c7 => ?_)
    · replace h := h.1 c7
      refine v_iconst o (v := 0) dX8_in_14 (by decide) ?_
      exact v_zret o rfl hr bz0.1 dX8_in_15 h
    · replace h := h.2 c7
      refine v_iconst o (v := 1) dX8_in_10 (by decide) ?_
      refine v_goto o (tgt := 15) dX8_in_11 (by decide) ?_
      exact v_zret o rfl hr bz1.1 dX8_in_15 h
abbrev kX8_in := @vX8_in
abbrev metX8_in := @mX8_in
/-- what of the reference may have changed: rows A, fields J -/
def MF (f g : St) (m : Nat) (A J : Nat → Prop) : Prop := (∀ q, q ≠ m → (∀ i, A i → q ≠ m + i) → g q = f q) ∧ ∀ j, ¬ J j → g m j = f m j
theorem MF.refl (f : St) (m : Nat) (A J : Nat → Prop) : MF f f m A J := ⟨fun _ _ _ => rfl, fun _ _ => rfl⟩
theorem MF.trans {f g h : St} {m : Nat} {A J : Nat → Prop} (k1 : MF f g m A J) (k2 : MF g h m A J) : MF f h m A J := ⟨fun q h1 h2 => (k2.1 q h1 h2).trans (k1.1 q h1 h2), fun j hj => (k2.2 j hj).trans (k1.2 j hj)⟩
theorem MF.mono {f g : St} {m : Nat} {A J A' J' : Nat → Prop} (k : MF f g m A J) (hA : ∀ i, A i → A' i) (hJ : ∀ j, J j → J' j) : MF f g m A' J' := ⟨fun q h1 h2 => k.1 q h1 (fun i hi => h2 i (hA i hi)), fun j hj => k.2 j (fun q => hj (hJ j q))⟩
theorem mf_fld (f : St) {m j : Nat} {v : Int32} {A J : Nat → Prop} (h : J j) : MF f (setf f m j v) m A J := ⟨fun q h1 _ => setf_row h1, fun i hi => setf_off (Or.inr (fun e => hi (by rw [e]; exact h)))⟩
theorem mf_arr (f : St) {m i j : Nat} {v : Int32} {A J : Nat → Prop} (h : A i) (h0 : 0 < i) : MF f (setf f (m + i) j v) m A J := ⟨fun q _ h2 => setf_row (h2 i h), fun i _ => setf_off (Or.inl (by omega))⟩
/-- the word that is worked on -/
def MW (f : St) (m : Nat) (w : List Nat) : Prop := f m 9 = nI w.length ∧ ∀ i, i < w.length → f (m + 5) i = nI (w.getD i 0)
def Cok (w : List Nat) : Prop := w.length ≤ 48 ∧ ∀ c, c ∈ w → c < 12
theorem Cok.at {w : List Nat} (h : Cok w) {i : Nat} (hi : i < w.length) : w.getD i 0 < 12 := h.2 _ (getD_mem hi)
theorem MW.keep {f g : St} {m : Nat} {w : List Nat} {A J : Nat → Prop} (h : MW f m w) (hf : MF f g m A J) (hA : ∀ i, A i → i ≠ 5) (hJ : ¬ J 9) : MW g m w := by
  unfold MW at h ⊢
  rw [hf.2 9 hJ, hf.1 (m + 5) (by omega) (fun i hi => by have := hA i hi; omega)]
  exact h
theorem u8_in {P : Sk} {f : St} {v a b : Int32} {K : Int32 → St → Prop} (hK1 : ¬ v < a → ¬ b < v → K 1 f) (hK0 : v < a ∨ b < v → K 0 f) : kX8_in P f v a b K := by
  show vX8_in P f v a b K
  unfold vX8_in
  exact ⟨fun q => hK0 (Or.inl q), fun q => ⟨fun q2 => hK0 (Or.inr q2), fun q2 => hK1 q q2⟩⟩

def jX8_mirrors_46 (P : Sk) (a : Nat) (L2 : St → Int32 → Prop) (K : St → Prop) (x1 : Int32) (y1 : Int32) (y2 : Int32) (f : St) : Prop :=
  vp_in y1 50 ∧ (∀ g46 : St, g46 = setf f (a + 5) y1.toNatClampNeg y2 → ∀ x1_47 : Int32, x1_47 = x1 + 1 → L2 g46 x1_47)
def bX8_mirrors_2 (P : Sk) (a : Nat) (L2 : St → Int32 → Prop) (K : St → Prop) (f : St) (x1 : Int32) : Prop :=
  (f a 9 ≤ x1 → K f) ∧ (¬ f a 9 ≤ x1 → vp_in x1 50 ∧ ((¬ (f (a + 5) x1.toNatClampNeg) - (f (a + 5) x1.toNatClampNeg) / 2 * 2 = 1 → vp_in x1 50 ∧ (jX8_mirrors_46 P a L2 K x1 x1 ((f (a + 5) x1.toNatClampNeg) + 1) f)) ∧ ((f (a + 5) x1.toNatClampNeg) - (f (a + 5) x1.toNatClampNeg) / 2 * 2 = 1 → vp_in x1 50 ∧ (jX8_mirrors_46 P a L2 K x1 x1 ((f (a + 5) x1.toNatClampNeg) - 1) f))))
def vX8_mirrors (P : Sk) (f : St) (a : Nat) (L2 : St → Int32 → Prop) (K : St → Prop) : Prop :=
  L2 f 0
set_option maxRecDepth 20000 in
set_option maxHeartbeats 4000000 in
theorem mX8_mirrors (l : Launch) (G : Gl) (P : Sk) (f : St) (sz : Nat) (a : Nat) (ha : IsModel P a) (K : St → Prop) (I2 : St → Int32 → Prop) (μ2 : St → Int32 → Nat) 
  (h : vX8_mirrors P f a I2 K)
  (h2 : ∀ (g : St) (x1 : Int32) , I2 g x1 → bX8_mirrors_2 P a (fun g' z0 => I2 g' z0 ∧ μ2 g' z0 < μ2 g x1) K g x1) :
  Met l yX8_mirrors (wU yX8_mirrors cX8_mirrors 2 none) rmX8_mirrors (PcW G P f sz [.ref a]) (QcV G P sz K) 0 0 (frA P sz) := by
  refine v_met (own := RX8) [.ref a] (by decide +kernel) rfl (Nat.le_of_ble_eq_true rfl) (fun p e s m args below meth c hsz o hr hnm => ?_)
  refine v_lv (lv2 := [(0, .ref a)]) rfl ?_
  have main : ∀ n : Nat, (∀ (g : St) (x1 : Int32) , I2 g x1 → μ2 g x1 < n → V p l e rmX8_mirrors s m args below meth c 2 G (frA P sz) (MQ below (QcV G P sz K) args s 0 0 (frA P sz)) 0 0 P [(0, .ref a), (1, .int x1)] [] 2 g) := by
    intro n
    induction n with
    | zero => exact fun g x1 hI hm => absurd hm (Nat.not_lt_zero _)
    | succ n ih =>
      intro g x1 hI hm
      have h := h2 g x1 hI
      clear hI
      have J46 : ∀ (x1_46 : Int32) (y1_46 : Int32) (y2_46 : Int32) (g46 : St), jX8_mirrors_46 P a (fun g' z0 => I2 g' z0 ∧ μ2 g' z0 < μ2 g x1) K x1_46 y1_46 y2_46 g46 → V p l e rmX8_mirrors s m args below meth c 2 G (frA P sz) (MQ below (QcV G P sz K) args s 0 0 (frA P sz)) 0 0 P [(0, .ref a), (1, .int x1_46)] [.int y2_46, .int y1_46, .ref (a + 5)] 46 g46 := by
        intro x1_46 y1_46 y2_46 g46  h
        unfold jX8_mirrors_46 at h
        refine v_iast o (wfModel_t8 ha) (wfModel_n8 ha) h.1 dX8_mirrors_46 ?_
        replace h := h.2
        refine v_nmf (fun g46 eg46 => ?_)
        replace h := h g46 eg46
        obtain ⟨x1_47, ex1_47⟩ : ∃ y : Int32, y = x1_46 + 1 := ⟨_, rfl⟩
        replace h := h x1_47 ex1_47
        refine v_iinc o (v := x1_47) (lv' := [(1, .int x1_47), (0, .ref a)]) 1 dX8_mirrors_47 rfl (by rw [ex1_47]; rfl) (by decide) rfl ?_
        refine v_goto o (tgt := 2) dX8_mirrors_50 (by decide) ?_
        refine v_sub [1, 0] (lv2 := [(0, .ref a), (1, .int x1_47)]) rfl ?_
        exact ih g46 x1_47  h.1 (by have := h.2; omega)
      unfold bX8_mirrors_2 at h
      refine v_iload_n o 1 dX8_mirrors_2 rfl ?_
      refine v_aload_n o 0 dX8_mirrors_3 rfl ?_
      refine v_gfI o lkX8_58 (by decide) (wfModel_o ha) dX8_mirrors_4 ?_
      refine v_icmp_ge o (tgt := 53) dX8_mirrors_7 (by decide) (fun c7 => ?_) (fun c7 => ?_)
      · replace h := h.1 c7
        exact v_vret o rfl hr dX8_mirrors_53 h
      · replace h := h.2 c7
        refine v_aload_n o 0 dX8_mirrors_10 rfl ?_
        refine v_gfR o lkX8_22 (by decide) (wfModel_o ha) (wfModel_r8 ha) dX8_mirrors_11 ?_
        refine v_iload_n o 1 dX8_mirrors_14 rfl ?_
        refine v_aload_n o 0 dX8_mirrors_15 rfl ?_
        refine v_gfR o lkX8_22 (by decide) (wfModel_o ha) (wfModel_r8 ha) dX8_mirrors_16 ?_
        refine v_iload_n o 1 dX8_mirrors_19 rfl ?_
        refine v_iald o (wfModel_t8 ha) (wfModel_n8 ha) h.1 dX8_mirrors_20 ?_
        replace h := h.2
        refine v_iconst o (v := 2) dX8_mirrors_21 (by decide) ?_
        refine v_irem o dX8_mirrors_22 (by decide) ?_
        refine v_iconst o (v := 1) dX8_mirrors_23 (by decide) ?_
        refine v_icmp_ne o (tgt := 38) dX8_mirrors_24 (by decide) (fun c24 => ?_) (fun c24 => ?_)
        · replace h := h.1 c24
          refine v_aload_n o 0 dX8_mirrors_38 rfl ?_
          refine v_gfR o lkX8_22 (by decide) (wfModel_o ha) (wfModel_r8 ha) dX8_mirrors_39 ?_
          refine v_iload_n o 1 dX8_mirrors_42 rfl ?_
          refine v_iald o (wfModel_t8 ha) (wfModel_n8 ha) h.1 dX8_mirrors_43 ?_
          replace h := h.2
          refine v_iconst o (v := 1) dX8_mirrors_44 (by decide) ?_
          refine v_iadd o dX8_mirrors_45 ?_
          refine v_sub [0, 1] (lv2 := [(0, .ref a), (1, .int x1)]) rfl ?_
          exact J46 x1 x1 ((g (a + 5) x1.toNatClampNeg) + 1) g  h
        · replace h := h.2 c24
          refine v_aload_n o 0 dX8_mirrors_27 rfl ?_
          refine v_gfR o lkX8_22 (by decide) (wfModel_o ha) (wfModel_r8 ha) dX8_mirrors_28 ?_
          refine v_iload_n o 1 dX8_mirrors_31 rfl ?_
          refine v_iald o (wfModel_t8 ha) (wfModel_n8 ha) h.1 dX8_mirrors_32 ?_
          replace h := h.2
          refine v_iconst o (v := 1) dX8_mirrors_33 (by decide) ?_
          refine v_isub o dX8_mirrors_34 ?_
          refine v_goto o (tgt := 46) dX8_mirrors_35 (by decide) ?_
          refine v_sub [0, 1] (lv2 := [(0, .ref a), (1, .int x1)]) rfl ?_
          exact J46 x1 x1 ((g (a + 5) x1.toNatClampNeg) - 1) g  h
  unfold vX8_mirrors at h
  refine v_iconst o (v := 0) dX8_mirrors_0 (by decide) ?_
  refine v_istore_n o (lv' := [(1, .int 0), (0, .ref a)]) dX8_mirrors_1 rfl (by decide) rfl ?_
  refine v_sub [1, 0] (lv2 := [(0, .ref a), (1, .int 0)]) rfl ?_
  exact (main (μ2 f 0 + 1)) f 0  h (Nat.lt_succ_self _)
def WX8_mirrors (P : Sk) (f : St) (a : Nat) (K : St → Prop) : Prop := ∃ (I2 : St → Int32 → Prop) (μ2 : St → Int32 → Nat), (vX8_mirrors P f a I2 K) ∧ (∀ (g : St) (x1 : Int32) , I2 g x1 → bX8_mirrors_2 P a (fun g' z0 => I2 g' z0 ∧ μ2 g' z0 < μ2 g x1) K g x1)
def kX8_mirrors (P : Sk) (f : St) (a : Nat) (K : St → Prop) : Prop := ∃ w, MW f a w ∧ Cok w ∧ ∀ g, MF f g a (fun i => i = 5) (fun _ => False) → MW g a (w.map fl) → K g
theorem wX8_mirrors (P : Sk) (f : St) (a : Nat) (ha : IsModel P a) (K : St → Prop) (h : kX8_mirrors P f a K) : WX8_mirrors P f a K := by
  obtain ⟨w, hw, hc, hK⟩ := h
  have hl := hc.1
  refine ⟨fun g x => ∃ k, x = nI k ∧ k ≤ w.length ∧ MF f g a (fun i => i = 5) (fun _ => False) ∧ (∀ j, j < k → g (a + 5) j = nI (fl (w.getD j 0))) ∧ (∀ j, k ≤ j → j < w.length → g (a + 5) j = nI (w.getD j 0)), fun g x => w.length - x.toNatClampNeg, ?_, ?_⟩
  · unfold vX8_mirrors
    exact ⟨0, rfl, Nat.zero_le _, MF.refl _ _ _ _, fun j hj => absurd hj (Nat.not_lt_zero _), fun j _ hj => hw.2 j hj⟩
  · rintro g x ⟨k, rfl, hk, hfr, hA, hB⟩
    unfold bX8_mirrors_2
    rw [hfr.2 9 id, hw.1, nI_leI (by omega) (by omega)]
    refine ⟨fun q => ?_, fun q => ?_⟩
    · refine hK g hfr ⟨?_, fun i hi => ?_⟩
      · rw [hfr.2 9 id, hw.1, List.length_map]
      · rw [List.length_map] at hi
        rw [getD_map fl hi]
        exact hA i (by omega)
    · have hin : vp_in (nI k) 50 := vp_nI (by omega) (by decide)
      have hck := hc.at (i := k) (by omega)
      have hr : nI (w.getD k 0) - nI (w.getD k 0) / nI 2 * nI 2 = nI (w.getD k 0 % 2) := pk_rem (by omega) (by decide) (by decide)
      have h2 : w.getD k 0 % 2 < 2 := Nat.mod_lt _ (by decide)
      rw [nI_clamp (by omega), hB k (Nat.le_refl _) (by omega), show (2 : Int32) = nI 2 from rfl, hr, show (1 : Int32) = nI 1 from rfl, nI_eq (by omega) (by omega)]
      have nx : ∀ v, v = nI (fl (w.getD k 0)) → jX8_mirrors_46 P a (fun g' z0 => (∃ k, z0 = nI k ∧ k ≤ w.length ∧ MF f g' a (fun i => i = 5) (fun _ => False) ∧ (∀ j, j < k → g' (a + 5) j = nI (fl (w.getD j 0))) ∧ (∀ j, k ≤ j → j < w.length → g' (a + 5) j = nI (w.getD j 0))) ∧ w.length - z0.toNatClampNeg < w.length - (nI k).toNatClampNeg) K (nI k) (nI k) v g := by
        intro v ev
        unfold jX8_mirrors_46
        rw [nI_clamp (show k < 2 ^ 31 by omega), nI_1]
        refine ⟨hin, fun g2 e2 y e => ⟨⟨k + 1, e, by omega, ?_, fun j hj => ?_, fun j hj hj2 => ?_⟩, by rw [e, nI_clamp (show k + 1 < 2 ^ 31 by omega)]; omega⟩⟩
        · rw [e2]
          exact hfr.trans (mf_arr g rfl (by decide))
        · rw [e2]
          by_cases c : j = k
          · rw [c, setf_same, ev]
          · rw [setf_off (Or.inr c)]
            exact hA j (by omega)
        · rw [e2, setf_off (Or.inr (by omega))]
          exact hB j (by omega) hj2
      refine ⟨hin, fun q2 => ⟨hin, nx _ ?_⟩, fun q2 => ⟨hin, nx _ ?_⟩⟩
      · unfold fl
        rw [if_neg q2]
        exact nI_1 _
      · unfold fl
        rw [if_pos q2]
        have : w.getD k 0 = (w.getD k 0 - 1) + 1 := by omega
        conv => lhs; rw [this]
        exact nI_m1 _

theorem metX8_mirrors (l : Launch) (G : Gl) (P : Sk) (f : St) (sz : Nat) (a : Nat) (ha : IsModel P a) (K : St → Prop) (h : kX8_mirrors P f a K) : Met l yX8_mirrors (wU yX8_mirrors cX8_mirrors 2 none) rmX8_mirrors (PcW G P f sz [.ref a]) (QcV G P sz K) 0 0 (frA P sz) := by
  obtain ⟨I2, μ2, qh, qh2⟩ := wX8_mirrors P f a ha K h
  exact mX8_mirrors l G P f sz a ha K I2 μ2 qh qh2

def vX8_isUndone (P : Sk) (f : St) (a : Nat) (p1 : Int32) (K : Int32 → St → Prop) : Prop :=
  vp_in p1 50 ∧ (vp_in (p1 + 1) 50 ∧ ((¬ (f (a + 5) p1.toNatClampNeg) / 2 = (f (a + 5) (p1 + 1).toNatClampNeg) / 2 → K 0 f) ∧ ((f (a + 5) p1.toNatClampNeg) / 2 = (f (a + 5) (p1 + 1).toNatClampNeg) / 2 → vp_in p1 50 ∧ (vp_in (p1 + 1) 50 ∧ ((f (a + 5) p1.toNatClampNeg = f (a + 5) (p1 + 1).toNatClampNeg → K 0 f) ∧ (¬ f (a + 5) p1.toNatClampNeg = f (a + 5) (p1 + 1).toNatClampNeg → K 1 f))))))
set_option maxRecDepth 20000 in
set_option maxHeartbeats 4000000 in
theorem mX8_isUndone (l : Launch) (G : Gl) (P : Sk) (f : St) (sz : Nat) (a : Nat) (ha : IsModel P a) (p1 : Int32) (K : Int32 → St → Prop) (h : vX8_isUndone P f a p1 K)  :
  Met l yX8_isUndone (wU yX8_isUndone cX8_isUndone 2 (some .boolean)) rmX8_isUndone (PcW G P f sz [.ref a, .int p1]) (QcI G P sz K) 0 0 (frA P sz) := by
  refine v_met (own := RX8) [.ref a, .int p1] (by decide +kernel) rfl (Nat.le_of_ble_eq_true rfl) (fun p e s m args below meth c hsz o hr hnm => ?_)
  refine v_lv (lv2 := [(0, .ref a), (1, .int p1)]) rfl ?_
  unfold vX8_isUndone at h
  refine v_aload_n o 0 dX8_isUndone_0 rfl ?_
  refine v_gfR o lkX8_22 (by decide) (wfModel_o ha) (wfModel_r8 ha) dX8_isUndone_1 ?_
  refine v_iload_n o 1 dX8_isUndone_4 rfl ?_
  refine v_iald o (wfModel_t8 ha) (wfModel_n8 ha) h.1 dX8_isUndone_5 ?_
  replace h := h.2
  refine v_iconst o (v := 2) dX8_isUndone_6 (by decide) ?_
  refine v_idiv o dX8_isUndone_7 (by decide) ?_
  refine v_aload_n o 0 dX8_isUndone_8 rfl ?_
  refine v_gfR o lkX8_22 (by decide) (wfModel_o ha) (wfModel_r8 ha) dX8_isUndone_9 ?_
  refine v_iload_n o 1 dX8_isUndone_12 rfl ?_
  refine v_iconst o (v := 1) dX8_isUndone_13 (by decide) ?_
  refine v_iadd o dX8_isUndone_14 ?_
  refine v_iald o (wfModel_t8 ha) (wfModel_n8 ha) h.1 dX8_isUndone_15 ?_
  replace h := h.2
  refine v_iconst o (v := 2) dX8_isUndone_16 (by decide) ?_
  refine v_idiv o dX8_isUndone_17 (by decide) ?_
  refine v_icmp_ne o (tgt := 42) dX8_isUndone_18 (by decide) (fun c18 => ?_) (fun c18 => ?_)
  · replace h := h.1 c18
    refine v_iconst o (v := 0) dX8_isUndone_42 (by decide) ?_
    exact v_zret o rfl hr bz0.1 dX8_isUndone_43 h
  · replace h := h.2 c18
    refine v_aload_n o 0 dX8_isUndone_21 rfl ?_
    refine v_gfR o lkX8_22 (by decide) (wfModel_o ha) (wfModel_r8 ha) dX8_isUndone_22 ?_
    refine v_iload_n o 1 dX8_isUndone_25 rfl ?_
    refine v_iald o (wfModel_t8 ha) (wfModel_n8 ha) h.1 dX8_isUndone_26 ?_
    replace h := h.2
    refine v_aload_n o 0 dX8_isUndone_27 rfl ?_
    refine v_gfR o lkX8_22 (by decide) (wfModel_o ha) (wfModel_r8 ha) dX8_isUndone_28 ?_
    refine v_iload_n o 1 dX8_isUndone_31 rfl ?_
    refine v_iconst o (v := 1) dX8_isUndone_32 (by decide) ?_
    refine v_iadd o dX8_isUndone_33 ?_
    refine v_iald o (wfModel_t8 ha) (wfModel_n8 ha) h.1 dX8_isUndone_34 ?_
    replace h := h.2
    refine v_icmp_eq o (tgt := 42) dX8_isUndone_35 (by decide) (fun c35 => ?_) (fun c35 => ?_)
    · replace h := h.1 c35
      refine v_iconst o (v := 0) dX8_isUndone_42 (by decide) ?_
      exact v_zret o rfl hr bz0.1 dX8_isUndone_43 h
    · replace h := h.2 c35
      refine v_iconst o (v := 1) dX8_isUndone_38 (by decide) ?_
      refine v_goto o (tgt := 43) dX8_isUndone_39 (by decide) ?_
      exact v_zret o rfl hr bz1.1 dX8_isUndone_43 h
abbrev kX8_isUndone := @vX8_isUndone
abbrev metX8_isUndone := @mX8_isUndone
theorem u8_isUndone {P : Sk} {f : St} {a k : Nat} {w : List Nat} {K : Int32 → St → Prop} (hw : MW f a w) (hc : Cok w) (hk : k + 1 < w.length) (hK1 : w.getD (k + 1) 0 = fl (w.getD k 0) → K 1 f) (hK0 : ¬ w.getD (k + 1) 0 = fl (w.getD k 0) → K 0 f) : kX8_isUndone P f a (nI k) K := by
  show vX8_isUndone P f a (nI k) K
  unfold vX8_isUndone
  have hl := hc.1
  have h1 := hc.at (i := k) (by omega)
  have h2 := hc.at hk
  have i1 : vp_in (nI k) 50 := vp_nI (by omega) (by decide)
  have i2 : vp_in (nI (k + 1)) 50 := vp_nI (by omega) (by decide)
  rw [nI_1, nI_clamp (by omega), nI_clamp (by omega), hw.2 k (by omega), hw.2 (k + 1) hk, show (2 : Int32) = nI 2 from rfl, pk_div (by omega) (by decide) (by decide), pk_div (by omega) (by decide) (by decide), nI_eq (by omega) (by omega), nI_eq (by omega) (by omega)]
  rw [fl_iff] at hK1 hK0
  exact ⟨i1, i2, fun q => hK0 (fun h => q h.1), fun q => ⟨i1, i2, fun q2 => hK0 (fun h => h.2 q2), fun q2 => hK1 ⟨q, q2⟩⟩⟩

def bX8_firstUndone_2 (P : Sk) (a : Nat) (L2 : St → Int32 → Prop) (K : Int32 → St → Prop) (f : St) (x1 : Int32) : Prop :=
  (f a 9 ≤ x1 + 1 → K (-1) f) ∧ (¬ f a 9 ≤ x1 + 1 → kX8_isUndone P f a x1 (fun r14 g14 => (r14 = 0 → ∀ x1_22 : Int32, x1_22 = x1 + 1 → L2 g14 x1_22) ∧ (¬ r14 = 0 → K x1 g14)))
def vX8_firstUndone (P : Sk) (f : St) (a : Nat) (L2 : St → Int32 → Prop) (K : Int32 → St → Prop) : Prop :=
  L2 f 0
set_option maxRecDepth 20000 in
set_option maxHeartbeats 4000000 in
theorem mX8_firstUndone (l : Launch) (G : Gl) (P : Sk) (f : St) (sz : Nat) (a : Nat) (ha : IsModel P a) (K : Int32 → St → Prop) (I2 : St → Int32 → Prop) (μ2 : St → Int32 → Nat) 
  (h : vX8_firstUndone P f a I2 K)
  (h2 : ∀ (g : St) (x1 : Int32) , I2 g x1 → bX8_firstUndone_2 P a (fun g' z0 => I2 g' z0 ∧ μ2 g' z0 < μ2 g x1) K g x1) :
  Met l yX8_firstUndone (wU yX8_firstUndone cX8_firstUndone 2 (some .int)) rmX8_firstUndone (PcW G P f sz [.ref a]) (QcI G P sz K) 0 0 (frA P sz) := by
  refine v_met (own := RX8) [.ref a] (by decide +kernel) rfl (Nat.le_of_ble_eq_true rfl) (fun p e s m args below meth c hsz o hr hnm => ?_)
  refine v_lv (lv2 := [(0, .ref a)]) rfl ?_
  have main : ∀ n : Nat, (∀ (g : St) (x1 : Int32) , I2 g x1 → μ2 g x1 < n → V p l e rmX8_firstUndone s m args below meth c 2 G (frA P sz) (MQ below (QcI G P sz K) args s 0 0 (frA P sz)) 0 0 P [(0, .ref a), (1, .int x1)] [] 2 g) := by
    intro n
    induction n with
    | zero => exact fun g x1 hI hm => absurd hm (Nat.not_lt_zero _)
    | succ n ih =>
      intro g x1 hI hm
      have h := h2 g x1 hI
      clear hI
      unfold bX8_firstUndone_2 at h
      refine v_iload_n o 1 dX8_firstUndone_2 rfl ?_
      refine v_iconst o (v := 1) dX8_firstUndone_3 (by decide) ?_
      refine v_iadd o dX8_firstUndone_4 ?_
      refine v_aload_n o 0 dX8_firstUndone_5 rfl ?_
      refine v_gfI o lkX8_58 (by decide) (wfModel_o ha) dX8_firstUndone_6 ?_
      refine v_icmp_ge o (tgt := 28) dX8_firstUndone_9 (by decide) (fun c9 => ?_) (fun c9 => ?_)
      · replace h := h.1 c9
        refine v_iconst o (v := (-1)) dX8_firstUndone_28 (by decide) ?_
        exact v_iret o rfl hr dX8_firstUndone_29 h
      · replace h := h.2 c9
        refine v_aload_n o 0 dX8_firstUndone_12 rfl ?_
        refine v_iload_n o 1 dX8_firstUndone_13 rfl ?_
        refine v_cVi o [.int x1] [] (fun sz => metX8_isUndone l G P g sz a ha x1 _ h) (cwX8_68 o.1.2.2.2.2 (by decide)) ⟨_, _, rfl⟩ (by decide) (wfModel_o ha) rfl (Nat.le_of_ble_eq_true rfl) ⟨Nat.le_of_ble_eq_true rfl, Nat.le_of_ble_eq_true rfl⟩ dX8_firstUndone_14 rfl (fun r14 g14 h => ?_)
        refine v_if_eq o (tgt := 22) dX8_firstUndone_17 (by decide) (fun c17 => ?_) (fun c17 => ?_)
        · replace h := h.1 c17
          obtain ⟨x1_22, ex1_22⟩ : ∃ y : Int32, y = x1 + 1 := ⟨_, rfl⟩
          replace h := h x1_22 ex1_22
          refine v_iinc o (v := x1_22) (lv' := [(1, .int x1_22), (0, .ref a)]) 1 dX8_firstUndone_22 rfl (by rw [ex1_22]; rfl) (by decide) rfl ?_
          refine v_goto o (tgt := 2) dX8_firstUndone_25 (by decide) ?_
          refine v_sub [1, 0] (lv2 := [(0, .ref a), (1, .int x1_22)]) rfl ?_
          exact ih g14 x1_22  h.1 (by have := h.2; omega)
        · replace h := h.2 c17
          refine v_iload_n o 1 dX8_firstUndone_20 rfl ?_
          exact v_iret o rfl hr dX8_firstUndone_21 h
  unfold vX8_firstUndone at h
  refine v_iconst o (v := 0) dX8_firstUndone_0 (by decide) ?_
  refine v_istore_n o (lv' := [(1, .int 0), (0, .ref a)]) dX8_firstUndone_1 rfl (by decide) rfl ?_
  refine v_sub [1, 0] (lv2 := [(0, .ref a), (1, .int 0)]) rfl ?_
  exact (main (μ2 f 0 + 1)) f 0  h (Nat.lt_succ_self _)
def WX8_firstUndone (P : Sk) (f : St) (a : Nat) (K : Int32 → St → Prop) : Prop := ∃ (I2 : St → Int32 → Prop) (μ2 : St → Int32 → Nat), (vX8_firstUndone P f a I2 K) ∧ (∀ (g : St) (x1 : Int32) , I2 g x1 → bX8_firstUndone_2 P a (fun g' z0 => I2 g' z0 ∧ μ2 g' z0 < μ2 g x1) K g x1)
def kX8_firstUndone (P : Sk) (f : St) (a : Nat) (K : Int32 → St → Prop) : Prop := ∃ w, MW f a w ∧ Cok w ∧ (∀ i, i + 1 < w.length → w.getD (i + 1) 0 = fl (w.getD i 0) → K (nI i) f) ∧ (StillS w → K (-1) f)
theorem wX8_firstUndone (P : Sk) (f : St) (a : Nat) (ha : IsModel P a) (K : Int32 → St → Prop) (h : kX8_firstUndone P f a K) : WX8_firstUndone P f a K := by
  obtain ⟨w, hw, hc, hK1, hK2⟩ := h
  have hl := hc.1
  refine ⟨fun g x => ∃ k, x = nI k ∧ g = f ∧ k ≤ w.length ∧ ∀ j, j < k → j + 1 < w.length → ¬ (w.getD (j + 1) 0 = fl (w.getD j 0)), fun g x => w.length - x.toNatClampNeg, ?_, ?_⟩
  · unfold vX8_firstUndone
    exact ⟨0, rfl, rfl, Nat.zero_le _, fun j hj => absurd hj (Nat.not_lt_zero _)⟩
  · rintro g x ⟨k, rfl, rfl, hk, hA⟩
    unfold bX8_firstUndone_2
    rw [hw.1, nI_1, nI_leI (by omega) (by omega)]
    refine ⟨fun q => hK2 (fun i hi => hA i (by omega) hi), fun q => ?_⟩
    refine u8_isUndone hw hc (by omega) (fun h => ⟨fun q2 => absurd q2 (by decide), fun _ => hK1 k (by omega) h⟩) (fun h => ⟨fun _ x e => ⟨⟨k + 1, e, rfl, by omega, fun j hj hj2 => ?_⟩, mu_up e (by omega) (by omega)⟩, fun q2 => absurd rfl q2⟩)
    by_cases c : j = k
    · rw [c]
      exact h
    · exact hA j (by omega) hj2

theorem metX8_firstUndone (l : Launch) (G : Gl) (P : Sk) (f : St) (sz : Nat) (a : Nat) (ha : IsModel P a) (K : Int32 → St → Prop) (h : kX8_firstUndone P f a K) : Met l yX8_firstUndone (wU yX8_firstUndone cX8_firstUndone 2 (some .int)) rmX8_firstUndone (PcW G P f sz [.ref a]) (QcI G P sz K) 0 0 (frA P sz) := by
  obtain ⟨I2, μ2, qh, qh2⟩ := wX8_firstUndone P f a ha K h
  exact mX8_firstUndone l G P f sz a ha K I2 μ2 qh qh2

def bX8_firstFar_2 (P : Sk) (a : Nat) (L2 : St → Int32 → Prop) (K : Int32 → St → Prop) (f : St) (x1 : Int32) : Prop :=
  (f a 9 ≤ x1 + 1 → K (-1) f) ∧ (¬ f a 9 ≤ x1 + 1 → vp_in x1 50 ∧ (vp_in (x1 + 1) 50 ∧ (((f (a + 5) x1.toNatClampNeg) / 2 < ((f (a + 5) (x1 + 1).toNatClampNeg) / 2) + 2 → ∀ x1_37 : Int32, x1_37 = x1 + 1 → L2 f x1_37) ∧ (¬ (f (a + 5) x1.toNatClampNeg) / 2 < ((f (a + 5) (x1 + 1).toNatClampNeg) / 2) + 2 → K x1 f))))
def vX8_firstFar (P : Sk) (f : St) (a : Nat) (L2 : St → Int32 → Prop) (K : Int32 → St → Prop) : Prop :=
  L2 f 0
set_option maxRecDepth 20000 in
set_option maxHeartbeats 4000000 in
theorem mX8_firstFar (l : Launch) (G : Gl) (P : Sk) (f : St) (sz : Nat) (a : Nat) (ha : IsModel P a) (K : Int32 → St → Prop) (I2 : St → Int32 → Prop) (μ2 : St → Int32 → Nat) 
  (h : vX8_firstFar P f a I2 K)
  (h2 : ∀ (g : St) (x1 : Int32) , I2 g x1 → bX8_firstFar_2 P a (fun g' z0 => I2 g' z0 ∧ μ2 g' z0 < μ2 g x1) K g x1) :
  Met l yX8_firstFar (wU yX8_firstFar cX8_firstFar 2 (some .int)) rmX8_firstFar (PcW G P f sz [.ref a]) (QcI G P sz K) 0 0 (frA P sz) := by
  refine v_met (own := RX8) [.ref a] (by decide +kernel) rfl (Nat.le_of_ble_eq_true rfl) (fun p e s m args below meth c hsz o hr hnm => ?_)
  refine v_lv (lv2 := [(0, .ref a)]) rfl ?_
  have main : ∀ n : Nat, (∀ (g : St) (x1 : Int32) , I2 g x1 → μ2 g x1 < n → V p l e rmX8_firstFar s m args below meth c 2 G (frA P sz) (MQ below (QcI G P sz K) args s 0 0 (frA P sz)) 0 0 P [(0, .ref a), (1, .int x1)] [] 2 g) := by
    intro n
    induction n with
    | zero => exact fun g x1 hI hm => absurd hm (Nat.not_lt_zero _)
    | succ n ih =>
      intro g x1 hI hm
      have h := h2 g x1 hI
      clear hI
      unfold bX8_firstFar_2 at h
      refine v_iload_n o 1 dX8_firstFar_2 rfl ?_
      refine v_iconst o (v := 1) dX8_firstFar_3 (by decide) ?_
      refine v_iadd o dX8_firstFar_4 ?_
      refine v_aload_n o 0 dX8_firstFar_5 rfl ?_
      refine v_gfI o lkX8_58 (by decide) (wfModel_o ha) dX8_firstFar_6 ?_
      refine v_icmp_ge o (tgt := 43) dX8_firstFar_9 (by decide) (fun c9 => ?_) (fun c9 => ?_)
      · replace h := h.1 c9
        refine v_iconst o (v := (-1)) dX8_firstFar_43 (by decide) ?_
        exact v_iret o rfl hr dX8_firstFar_44 h
      · replace h := h.2 c9
        refine v_aload_n o 0 dX8_firstFar_12 rfl ?_
        refine v_gfR o lkX8_22 (by decide) (wfModel_o ha) (wfModel_r8 ha) dX8_firstFar_13 ?_
        refine v_iload_n o 1 dX8_firstFar_16 rfl ?_
        refine v_iald o (wfModel_t8 ha) (wfModel_n8 ha) h.1 dX8_firstFar_17 ?_
        replace h := h.2
        refine v_iconst o (v := 2) dX8_firstFar_18 (by decide) ?_
        refine v_idiv o dX8_firstFar_19 (by decide) ?_
        refine v_aload_n o 0 dX8_firstFar_20 rfl ?_
        refine v_gfR o lkX8_22 (by decide) (wfModel_o ha) (wfModel_r8 ha) dX8_firstFar_21 ?_
        refine v_iload_n o 1 dX8_firstFar_24 rfl ?_
        refine v_iconst o (v := 1) dX8_firstFar_25 (by decide) ?_
        refine v_iadd o dX8_firstFar_26 ?_
        refine v_iald o (wfModel_t8 ha) (wfModel_n8 ha) h.1 dX8_firstFar_27 ?_
        replace h := h.2
        refine v_iconst o (v := 2) dX8_firstFar_28 (by decide) ?_
        refine v_idiv o dX8_firstFar_29 (by decide) ?_
        refine v_iconst o (v := 2) dX8_firstFar_30 (by decide) ?_
        refine v_iadd o dX8_firstFar_31 ?_
        refine v_icmp_lt o (tgt := 37) dX8_firstFar_32 (by decide) (fun c32 => ?_) (fun c32 => ?_)
        · replace h := h.1 c32
          obtain ⟨x1_37, ex1_37⟩ : ∃ y : Int32, y = x1 + 1 := ⟨_, rfl⟩
          replace h := h x1_37 ex1_37
          refine v_iinc o (v := x1_37) (lv' := [(1, .int x1_37), (0, .ref a)]) 1 dX8_firstFar_37 rfl (by rw [ex1_37]; rfl) (by decide) rfl ?_
          refine v_goto o (tgt := 2) dX8_firstFar_40 (by decide) ?_
          refine v_sub [1, 0] (lv2 := [(0, .ref a), (1, .int x1_37)]) rfl ?_
          exact ih g x1_37  h.1 (by have := h.2; omega)
        · replace h := h.2 c32
          refine v_iload_n o 1 dX8_firstFar_35 rfl ?_
          exact v_iret o rfl hr dX8_firstFar_36 h
  unfold vX8_firstFar at h
  refine v_iconst o (v := 0) dX8_firstFar_0 (by decide) ?_
  refine v_istore_n o (lv' := [(1, .int 0), (0, .ref a)]) dX8_firstFar_1 rfl (by decide) rfl ?_
  refine v_sub [1, 0] (lv2 := [(0, .ref a), (1, .int 0)]) rfl ?_
  exact (main (μ2 f 0 + 1)) f 0  h (Nat.lt_succ_self _)
def WX8_firstFar (P : Sk) (f : St) (a : Nat) (K : Int32 → St → Prop) : Prop := ∃ (I2 : St → Int32 → Prop) (μ2 : St → Int32 → Nat), (vX8_firstFar P f a I2 K) ∧ (∀ (g : St) (x1 : Int32) , I2 g x1 → bX8_firstFar_2 P a (fun g' z0 => I2 g' z0 ∧ μ2 g' z0 < μ2 g x1) K g x1)
def kX8_firstFar (P : Sk) (f : St) (a : Nat) (K : Int32 → St → Prop) : Prop := ∃ w, MW f a w ∧ Cok w ∧ (∀ i, i + 1 < w.length → w.getD (i + 1) 0 / 2 + 2 ≤ w.getD i 0 / 2 → K (nI i) f) ∧ ((∀ i, i + 1 < w.length → ¬ (w.getD (i + 1) 0 / 2 + 2 ≤ w.getD i 0 / 2)) → K (-1) f)
theorem wX8_firstFar (P : Sk) (f : St) (a : Nat) (ha : IsModel P a) (K : Int32 → St → Prop) (h : kX8_firstFar P f a K) : WX8_firstFar P f a K := by
  obtain ⟨w, hw, hc, hK1, hK2⟩ := h
  have hl := hc.1
  refine ⟨fun g x => ∃ k, x = nI k ∧ g = f ∧ k ≤ w.length ∧ ∀ j, j < k → j + 1 < w.length → ¬ (w.getD (j + 1) 0 / 2 + 2 ≤ w.getD j 0 / 2), fun g x => w.length - x.toNatClampNeg, ?_, ?_⟩
  · unfold vX8_firstFar
    exact ⟨0, rfl, rfl, Nat.zero_le _, fun j hj => absurd hj (Nat.not_lt_zero _)⟩
  · rintro g x ⟨k, rfl, rfl, hk, hA⟩
    unfold bX8_firstFar_2
    rw [hw.1, nI_1, nI_leI (by omega) (by omega)]
    refine ⟨fun q => hK2 (fun i hi => hA i (by omega) hi), fun q => ?_⟩
    have h1 := hc.at (i := k) (by omega)
    have h2 := hc.at (i := k + 1) (by omega)
    rw [nI_clamp (by omega), nI_clamp (by omega), hw.2 k (by omega), hw.2 (k + 1) (by omega), show (2 : Int32) = nI 2 from rfl, pk_div (by omega) (by decide) (by decide), pk_div (by omega) (by decide) (by decide), nI_add, nI_ltI (by omega) (by omega)]
    refine ⟨vp_nI (by omega) (by decide), vp_nI (by omega) (by decide), fun q2 x e => ⟨⟨k + 1, e, rfl, by omega, fun j hj hj2 => ?_⟩, mu_up e (by omega) (by omega)⟩, fun q2 => hK1 k (by omega) (by omega)⟩
    by_cases c : j = k
    · rw [c]
      omega
    · exact hA j (by omega) hj2

theorem metX8_firstFar (l : Launch) (G : Gl) (P : Sk) (f : St) (sz : Nat) (a : Nat) (ha : IsModel P a) (K : Int32 → St → Prop) (h : kX8_firstFar P f a K) : Met l yX8_firstFar (wU yX8_firstFar cX8_firstFar 2 (some .int)) rmX8_firstFar (PcW G P f sz [.ref a]) (QcI G P sz K) 0 0 (frA P sz) := by
  obtain ⟨I2, μ2, qh, qh2⟩ := wX8_firstFar P f a ha K h
  exact mX8_firstFar l G P f sz a ha K I2 μ2 qh qh2

def bX8_takesOut_12 (P : Sk) (a : Nat) (p1 : Int32) (L12 : St → Int32 → Prop) (K : St → Prop) (f : St) (x2 : Int32) : Prop :=
  (f a 9 ≤ x2 → K f) ∧ (¬ f a 9 ≤ x2 → vp_in (x2 + 2) 50 ∧ (vp_in x2 50 ∧ (∀ g33 : St, g33 = setf f (a + 5) x2.toNatClampNeg (f (a + 5) (x2 + 2).toNatClampNeg) → ∀ x2_34 : Int32, x2_34 = x2 + 1 → L12 g33 x2_34)))
def vX8_takesOut (P : Sk) (f : St) (a : Nat) (p1 : Int32) (L12 : St → Int32 → Prop) (K : St → Prop) : Prop :=
  ∀ g7 : St, g7 = setf f a 9 ((f a 9) - 2) → L12 g7 p1
set_option maxRecDepth 20000 in
set_option maxHeartbeats 4000000 in
theorem mX8_takesOut (l : Launch) (G : Gl) (P : Sk) (f : St) (sz : Nat) (a : Nat) (ha : IsModel P a) (p1 : Int32) (K : St → Prop) (I12 : St → Int32 → Prop) (μ12 : St → Int32 → Nat) 
  (h : vX8_takesOut P f a p1 I12 K)
  (h12 : ∀ (g : St) (x2 : Int32) , I12 g x2 → bX8_takesOut_12 P a p1 (fun g' z0 => I12 g' z0 ∧ μ12 g' z0 < μ12 g x2) K g x2) :
  Met l yX8_takesOut (wU yX8_takesOut cX8_takesOut 3 none) rmX8_takesOut (PcW G P f sz [.ref a, .int p1]) (QcV G P sz K) 0 0 (frA P sz) := by
  refine v_met (own := RX8) [.ref a, .int p1] (by decide +kernel) rfl (Nat.le_of_ble_eq_true rfl) (fun p e s m args below meth c hsz o hr hnm => ?_)
  refine v_lv (lv2 := [(0, .ref a), (1, .int p1)]) rfl ?_
  have main : ∀ n : Nat, (∀ (g : St) (x2 : Int32) , I12 g x2 → μ12 g x2 < n → V p l e rmX8_takesOut s m args below meth c 3 G (frA P sz) (MQ below (QcV G P sz K) args s 0 0 (frA P sz)) 0 0 P [(0, .ref a), (1, .int p1), (2, .int x2)] [] 12 g) := by
    intro n
    induction n with
    | zero => exact fun g x2 hI hm => absurd hm (Nat.not_lt_zero _)
    | succ n ih =>
      intro g x2 hI hm
      have h := h12 g x2 hI
      clear hI
      unfold bX8_takesOut_12 at h
      refine v_iload_n o 2 dX8_takesOut_12 rfl ?_
      refine v_aload_n o 0 dX8_takesOut_13 rfl ?_
      refine v_gfI o lkX8_58 (by decide) (wfModel_o ha) dX8_takesOut_14 ?_
      refine v_icmp_ge o (tgt := 40) dX8_takesOut_17 (by decide) (fun c17 => ?_) (fun c17 => ?_)
      · replace h := h.1 c17
        exact v_vret o rfl hr dX8_takesOut_40 h
      · replace h := h.2 c17
        refine v_aload_n o 0 dX8_takesOut_20 rfl ?_
        refine v_gfR o lkX8_22 (by decide) (wfModel_o ha) (wfModel_r8 ha) dX8_takesOut_21 ?_
        refine v_iload_n o 2 dX8_takesOut_24 rfl ?_
        refine v_aload_n o 0 dX8_takesOut_25 rfl ?_
        refine v_gfR o lkX8_22 (by decide) (wfModel_o ha) (wfModel_r8 ha) dX8_takesOut_26 ?_
        refine v_iload_n o 2 dX8_takesOut_29 rfl ?_
        refine v_iconst o (v := 2) dX8_takesOut_30 (by decide) ?_
        refine v_iadd o dX8_takesOut_31 ?_
        refine v_iald o (wfModel_t8 ha) (wfModel_n8 ha) h.1 dX8_takesOut_32 ?_
        replace h := h.2
        refine v_iast o (wfModel_t8 ha) (wfModel_n8 ha) h.1 dX8_takesOut_33 ?_
        replace h := h.2
        refine v_nmf (fun g33 eg33 => ?_)
        replace h := h g33 eg33
        obtain ⟨x2_34, ex2_34⟩ : ∃ y : Int32, y = x2 + 1 := ⟨_, rfl⟩
        replace h := h x2_34 ex2_34
        refine v_iinc o (v := x2_34) (lv' := [(2, .int x2_34), (0, .ref a), (1, .int p1)]) 2 dX8_takesOut_34 rfl (by rw [ex2_34]; rfl) (by decide) rfl ?_
        refine v_goto o (tgt := 12) dX8_takesOut_37 (by decide) ?_
        refine v_sub [1, 2, 0] (lv2 := [(0, .ref a), (1, .int p1), (2, .int x2_34)]) rfl ?_
        exact ih g33 x2_34  h.1 (by have := h.2; omega)
  unfold vX8_takesOut at h
  refine v_aload_n o 0 dX8_takesOut_0 rfl ?_
  refine v_dup o dX8_takesOut_1 rfl ?_
  refine v_gfI o lkX8_58 (by decide) (wfModel_o ha) dX8_takesOut_2 ?_
  refine v_iconst o (v := 2) dX8_takesOut_5 (by decide) ?_
  refine v_isub o dX8_takesOut_6 ?_
  refine v_pf o lpX8_58 (wfModel_o ha) ⟨rfl, rfl⟩ dX8_takesOut_7 ?_
  refine v_nmf (fun g7 eg7 => ?_)
  replace h := h g7 eg7
  refine v_iload_n o 1 dX8_takesOut_10 rfl ?_
  refine v_istore_n o (lv' := [(2, .int p1), (0, .ref a), (1, .int p1)]) dX8_takesOut_11 rfl (by decide) rfl ?_
  refine v_sub [1, 2, 0] (lv2 := [(0, .ref a), (1, .int p1), (2, .int p1)]) rfl ?_
  exact (main (μ12 g7 p1 + 1)) g7 p1  h (Nat.lt_succ_self _)
def WX8_takesOut (P : Sk) (f : St) (a : Nat) (p1 : Int32) (K : St → Prop) : Prop := ∃ (I12 : St → Int32 → Prop) (μ12 : St → Int32 → Nat), (vX8_takesOut P f a p1 I12 K) ∧ (∀ (g : St) (x2 : Int32) , I12 g x2 → bX8_takesOut_12 P a p1 (fun g' z0 => I12 g' z0 ∧ μ12 g' z0 < μ12 g x2) K g x2)
def kX8_takesOut (P : Sk) (f : St) (a : Nat) (p1 : Int32) (K : St → Prop) : Prop := ∃ w k, p1 = nI k ∧ k + 1 < w.length ∧ MW f a w ∧ Cok w ∧ ∀ g, MF f g a (fun i => i = 5) (fun j => j = 9) → MW g a (del (del w (k + 1)) k) → K g
theorem wX8_takesOut (P : Sk) (f : St) (a : Nat) (ha : IsModel P a) (p1 : Int32) (K : St → Prop) (h : kX8_takesOut P f a p1 K) : WX8_takesOut P f a p1 K := by
  obtain ⟨w, i, rfl, hi, hw, hc, hK⟩ := h
  have hl := hc.1
  have l1 := del_len w (i + 1) hi
  have l2 := del_len (del w (i + 1)) i (by omega)
  have at2 : ∀ j, (del (del w (i + 1)) i).getD j 0 = if j < i then w.getD j 0 else w.getD (j + 2) 0 := by
    intro j
    rw [del_at _ _ _ (by omega)]
    by_cases c : j < i
    · rw [if_pos c, if_pos c, del_at _ _ _ hi, if_pos (show j < i + 1 by omega)]
    · rw [if_neg c, if_neg c, del_at _ _ _ hi, if_neg (show ¬ j + 1 < i + 1 by omega)]
  refine ⟨fun g x => ∃ k, x = nI k ∧ i ≤ k ∧ k + 2 ≤ w.length ∧ MF f g a (fun i => i = 5) (fun j => j = 9) ∧ g a 9 = nI (w.length - 2) ∧ (∀ j, j < k → g (a + 5) j = nI ((del (del w (i + 1)) i).getD j 0)) ∧ (∀ j, k ≤ j → j < w.length → g (a + 5) j = nI (w.getD j 0)), fun g x => w.length - x.toNatClampNeg, ?_, ?_⟩
  · unfold vX8_takesOut
    intro g e
    refine ⟨i, rfl, Nat.le_refl _, by omega, ?_, ?_, fun j hj => ?_, fun j h1 h2 => ?_⟩
    · rw [e]
      exact mf_fld f rfl
    · rw [e, setf_same, hw.1, show (2 : Int32) = nI 2 from rfl, pk_sub (by omega)]
    · rw [e, setf_off (Or.inl (by omega)), at2, if_pos hj]
      exact hw.2 j (by omega)
    · rw [e, setf_off (Or.inl (by omega))]
      exact hw.2 j h2
  · rintro g x ⟨k, rfl, hik, hk, hfr, h9, hA, hB⟩
    unfold bX8_takesOut_12
    rw [h9, nI_leI (by omega) (by omega)]
    refine ⟨fun q => hK g hfr ⟨?_, fun j hj => hA j (by omega)⟩, fun q => ?_⟩
    · rw [h9, l2, l1]
      rfl
    · rw [show (2 : Int32) = nI 2 from rfl, nI_add, nI_1, nI_clamp (by omega), nI_clamp (by omega)]
      refine ⟨vp_nI (by omega) (by decide), vp_nI (by omega) (by decide), fun g2 e2 y e => ⟨⟨k + 1, e, by omega, by omega, ?_, ?_, fun j hj => ?_, fun j hj hj2 => ?_⟩, mu_up e (by omega) (by omega)⟩⟩
      · rw [e2]
        exact hfr.trans (mf_arr g rfl (by decide))
      · rw [e2, setf_off (Or.inl (by omega))]
        exact h9
      · rw [e2]
        by_cases c : j = k
        · rw [c, setf_same, at2, if_neg (show ¬ k < i by omega)]
          exact hB (k + 2) (by omega) (by omega)
        · rw [setf_off (Or.inr c)]
          exact hA j (by omega)
      · rw [e2, setf_off (Or.inr (by omega))]
        exact hB j (by omega) hj2

theorem metX8_takesOut (l : Launch) (G : Gl) (P : Sk) (f : St) (sz : Nat) (a : Nat) (ha : IsModel P a) (p1 : Int32) (K : St → Prop) (h : kX8_takesOut P f a p1 K) : Met l yX8_takesOut (wU yX8_takesOut cX8_takesOut 3 none) rmX8_takesOut (PcW G P f sz [.ref a, .int p1]) (QcV G P sz K) 0 0 (frA P sz) := by
  obtain ⟨I12, μ12, qh, qh12⟩ := wX8_takesOut P f a ha p1 K h
  exact mX8_takesOut l G P f sz a ha p1 K I12 μ12 qh qh12

def bX8_shortens_5 (P : Sk) (a : Nat) (L5 : St → Int32 → Prop) (K : St → Prop) (f : St) (x1 : Int32) : Prop :=
  (x1 = (-1) → K f) ∧ (¬ x1 = (-1) → kX8_takesOut P f a x1 (fun g12 => kX8_firstUndone P g12 a (fun r16 g16 => L5 g16 r16)))
def vX8_shortens (P : Sk) (f : St) (a : Nat) (L5 : St → Int32 → Prop) (K : St → Prop) : Prop :=
  kX8_firstUndone P f a (fun r1 g1 => L5 g1 r1)
set_option maxRecDepth 20000 in
set_option maxHeartbeats 4000000 in
theorem mX8_shortens (l : Launch) (G : Gl) (P : Sk) (f : St) (sz : Nat) (a : Nat) (ha : IsModel P a) (K : St → Prop) (I5 : St → Int32 → Prop) (μ5 : St → Int32 → Nat) 
  (h : vX8_shortens P f a I5 K)
  (h5 : ∀ (g : St) (x1 : Int32) , I5 g x1 → bX8_shortens_5 P a (fun g' z0 => I5 g' z0 ∧ μ5 g' z0 < μ5 g x1) K g x1) :
  Met l yX8_shortens (wU yX8_shortens cX8_shortens 2 none) rmX8_shortens (PcW G P f sz [.ref a]) (QcV G P sz K) 0 0 (frA P sz) := by
  refine v_met (own := RX8) [.ref a] (by decide +kernel) rfl (Nat.le_of_ble_eq_true rfl) (fun p e s m args below meth c hsz o hr hnm => ?_)
  refine v_lv (lv2 := [(0, .ref a)]) rfl ?_
  have main : ∀ n : Nat, (∀ (g : St) (x1 : Int32) , I5 g x1 → μ5 g x1 < n → V p l e rmX8_shortens s m args below meth c 2 G (frA P sz) (MQ below (QcV G P sz K) args s 0 0 (frA P sz)) 0 0 P [(0, .ref a), (1, .int x1)] [] 5 g) := by
    intro n
    induction n with
    | zero => exact fun g x1 hI hm => absurd hm (Nat.not_lt_zero _)
    | succ n ih =>
      intro g x1 hI hm
      have h := h5 g x1 hI
      clear hI
      unfold bX8_shortens_5 at h
      refine v_iload_n o 1 dX8_shortens_5 rfl ?_
      refine v_iconst o (v := (-1)) dX8_shortens_6 (by decide) ?_
      refine v_icmp_eq o (tgt := 23) dX8_shortens_7 (by decide) (fun c7 => ?_) (fun c7 => ?_)
      · replace h := h.1 c7
        exact v_vret o rfl hr dX8_shortens_23 h
      · replace h := h.2 c7
        refine v_aload_n o 0 dX8_shortens_10 rfl ?_
        refine v_iload_n o 1 dX8_shortens_11 rfl ?_
        refine v_cVv o [.int x1] [] (fun sz => metX8_takesOut l G P g sz a ha x1 _ h) (cwX8_79 o.1.2.2.2.2 (by decide)) ⟨_, _, rfl⟩ (by decide) (wfModel_o ha) rfl (Nat.le_of_ble_eq_true rfl) ⟨Nat.le_of_ble_eq_true rfl, Nat.le_of_ble_eq_true rfl⟩ dX8_shortens_12 rfl (fun g12 h => ?_)
        refine v_aload_n o 0 dX8_shortens_15 rfl ?_
        refine v_cVi o [] [] (fun sz => metX8_firstUndone l G P g12 sz a ha _ h) (cwX8_72 o.1.2.2.2.2 (by decide)) ⟨_, _, rfl⟩ (by decide) (wfModel_o ha) rfl (Nat.le_of_ble_eq_true rfl) ⟨Nat.le_of_ble_eq_true rfl, Nat.le_of_ble_eq_true rfl⟩ dX8_shortens_16 rfl (fun r16 g16 h => ?_)
        refine v_istore_n o (lv' := [(1, .int r16), (0, .ref a)]) dX8_shortens_19 rfl (by decide) rfl ?_
        refine v_goto o (tgt := 5) dX8_shortens_20 (by decide) ?_
        refine v_sub [1, 0] (lv2 := [(0, .ref a), (1, .int r16)]) rfl ?_
        exact ih g16 r16  h.1 (by have := h.2; omega)
  unfold vX8_shortens at h
  refine v_aload_n o 0 dX8_shortens_0 rfl ?_
  refine v_cVi o [] [] (fun sz => metX8_firstUndone l G P f sz a ha _ h) (cwX8_72 o.1.2.2.2.2 (by decide)) ⟨_, _, rfl⟩ (by decide) (wfModel_o ha) rfl (Nat.le_of_ble_eq_true rfl) ⟨Nat.le_of_ble_eq_true rfl, Nat.le_of_ble_eq_true rfl⟩ dX8_shortens_1 rfl (fun r1 g1 h => ?_)
  refine v_istore_n o (lv' := [(1, .int r1), (0, .ref a)]) dX8_shortens_4 rfl (by decide) rfl ?_
  refine v_sub [1, 0] (lv2 := [(0, .ref a), (1, .int r1)]) rfl ?_
  exact (main (μ5 g1 r1 + 1)) g1 r1  h (Nat.lt_succ_self _)
def WX8_shortens (P : Sk) (f : St) (a : Nat) (K : St → Prop) : Prop := ∃ (I5 : St → Int32 → Prop) (μ5 : St → Int32 → Nat), (vX8_shortens P f a I5 K) ∧ (∀ (g : St) (x1 : Int32) , I5 g x1 → bX8_shortens_5 P a (fun g' z0 => I5 g' z0 ∧ μ5 g' z0 < μ5 g x1) K g x1)
theorem Cok.del {w : List Nat} (h : Cok w) {i : Nat} (hi : i < w.length) : Cok (del w i) := ⟨by rw [del_len _ _ hi]; have := h.1; omega, fun c hc => h.2 c (del_mem _ _ _ hc)⟩
def kX8_shortens (P : Sk) (f : St) (a : Nat) (K : St → Prop) : Prop := ∃ w, MW f a w ∧ Cok w ∧ ∀ g, MF f g a (fun i => i = 5) (fun j => j = 9) → MW g a (SF w) → K g
def rdW (g : St) (a : Nat) : List Nat := (List.range (g a 9).toNatClampNeg).map (fun i => (g (a + 5) i).toNatClampNeg)
theorem rdW_eq {g : St} {a : Nat} {w : List Nat} (h : MW g a w) (hc : Cok w) : rdW g a = w := by
  have hl := hc.1
  unfold rdW
  rw [h.1, nI_clamp (by omega)]
  refine getD_ext _ _ (by rw [List.length_map, List.length_range]) (fun i hi => ?_)
  rw [List.length_map, List.length_range] at hi
  rw [List.getD_eq_getElem?_getD, List.getElem?_map, List.getElem?_range hi]
  show (g (a + 5) i).toNatClampNeg = _
  have := hc.at hi
  rw [h.2 i hi, nI_clamp (by omega)]
theorem mI_ne {i : Nat} (h : i < 50) : nI i ≠ (-1 : Int32) := by
  have : ∀ i : Nat, i < 50 → nI i ≠ (-1 : Int32) := by decide +kernel
  exact this i h
theorem wX8_shortens (P : Sk) (f : St) (a : Nat) (ha : IsModel P a) (K : St → Prop) (h : kX8_shortens P f a K) : WX8_shortens P f a K := by
  obtain ⟨w, hw, hc, hK⟩ := h
  refine ⟨fun g x => ∃ v, MF f g a (fun i => i = 5) (fun j => j = 9) ∧ MW g a v ∧ Cok v ∧ sfR v = sfR w ∧ ((x = -1 ∧ StillS v) ∨ ∃ i, x = nI i ∧ i + 1 < v.length ∧ v.getD (i + 1) 0 = fl (v.getD i 0)), fun g x => (g a 9).toNatClampNeg, ?_, ?_⟩
  · unfold vX8_shortens
    exact ⟨w, hw, hc, fun i hi e => ⟨w, MF.refl _ _ _ _, hw, hc, rfl, Or.inr ⟨i, rfl, hi, e⟩⟩, fun hs => ⟨w, MF.refl _ _ _ _, hw, hc, rfl, Or.inl ⟨rfl, hs⟩⟩⟩
  · rintro g x ⟨v, hfr, hg, hv, hs, hx⟩
    have hl := hv.1
    unfold bX8_shortens_5
    refine ⟨fun q => ?_, fun q => ?_⟩
    · rcases hx with hx | ⟨i, rfl, hi, -⟩
      · refine hK g hfr ?_
        have e := SF_still hx.2
        unfold SF at e ⊢
        rw [← hs, e]
        exact hg
      · exact absurd q (mI_ne (by omega))
    · rcases hx with hx | ⟨i, rfl, hi, he⟩
      · exact absurd hx.1 q
      · have hv1 := hv.del hi
        have l1 := del_len v (i + 1) hi
        have hi2 : i < (del v (i + 1)).length := by omega
        have hv2 := hv1.del hi2
        have l2 := del_len (del v (i + 1)) i hi2
        have hs2 := sf_del v i hi he
        have m : ∀ g2, MW g2 a (del (del v (i + 1)) i) → (g2 a 9).toNatClampNeg < (g a 9).toNatClampNeg := by
          intro g2 h2
          rw [h2.1, hg.1, nI_clamp (by omega), nI_clamp (by omega)]
          omega
        refine ⟨v, i, rfl, hi, hg, hv, fun g2 r2 w2 => ?_⟩
        exact ⟨_, w2, hv2, fun j hj e => ⟨⟨_, hfr.trans r2, w2, hv2, hs2.trans hs, Or.inr ⟨j, rfl, hj, e⟩⟩, m g2 w2⟩, fun hst => ⟨⟨_, hfr.trans r2, w2, hv2, hs2.trans hs, Or.inl ⟨rfl, hst⟩⟩, m g2 w2⟩⟩

theorem metX8_shortens (l : Launch) (G : Gl) (P : Sk) (f : St) (sz : Nat) (a : Nat) (ha : IsModel P a) (K : St → Prop) (h : kX8_shortens P f a K) : Met l yX8_shortens (wU yX8_shortens cX8_shortens 2 none) rmX8_shortens (PcW G P f sz [.ref a]) (QcV G P sz K) 0 0 (frA P sz) := by
  obtain ⟨I5, μ5, qh, qh5⟩ := wX8_shortens P f a ha K h
  exact mX8_shortens l G P f sz a ha K I5 μ5 qh qh5

def jX8_loosens_88 (P : Sk) (a : Nat) (L2 : St → Int32 → Prop) (K : St → Prop) (x1 : Int32) (x2 : Int32) (x3 : Int32) (f : St) : Prop :=
  L2 f x1
def jX8_loosens_51 (P : Sk) (a : Nat) (L2 : St → Int32 → Prop) (K : St → Prop) (x1 : Int32) (x2 : Int32) (x3 : Int32) (f : St) : Prop :=
  (x3 = (-1) → jX8_loosens_88 P a L2 K x1 x2 x3 f) ∧ (¬ x3 = (-1) → vp_in x3 50 ∧ (∀ x4_62 : Int32, x4_62 = f (a + 5) x3.toNatClampNeg → vp_in (x3 + 1) 50 ∧ (vp_in x3 50 ∧ (∀ g77 : St, g77 = setf f (a + 5) x3.toNatClampNeg (f (a + 5) (x3 + 1).toNatClampNeg) → vp_in (x3 + 1) 50 ∧ (∀ g87 : St, g87 = setf g77 (a + 5) (x3 + 1).toNatClampNeg x4_62 → jX8_loosens_88 P a L2 K x1 x2 x3 g87)))))
def jX8_loosens_40 (P : Sk) (a : Nat) (L2 : St → Int32 → Prop) (K : St → Prop) (x1 : Int32) (x2 : Int32) (x3 : Int32) (y0 : Int32) (f : St) : Prop :=
  (x2 = (-1) → jX8_loosens_51 P a L2 K y0 x2 x3 f) ∧ (¬ x2 = (-1) → kX8_takesOut P f a x2 (fun g48 => jX8_loosens_51 P a L2 K y0 x2 x3 g48))
def jX8_loosens_35 (P : Sk) (a : Nat) (L2 : St → Int32 → Prop) (K : St → Prop) (x1 : Int32) (x2 : Int32) (x3 : Int32) (f : St) : Prop :=
  jX8_loosens_40 P a L2 K x1 x2 x3 1 f
def jX8_loosens_24 (P : Sk) (a : Nat) (L2 : St → Int32 → Prop) (K : St → Prop) (x1 : Int32) (x2 : Int32) (y0 : Int32) (f : St) : Prop :=
  (¬ x2 = (-1) → jX8_loosens_35 P a L2 K x1 x2 y0 f) ∧ (x2 = (-1) → (y0 = (-1) → jX8_loosens_40 P a L2 K x1 x2 y0 0 f) ∧ (¬ y0 = (-1) → jX8_loosens_35 P a L2 K x1 x2 y0 f))
def bX8_loosens_2 (P : Sk) (a : Nat) (L2 : St → Int32 → Prop) (K : St → Prop) (f : St) (x1 : Int32) : Prop :=
  (x1 = 0 → K f) ∧ (¬ x1 = 0 → kX8_firstUndone P f a (fun r7 g7 => (¬ r7 = (-1) → jX8_loosens_24 P a L2 K x1 r7 (-1) g7) ∧ (r7 = (-1) → kX8_firstFar P g7 a (fun r17 g17 => jX8_loosens_24 P a L2 K x1 r7 r17 g17))))
def vX8_loosens (P : Sk) (f : St) (a : Nat) (L2 : St → Int32 → Prop) (K : St → Prop) : Prop :=
  L2 f 1
set_option maxRecDepth 20000 in
set_option maxHeartbeats 4000000 in
theorem mX8_loosens (l : Launch) (G : Gl) (P : Sk) (f : St) (sz : Nat) (a : Nat) (ha : IsModel P a) (K : St → Prop) (I2 : St → Int32 → Prop) (μ2 : St → Int32 → Nat) 
  (h : vX8_loosens P f a I2 K)
  (h2 : ∀ (g : St) (x1 : Int32) , I2 g x1 → bX8_loosens_2 P a (fun g' z0 => I2 g' z0 ∧ μ2 g' z0 < μ2 g x1) K g x1) :
  Met l yX8_loosens (wU yX8_loosens cX8_loosens 5 none) rmX8_loosens (PcW G P f sz [.ref a]) (QcV G P sz K) 0 0 (frA P sz) := by
  refine v_met (own := RX8) [.ref a] (by decide +kernel) rfl (Nat.le_of_ble_eq_true rfl) (fun p e s m args below meth c hsz o hr hnm => ?_)
  refine v_lv (lv2 := [(0, .ref a)]) rfl ?_
  have main : ∀ n : Nat, (∀ (g : St) (x1 : Int32) , I2 g x1 → μ2 g x1 < n → V p l e rmX8_loosens s m args below meth c 5 G (frA P sz) (MQ below (QcV G P sz K) args s 0 0 (frA P sz)) 0 0 P [(0, .ref a), (1, .int x1)] [] 2 g) := by
    intro n
    induction n with
    | zero => exact fun g x1 hI hm => absurd hm (Nat.not_lt_zero _)
    | succ n ih =>
      intro g x1 hI hm
      have h := h2 g x1 hI
      clear hI
      have J88 : ∀ (x1_88 : Int32) (x2_88 : Int32) (x3_88 : Int32) (g88 : St), jX8_loosens_88 P a (fun g' z0 => I2 g' z0 ∧ μ2 g' z0 < μ2 g x1) K x1_88 x2_88 x3_88 g88 → V p l e rmX8_loosens s m args below meth c 5 G (frA P sz) (MQ below (QcV G P sz K) args s 0 0 (frA P sz)) 0 0 P [(0, .ref a), (1, .int x1_88), (2, .int x2_88), (3, .int x3_88)] [] 88 g88 := by
        intro x1_88 x2_88 x3_88 g88  h
        unfold jX8_loosens_88 at h
        refine v_goto o (tgt := 2) dX8_loosens_88 (by decide) ?_
        refine v_sub [0, 1] (lv2 := [(0, .ref a), (1, .int x1_88)]) rfl ?_
        exact ih g88 x1_88  h.1 (by have := h.2; omega)
      have J51 : ∀ (x1_51 : Int32) (x2_51 : Int32) (x3_51 : Int32) (g51 : St), jX8_loosens_51 P a (fun g' z0 => I2 g' z0 ∧ μ2 g' z0 < μ2 g x1) K x1_51 x2_51 x3_51 g51 → V p l e rmX8_loosens s m args below meth c 5 G (frA P sz) (MQ below (QcV G P sz K) args s 0 0 (frA P sz)) 0 0 P [(0, .ref a), (1, .int x1_51), (2, .int x2_51), (3, .int x3_51)] [] 51 g51 := by
        intro x1_51 x2_51 x3_51 g51  h
        unfold jX8_loosens_51 at h
        refine v_iload_n o 3 dX8_loosens_51 rfl ?_
        refine v_iconst o (v := (-1)) dX8_loosens_52 (by decide) ?_
        refine v_icmp_eq o (tgt := 88) dX8_loosens_53 (by decide) (fun c53 => ?_) (fun c53 => ?_)
        · replace h := h.1 c53
          refine v_sub [0, 1, 2, 3] (lv2 := [(0, .ref a), (1, .int x1_51), (2, .int x2_51), (3, .int x3_51)]) rfl ?_
          exact J88 x1_51 x2_51 x3_51 g51  h
        · replace h := h.2 c53
          refine v_aload_n o 0 dX8_loosens_56 rfl ?_
          refine v_gfR o lkX8_22 (by decide) (wfModel_o ha) (wfModel_r8 ha) dX8_loosens_57 ?_
          refine v_iload_n o 3 dX8_loosens_60 rfl ?_
          refine v_iald o (wfModel_t8 ha) (wfModel_n8 ha) h.1 dX8_loosens_61 ?_
          replace h := h.2
          refine v_topi (fun x4_62 ex4_62 => ?_)
          replace h := h x4_62 ex4_62
          refine v_istore o (lv' := [(4, .int x4_62), (0, .ref a), (1, .int x1_51), (2, .int x2_51), (3, .int x3_51)]) dX8_loosens_62 (by decide) rfl ?_
          refine v_aload_n o 1 dX8_loosens_64 rfl ?_
          refine v_gfR o lkX8_22 (by decide) (wfModel_o ha) (wfModel_r8 ha) dX8_loosens_65 ?_
          refine v_iload_n o 4 dX8_loosens_68 rfl ?_
          refine v_aload_n o 1 dX8_loosens_69 rfl ?_
          refine v_gfR o lkX8_22 (by decide) (wfModel_o ha) (wfModel_r8 ha) dX8_loosens_70 ?_
          refine v_iload_n o 4 dX8_loosens_73 rfl ?_
          refine v_iconst o (v := 1) dX8_loosens_74 (by decide) ?_
          refine v_iadd o dX8_loosens_75 ?_
          refine v_iald o (wfModel_t8 ha) (wfModel_n8 ha) h.1 dX8_loosens_76 ?_
          replace h := h.2
          refine v_iast o (wfModel_t8 ha) (wfModel_n8 ha) h.1 dX8_loosens_77 ?_
          replace h := h.2
          refine v_nmf (fun g77 eg77 => ?_)
          replace h := h g77 eg77
          refine v_aload_n o 1 dX8_loosens_78 rfl ?_
          refine v_gfR o lkX8_22 (by decide) (wfModel_o ha) (wfModel_r8 ha) dX8_loosens_79 ?_
          refine v_iload_n o 4 dX8_loosens_82 rfl ?_
          refine v_iconst o (v := 1) dX8_loosens_83 (by decide) ?_
          refine v_iadd o dX8_loosens_84 ?_
          refine v_iload o 0 dX8_loosens_85 rfl ?_
          refine v_iast o (wfModel_t8 ha) (wfModel_n8 ha) h.1 dX8_loosens_87 ?_
          replace h := h.2
          refine v_nmf (fun g87 eg87 => ?_)
          replace h := h g87 eg87
          refine v_sub [1, 2, 3, 4] (lv2 := [(0, .ref a), (1, .int x1_51), (2, .int x2_51), (3, .int x3_51)]) rfl ?_
          exact J88 x1_51 x2_51 x3_51 g87  h
      have J40 : ∀ (x1_40 : Int32) (x2_40 : Int32) (x3_40 : Int32) (y0_40 : Int32) (g40 : St), jX8_loosens_40 P a (fun g' z0 => I2 g' z0 ∧ μ2 g' z0 < μ2 g x1) K x1_40 x2_40 x3_40 y0_40 g40 → V p l e rmX8_loosens s m args below meth c 5 G (frA P sz) (MQ below (QcV G P sz K) args s 0 0 (frA P sz)) 0 0 P [(0, .ref a), (1, .int x1_40), (2, .int x2_40), (3, .int x3_40)] [.int y0_40] 40 g40 := by
        intro x1_40 x2_40 x3_40 y0_40 g40  h
        unfold jX8_loosens_40 at h
        refine v_istore_n o (lv' := [(1, .int y0_40), (0, .ref a), (2, .int x2_40), (3, .int x3_40)]) dX8_loosens_40 rfl (by decide) rfl ?_
        refine v_iload_n o 2 dX8_loosens_41 rfl ?_
        refine v_iconst o (v := (-1)) dX8_loosens_42 (by decide) ?_
        refine v_icmp_eq o (tgt := 51) dX8_loosens_43 (by decide) (fun c43 => ?_) (fun c43 => ?_)
        · replace h := h.1 c43
          refine v_sub [1, 0, 2, 3] (lv2 := [(0, .ref a), (1, .int y0_40), (2, .int x2_40), (3, .int x3_40)]) rfl ?_
          exact J51 y0_40 x2_40 x3_40 g40  h
        · replace h := h.2 c43
          refine v_aload_n o 1 dX8_loosens_46 rfl ?_
          refine v_iload_n o 2 dX8_loosens_47 rfl ?_
          refine v_cVv o [.int x2_40] [] (fun sz => metX8_takesOut l G P g40 sz a ha x2_40 _ h) (cwX8_79 o.1.2.2.2.2 (by decide)) ⟨_, _, rfl⟩ (by decide) (wfModel_o ha) rfl (Nat.le_of_ble_eq_true rfl) ⟨Nat.le_of_ble_eq_true rfl, Nat.le_of_ble_eq_true rfl⟩ dX8_loosens_48 rfl (fun g48 h => ?_)
          refine v_sub [1, 0, 2, 3] (lv2 := [(0, .ref a), (1, .int y0_40), (2, .int x2_40), (3, .int x3_40)]) rfl ?_
          exact J51 y0_40 x2_40 x3_40 g48  h
      have J35 : ∀ (x1_35 : Int32) (x2_35 : Int32) (x3_35 : Int32) (g35 : St), jX8_loosens_35 P a (fun g' z0 => I2 g' z0 ∧ μ2 g' z0 < μ2 g x1) K x1_35 x2_35 x3_35 g35 → V p l e rmX8_loosens s m args below meth c 5 G (frA P sz) (MQ below (QcV G P sz K) args s 0 0 (frA P sz)) 0 0 P [(0, .ref a), (1, .int x1_35), (2, .int x2_35), (3, .int x3_35)] [] 35 g35 := by
        intro x1_35 x2_35 x3_35 g35  h
        unfold jX8_loosens_35 at h
        refine v_iconst o (v := 1) dX8_loosens_35 (by decide) ?_
        refine v_goto o (tgt := 40) dX8_loosens_36 (by decide) ?_
        refine v_sub [0, 1, 2, 3] (lv2 := [(0, .ref a), (1, .int x1_35), (2, .int x2_35), (3, .int x3_35)]) rfl ?_
        exact J40 x1_35 x2_35 x3_35 1 g35  h
      have J24 : ∀ (x1_24 : Int32) (x2_24 : Int32) (y0_24 : Int32) (g24 : St), jX8_loosens_24 P a (fun g' z0 => I2 g' z0 ∧ μ2 g' z0 < μ2 g x1) K x1_24 x2_24 y0_24 g24 → V p l e rmX8_loosens s m args below meth c 5 G (frA P sz) (MQ below (QcV G P sz K) args s 0 0 (frA P sz)) 0 0 P [(0, .ref a), (1, .int x1_24), (2, .int x2_24)] [.int y0_24] 24 g24 := by
        intro x1_24 x2_24 y0_24 g24  h
        unfold jX8_loosens_24 at h
        refine v_istore_n o (lv' := [(3, .int y0_24), (0, .ref a), (1, .int x1_24), (2, .int x2_24)]) dX8_loosens_24 rfl (by decide) rfl ?_
        refine v_iload_n o 3 dX8_loosens_25 rfl ?_
        refine v_iconst o (v := (-1)) dX8_loosens_26 (by decide) ?_
        refine v_icmp_ne o (tgt := 35) dX8_loosens_27 (by decide) (fun c27 => ?_) (fun c27 => ?_)
        · replace h := h.1 c27
          refine v_sub [1, 2, 3, 0] (lv2 := [(0, .ref a), (1, .int x1_24), (2, .int x2_24), (3, .int y0_24)]) rfl ?_
          exact J35 x1_24 x2_24 y0_24 g24  h
        · replace h := h.2 c27
          refine v_iload_n o 0 dX8_loosens_30 rfl ?_
          refine v_iconst o (v := (-1)) dX8_loosens_31 (by decide) ?_
          refine v_icmp_eq o (tgt := 39) dX8_loosens_32 (by decide) (fun c32 => ?_) (fun c32 => ?_)
          · replace h := h.1 c32
            refine v_iconst o (v := 0) dX8_loosens_39 (by decide) ?_
            refine v_sub [1, 2, 3, 0] (lv2 := [(0, .ref a), (1, .int x1_24), (2, .int x2_24), (3, .int y0_24)]) rfl ?_
            exact J40 x1_24 x2_24 y0_24 0 g24  h
          · replace h := h.2 c32
            refine v_sub [1, 2, 3, 0] (lv2 := [(0, .ref a), (1, .int x1_24), (2, .int x2_24), (3, .int y0_24)]) rfl ?_
            exact J35 x1_24 x2_24 y0_24 g24  h
      unfold bX8_loosens_2 at h
      refine v_iload_n o 1 dX8_loosens_2 rfl ?_
      refine v_if_eq o (tgt := 91) dX8_loosens_3 (by decide) (fun c3 => ?_) (fun c3 => ?_)
      · replace h := h.1 c3
        exact v_vret o rfl hr dX8_loosens_91 h
      · replace h := h.2 c3
        refine v_aload_n o 0 dX8_loosens_6 rfl ?_
        refine v_cVi o [] [] (fun sz => metX8_firstUndone l G P g sz a ha _ h) (cwX8_72 o.1.2.2.2.2 (by decide)) ⟨_, _, rfl⟩ (by decide) (wfModel_o ha) rfl (Nat.le_of_ble_eq_true rfl) ⟨Nat.le_of_ble_eq_true rfl, Nat.le_of_ble_eq_true rfl⟩ dX8_loosens_7 rfl (fun r7 g7 h => ?_)
        refine v_istore_n o (lv' := [(2, .int r7), (0, .ref a), (1, .int x1)]) dX8_loosens_10 rfl (by decide) rfl ?_
        refine v_iload_n o 0 dX8_loosens_11 rfl ?_
        refine v_iconst o (v := (-1)) dX8_loosens_12 (by decide) ?_
        refine v_icmp_ne o (tgt := 23) dX8_loosens_13 (by decide) (fun c13 => ?_) (fun c13 => ?_)
        · replace h := h.1 c13
          refine v_iconst o (v := (-1)) dX8_loosens_23 (by decide) ?_
          refine v_sub [1, 2, 0] (lv2 := [(0, .ref a), (1, .int x1), (2, .int r7)]) rfl ?_
          exact J24 x1 r7 (-1) g7  h
        · replace h := h.2 c13
          refine v_aload_n o 1 dX8_loosens_16 rfl ?_
          refine v_cVi o [] [] (fun sz => metX8_firstFar l G P g7 sz a ha _ h) (cwX8_76 o.1.2.2.2.2 (by decide)) ⟨_, _, rfl⟩ (by decide) (wfModel_o ha) rfl (Nat.le_of_ble_eq_true rfl) ⟨Nat.le_of_ble_eq_true rfl, Nat.le_of_ble_eq_true rfl⟩ dX8_loosens_17 rfl (fun r17 g17 h => ?_)
          refine v_goto o (tgt := 24) dX8_loosens_20 (by decide) ?_
          refine v_sub [1, 2, 0] (lv2 := [(0, .ref a), (1, .int x1), (2, .int r7)]) rfl ?_
          exact J24 x1 r7 r17 g17  h
  unfold vX8_loosens at h
  refine v_iconst o (v := 1) dX8_loosens_0 (by decide) ?_
  refine v_istore_n o (lv' := [(1, .int 1), (0, .ref a)]) dX8_loosens_1 rfl (by decide) rfl ?_
  refine v_sub [1, 0] (lv2 := [(0, .ref a), (1, .int 1)]) rfl ?_
  exact (main (μ2 f 1 + 1)) f 1  h (Nat.lt_succ_self _)
def WX8_loosens (P : Sk) (f : St) (a : Nat) (K : St → Prop) : Prop := ∃ (I2 : St → Int32 → Prop) (μ2 : St → Int32 → Nat), (vX8_loosens P f a I2 K) ∧ (∀ (g : St) (x1 : Int32) , I2 g x1 → bX8_loosens_2 P a (fun g' z0 => I2 g' z0 ∧ μ2 g' z0 < μ2 g x1) K g x1)
def kX8_loosens (P : Sk) (f : St) (a : Nat) (K : St → Prop) : Prop := ∃ w, MW f a w ∧ Cok w ∧ ∀ g, MF f g a (fun i => i = 5) (fun j => j = 9) → MW g a (NF w) → K g
theorem nf_del (v : List Nat) (i : Nat) (h : i + 1 < v.length) (h2 : v.getD (i + 1) 0 = fl (v.getD i 0)) : nfR (del (del v (i + 1)) i) = nfR v ∧ wt (del (del v (i + 1)) i) < wt v := by
  obtain ⟨a, b, e, hl⟩ := w_split2 v i h
  rw [h2] at e
  generalize v.getD i 0 = y at *
  have h3 := nf_rm a b y
  have h4 := wt_rm a b y (fl y)
  have e1 : del v (i + 1) = a ++ y :: b := by
    have := del_app (a ++ [y]) b (fl y)
    rw [List.append_assoc, List.append_assoc, List.length_append, List.length_cons, List.length_nil, hl] at this
    rw [e]
    exact this
  rw [e1, ← hl, del_app, e]
  exact ⟨h3.symm, h4⟩
theorem swap_ok {g g2 : St} {a i : Nat} {v : List Nat} (hv : MW g a v) (hi : i + 1 < v.length) (h2 : v.getD (i + 1) 0 / 2 + 2 ≤ v.getD i 0 / 2) (e : g2 = setf (setf g (a + 5) i (nI (v.getD (i + 1) 0))) (a + 5) (i + 1) (nI (v.getD i 0))) (hc : Cok v) : ∃ v', MW g2 a v' ∧ Cok v' ∧ nfR v' = nfR v ∧ wt v' < wt v ∧ MF g g2 a (fun i => i = 5) (fun j => j = 9) := by
  obtain ⟨u, b, ev, hl⟩ := w_split2 v i hi
  have r : MF g g2 a (fun i => i = 5) (fun j => j = 9) := by
    rw [e]
    exact MF.trans (mf_arr (A := fun i => i = 5) (i := 5) g rfl (by decide)) (mf_arr (A := fun i => i = 5) (i := 5) _ rfl (by decide))
  have old : ∀ j, j < v.length → g (a + 5) j = nI ((u ++ v.getD i 0 :: v.getD (i + 1) 0 :: b).getD j 0) := by
    intro j hj
    rw [← ev]
    exact hv.2 j hj
  have hlen : v.length = u.length + (b.length + 2) := by
    conv => lhs; rw [ev]
    rw [List.length_append, List.length_cons, List.length_cons]
  have hm : ∀ c, c ∈ u ++ v.getD (i + 1) 0 :: v.getD i 0 :: b → c ∈ v := by
    intro c hcm
    rw [ev]
    simp only [List.mem_append, List.mem_cons] at hcm ⊢
    rcases hcm with k | k | k | k
    · exact Or.inl k
    · exact Or.inr (Or.inr (Or.inl k))
    · exact Or.inr (Or.inl k)
    · exact Or.inr (Or.inr (Or.inr k))
  refine ⟨u ++ v.getD (i + 1) 0 :: v.getD i 0 :: b, ⟨?_, fun j hj => ?_⟩, ⟨?_, fun c hcm => hc.2 c (hm c hcm)⟩, ?_, ?_, r⟩
  · rw [e, setf_off (Or.inl (by omega)), setf_off (Or.inl (by omega)), hv.1, hlen, List.length_append, List.length_cons, List.length_cons]
  · rw [List.length_append, List.length_cons, List.length_cons] at hj
    rw [e]
    by_cases c1 : j < i
    · rw [setf_off (Or.inr (by omega)), setf_off (Or.inr (by omega)), old j (by omega), getD_app1 _ _ _ (by omega), getD_app1 _ _ _ (by omega)]
    · obtain ⟨t, rfl⟩ : ∃ t, j = u.length + t := ⟨j - u.length, by omega⟩
      rw [getD_app2]
      match t with
      | 0 =>
        rw [setf_off (Or.inr (by omega)), show u.length + 0 = i by omega, setf_same]
        rfl
      | 1 =>
        rw [show u.length + 1 = i + 1 by omega, setf_same]
        rfl
      | t + 2 =>
        rw [setf_off (Or.inr (by omega)), setf_off (Or.inr (by omega)), old _ (by omega), getD_app2]
        rfl
  · rw [List.length_append, List.length_cons, List.length_cons]
    have := hc.1
    omega
  · have := nf_sw u b h2
    rw [← this, ← ev]
  · have := wt_sw u b h2
    rw [← ev] at this
    exact this
theorem wX8_loosens (P : Sk) (f : St) (a : Nat) (ha : IsModel P a) (K : St → Prop) (h : kX8_loosens P f a K) : WX8_loosens P f a K := by
  obtain ⟨w, hw, hc, hK⟩ := h
  refine ⟨fun g x => ∃ v, MF f g a (fun i => i = 5) (fun j => j = 9) ∧ MW g a v ∧ Cok v ∧ nfR v = nfR w ∧ (x = 1 ∨ (x = 0 ∧ Still v)), fun g x => 2 * wt (rdW g a) + x.toNatClampNeg, ?_, ?_⟩
  · exact ⟨w, MF.refl _ _ _ _, hw, hc, rfl, Or.inl rfl⟩
  · rintro g x ⟨v, hfr, hg, hv, hs, hx⟩
    have hl := hv.1
    unfold bX8_loosens_2
    have fin : Still v → K g := by
      intro q
      refine hK g hfr ?_
      have e := NF_still q
      unfold NF at e ⊢
      rw [← hs, e]
      exact hg
    rcases hx with rfl | ⟨rfl, hst⟩
    · have again : ∀ (g2 : St) (v2 : List Nat), MF g g2 a (fun i => i = 5) (fun j => j = 9) → MW g2 a v2 → Cok v2 → nfR v2 = nfR v → wt v2 < wt v → (∃ v, MF f g2 a (fun i => i = 5) (fun j => j = 9) ∧ MW g2 a v ∧ Cok v ∧ nfR v = nfR w ∧ ((1 : Int32) = 1 ∨ ((1 : Int32) = 0 ∧ Still v))) ∧ 2 * wt (rdW g2 a) + (1 : Int32).toNatClampNeg < 2 * wt (rdW g a) + (1 : Int32).toNatClampNeg := by
        intro g2 v2 r m2 c2 n2 t2
        refine ⟨⟨v2, hfr.trans r, m2, c2, n2.trans hs, Or.inl rfl⟩, ?_⟩
        rw [rdW_eq m2 c2, rdW_eq hg hv]
        omega
      refine ⟨fun q => absurd q (by decide), fun _ => ⟨v, hg, hv, fun i hi he => ⟨fun _ => ?_, fun q => absurd q (mI_ne (by omega))⟩, fun hss => ⟨fun q => absurd rfl q, fun _ => ⟨v, hg, hv, fun i hi he => ?_, fun hff => ?_⟩⟩⟩⟩
      · unfold jX8_loosens_24 jX8_loosens_35 jX8_loosens_40 jX8_loosens_51 jX8_loosens_88
        refine ⟨fun _ => ⟨fun q => absurd q (mI_ne (by omega)), fun _ => ⟨v, i, rfl, hi, hg, hv, fun g2 r2 w2 => ⟨fun _ => ?_, fun q => absurd rfl q⟩⟩⟩, fun q => absurd q (mI_ne (by omega))⟩
        have hv1 := hv.del hi
        have l1 := del_len v (i + 1) hi
        have hd := nf_del v i hi he
        exact again g2 _ r2 w2 (hv1.del (by omega)) hd.1 hd.2
      · unfold jX8_loosens_24 jX8_loosens_35 jX8_loosens_40 jX8_loosens_51 jX8_loosens_88
        refine ⟨fun q => absurd rfl q, fun _ => ⟨fun q => absurd q (mI_ne (by omega)), fun _ => ⟨fun _ => ⟨fun q => absurd q (mI_ne (by omega)), fun _ => ?_⟩, fun q => absurd rfl q⟩⟩⟩
        have h1 := hv.at (i := i) (by omega)
        have h2 := hv.at hi
        rw [nI_1, nI_clamp (by omega), nI_clamp (by omega)]
        refine ⟨vp_nI (by omega) (by decide), fun y ey => ⟨vp_nI (by omega) (by decide), vp_nI (by omega) (by decide), fun g2 e2 => ⟨vp_nI (by omega) (by decide), fun g3 e3 => ?_⟩⟩⟩
        rw [e2, ey, hg.2 i (by omega), hg.2 (i + 1) hi] at e3
        obtain ⟨v', m', c', n', t', r'⟩ := swap_ok hg hi he e3 hv
        exact again g3 v' r' m' c' n' t'
      · unfold jX8_loosens_24 jX8_loosens_35 jX8_loosens_40 jX8_loosens_51 jX8_loosens_88
        refine ⟨fun q => absurd rfl q, fun _ => ⟨fun _ => ⟨fun _ => ⟨fun _ => ?_, fun q => absurd rfl q⟩, fun q => absurd rfl q⟩, fun q => absurd rfl q⟩⟩
        refine ⟨⟨v, hfr, hg, hv, hs, Or.inr ⟨rfl, fun k hk => ⟨hss k hk, hff k hk⟩⟩⟩, ?_⟩
        show 2 * wt (rdW g a) + (0 : Int32).toNatClampNeg < 2 * wt (rdW g a) + (1 : Int32).toNatClampNeg
        have e0 : (0 : Int32).toNatClampNeg = 0 := by decide
        have e1 : (1 : Int32).toNatClampNeg = 1 := by decide
        rw [e0, e1]
        omega
    · exact ⟨fun _ => fin hst, fun q => absurd rfl q⟩

theorem metX8_loosens (l : Launch) (G : Gl) (P : Sk) (f : St) (sz : Nat) (a : Nat) (ha : IsModel P a) (K : St → Prop) (h : kX8_loosens P f a K) : Met l yX8_loosens (wU yX8_loosens cX8_loosens 5 none) rmX8_loosens (PcW G P f sz [.ref a]) (QcV G P sz K) 0 0 (frA P sz) := by
  obtain ⟨I2, μ2, qh, qh2⟩ := wX8_loosens P f a ha K h
  exact mX8_loosens l G P f sz a ha K I2 μ2 qh qh2

