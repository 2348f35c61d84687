def vX8_of (P : Sk) (f : St) (a : Nat) (p1 : Int32) (p2 : Int32) (K : Int32 → St → Prop) : Prop :=
  vp_in ((4 + (26 * p1)) + p2) 160 ∧ (K (f (a + 1) ((4 + (26 * p1)) + p2).toNatClampNeg) f)
set_option maxRecDepth 20000 in
set_option maxHeartbeats 4000000 in
theorem mX8_of (l : Launch) (G : Gl) (P : Sk) (f : St) (sz : Nat) (a : Nat) (ha : IsModel P a) (p1 : Int32) (p2 : Int32) (K : Int32 → St → Prop) (h : vX8_of P f a p1 p2 K)  :
  Met l yX8_of (wU yX8_of cX8_of 3 (some .int)) rmX8_of (PcW G P f sz [.ref a, .int p1, .int p2]) (QcI G P sz K) 0 0 (frA P sz) := by
  refine v_met (own := RX8) [.ref a, .int p1, .int p2] (by decide +kernel) rfl (Nat.le_of_ble_eq_true rfl) (fun p e s m args below meth c hsz o hr hnm => ?_)
  refine v_lv (lv2 := [(0, .ref a), (1, .int p1), (2, .int p2)]) rfl ?_
  unfold vX8_of at h
  refine v_aload_n o 0 dX8_of_0 rfl ?_
  refine v_gfR o lkX8_7 (by decide) (wfModel_o ha) (wfModel_r1 ha) dX8_of_1 ?_
  refine v_iconst o (v := 4) dX8_of_4 (by decide) ?_
  refine v_bipush o (v := 26) dX8_of_5 (by decide) ?_
  refine v_iload_n o 1 dX8_of_7 rfl ?_
  refine v_imul o dX8_of_8 ?_
  refine v_iadd o dX8_of_9 ?_
  refine v_iload_n o 2 dX8_of_10 rfl ?_
  refine v_iadd o dX8_of_11 ?_
  refine v_iald o (wfModel_t1 ha) (wfModel_n1 ha) h.1 dX8_of_12 ?_
  replace h := h.2
  exact v_iret o rfl hr dX8_of_13 h
abbrev kX8_of := @vX8_of
abbrev metX8_of := @mX8_of
/-- a loaf, a state, and all of the reference, in its rows of numbers -/
def LfM (f : St) (q b : Nat) (y : Lf) : Prop := f q b = nI y.1 ∧ f q (b + 1) = nI y.2.length ∧ ∀ j, j < y.2.length → f q (b + 2 + j) = nI (y.2.getD j 0)
def StM (f : St) (q o : Nat) (bd : Bd) : Prop := f q o = nI bd.1.length ∧ f q (o + 1) = bd.2.1 ∧ f q (o + 2) = bd.2.2.1 ∧ f q (o + 3) = bd.2.2.2 ∧ ∀ i, i < bd.1.length → LfM f q (o + 4 + 26 * i) (lfAt bd.1 i)
def SnM (f : St) (m : Nat) (sn : Option Bd) : Prop := (sn = none ∧ f m 5 = 0) ∨ ∃ s, sn = some s ∧ f m 5 = 1 ∧ StM f (m + 3) 0 s ∧ Bok s
def TxM (f : St) (m : Nat) (b : List Nat) : Prop := f m 7 = nI b.length ∧ ∀ i, i < b.length → f (m + 4) i = nI (b.getD i 0)
def HiM (f : St) (m : Nat) (hs : List Bd) : Prop := f m 3 = nI hs.length ∧ ∀ i, i < hs.length → StM f (m + 2) (160 * i) (bdAt hs i)
def MIs (f : St) (m : Nat) (A : Ab) : Prop := StM f (m + 1) 0 A.1 ∧ HiM f m A.2.1 ∧ SnM f m A.2.2.1 ∧ TxM f m A.2.2.2 ∧ Tok A.2.2.2 ∧ Bok A.1 ∧ Hok A.2.1
theorem LfM.row {f g : St} {q b : Nat} {y : Lf} (h : LfM f q b y) (e : g q = f q) : LfM g q b y := by
  unfold LfM at h ⊢
  rw [e]
  exact h
theorem StM.row {f g : St} {q o : Nat} {bd : Bd} (h : StM f q o bd) (e : g q = f q) : StM g q o bd := by
  unfold StM at h ⊢
  rw [e]
  exact ⟨h.1, h.2.1, h.2.2.1, h.2.2.2.1, fun i hi => (h.2.2.2.2 i hi).row e⟩
/-- scratch has changed alone -/
def Scr (f g : St) (m : Nat) : Prop := MF f g m (fun i => 5 ≤ i ∧ i ≤ 10) (fun j => 9 ≤ j ∧ j ≤ 21)
theorem MIs.sct {f g : St} {m : Nat} {A : Ab} (h : MIs f m A) (k : MF f g m (fun i => 5 ≤ i ∧ i ≤ 10) (fun j => j = 0 ∨ (9 ≤ j ∧ j ≤ 21))) : MIs g m A := by
  obtain ⟨h1, h2, h3, h4, h5, h6, h7⟩ := h
  have r : ∀ i, 1 ≤ i → i ≤ 4 → g (m + i) = f (m + i) := fun i a b => k.1 (m + i) (by omega) (fun j hj => by omega)
  have w3 : g m 3 = f m 3 := k.2 3 (by omega)
  have w5 : g m 5 = f m 5 := k.2 5 (by omega)
  have w7 : g m 7 = f m 7 := k.2 7 (by omega)
  refine ⟨h1.row (r 1 (by omega) (by omega)), ⟨by rw [w3]; exact h2.1, fun i hi => (h2.2 i hi).row (r 2 (by omega) (by omega))⟩, ?_, ⟨by rw [w7]; exact h4.1, fun i hi => by rw [r 4 (by omega) (by omega)]; exact h4.2 i hi⟩, h5, h6, h7⟩
  rcases h3 with ⟨e, h3⟩ | ⟨s, e, h3, h8, h9⟩
  · exact Or.inl ⟨e, by rw [w5]; exact h3⟩
  · exact Or.inr ⟨s, e, by rw [w5]; exact h3, h8.row (r 3 (by omega) (by omega)), h9⟩
theorem MIs.scr {f g : St} {m : Nat} {A : Ab} (h : MIs f m A) (k : Scr f g m) : MIs g m A := h.sct (k.mono (fun _ h => h) (fun _ h => Or.inr h))
theorem MIs.thr {f : St} {m : Nat} {A : Ab} {v : Int32} (h : MIs f m A) : MIs (setf f m 0 v) m A := h.sct (mf_fld f (Or.inl rfl))
theorem u8_of {P : Sk} {f : St} {a l w : Nat} {v : Int32} {K : Int32 → St → Prop} (hl : l < 6) (hw : w < 26) (hv : f (a + 1) (4 + 26 * l + w) = v) (hK : K v f) : kX8_of P f a (nI l) (nI w) K := by
  show vX8_of P f a (nI l) (nI w) K
  unfold vX8_of
  rw [show (26 : Int32) = nI 26 from rfl, show (4 : Int32) = nI 4 from rfl, nI_mul, nI_add, nI_add, nI_clamp (by omega), hv]
  exact ⟨vp_nI (by omega) (by decide), hK⟩

def vX8_store (P : Sk) (f : St) (a : Nat) (p1 : Int32) (p2 : Int32) (p3 : Int32) (K : St → Prop) : Prop :=
  vp_in ((4 + (26 * p1)) + p2) 160 ∧ (∀ g13 : St, g13 = setf f (a + 1) ((4 + (26 * p1)) + p2).toNatClampNeg p3 → K g13)
set_option maxRecDepth 20000 in
set_option maxHeartbeats 4000000 in
theorem mX8_store (l : Launch) (G : Gl) (P : Sk) (f : St) (sz : Nat) (a : Nat) (ha : IsModel P a) (p1 : Int32) (p2 : Int32) (p3 : Int32) (K : St → Prop) (h : vX8_store P f a p1 p2 p3 K)  :
  Met l yX8_store (wU yX8_store cX8_store 4 none) rmX8_store (PcW G P f sz [.ref a, .int p1, .int p2, .int p3]) (QcV G P sz K) 0 0 (frA P sz) := by
  refine v_met (own := RX8) [.ref a, .int p1, .int p2, .int p3] (by decide +kernel) rfl (Nat.le_of_ble_eq_true rfl) (fun p e s m args below meth c hsz o hr hnm => ?_)
  refine v_lv (lv2 := [(0, .ref a), (1, .int p1), (2, .int p2), (3, .int p3)]) rfl ?_
  unfold vX8_store at h
  refine v_aload_n o 0 dX8_store_0 rfl ?_
  refine v_gfR o lkX8_7 (by decide) (wfModel_o ha) (wfModel_r1 ha) dX8_store_1 ?_
  refine v_iconst o (v := 4) dX8_store_4 (by decide) ?_
  refine v_bipush o (v := 26) dX8_store_5 (by decide) ?_
  refine v_iload_n o 1 dX8_store_7 rfl ?_
  refine v_imul o dX8_store_8 ?_
  refine v_iadd o dX8_store_9 ?_
  refine v_iload_n o 2 dX8_store_10 rfl ?_
  refine v_iadd o dX8_store_11 ?_
  refine v_iload_n o 3 dX8_store_12 rfl ?_
  refine v_iast o (wfModel_t1 ha) (wfModel_n1 ha) h.1 dX8_store_13 ?_
  replace h := h.2
  refine v_nmf (fun g13 eg13 => ?_)
  replace h := h g13 eg13
  exact v_vret o rfl hr dX8_store_14 h
abbrev kX8_store := @vX8_store
abbrev metX8_store := @mX8_store
theorem u8_store {P : Sk} {f : St} {a l w : Nat} {v : Int32} {K : St → Prop} (hl : l < 6) (hw : w < 26) (hK : K (setf f (a + 1) (4 + 26 * l + w) v)) : kX8_store P f a (nI l) (nI w) v K := by
  show vX8_store P f a (nI l) (nI w) v K
  unfold vX8_store
  rw [show (26 : Int32) = nI 26 from rfl, show (4 : Int32) = nI 4 from rfl, nI_mul, nI_add, nI_add, nI_clamp (by omega)]
  exact ⟨vp_nI (by omega) (by decide), fun g e => by rw [e]; exact hK⟩

def bX8_takes_22 (P : Sk) (a : Nat) (p1 : Int32) (L22 : St → Int32 → Prop) (K : St → Prop) (f : St) (x2 : Int32) : Prop :=
  (f a 9 ≤ x2 → K f) ∧ (¬ f a 9 ≤ x2 → kX8_of P f a p1 (2 + x2) (fun r40 g40 => vp_in x2 50 ∧ (∀ g43 : St, g43 = setf g40 (a + 5) x2.toNatClampNeg r40 → ∀ x2_44 : Int32, x2_44 = x2 + 1 → L22 g43 x2_44)))
def vX8_takes (P : Sk) (f : St) (a : Nat) (p1 : Int32) (L22 : St → Int32 → Prop) (K : St → Prop) : Prop :=
  kX8_of P f a p1 0 (fun r4 g4 => ∀ g7 : St, g7 = setf g4 a 10 r4 → kX8_of P g7 a p1 1 (fun r14 g14 => ∀ g17 : St, g17 = setf g14 a 9 r14 → L22 g17 0))
set_option maxRecDepth 20000 in
set_option maxHeartbeats 4000000 in
theorem mX8_takes (l : Launch) (G : Gl) (P : Sk) (f : St) (sz : Nat) (a : Nat) (ha : IsModel P a) (p1 : Int32) (K : St → Prop) (I22 : St → Int32 → Prop) (μ22 : St → Int32 → Nat) 
  (h : vX8_takes P f a p1 I22 K)
  (h22 : ∀ (g : St) (x2 : Int32) , I22 g x2 → bX8_takes_22 P a p1 (fun g' z0 => I22 g' z0 ∧ μ22 g' z0 < μ22 g x2) K g x2) :
  Met l yX8_takes (wU yX8_takes cX8_takes 3 none) rmX8_takes (PcW G P f sz [.ref a, .int p1]) (QcV G P sz K) 0 0 (frA P sz) := by
  refine v_met (own := RX8) [.ref a, .int p1] (by decide +kernel) rfl (Nat.le_of_ble_eq_true rfl) (fun p e s m args below meth c hsz o hr hnm => ?_)
  refine v_lv (lv2 := [(0, .ref a), (1, .int p1)]) rfl ?_
  have main : ∀ n : Nat, (∀ (g : St) (x2 : Int32) , I22 g x2 → μ22 g x2 < n → V p l e rmX8_takes s m args below meth c 3 G (frA P sz) (MQ below (QcV G P sz K) args s 0 0 (frA P sz)) 0 0 P [(0, .ref a), (1, .int p1), (2, .int x2)] [] 22 g) := by
    intro n
    induction n with
    | zero => exact fun g x2 hI hm => absurd hm (Nat.not_lt_zero _)
    | succ n ih =>
      intro g x2 hI hm
      have h := h22 g x2 hI
      clear hI
      unfold bX8_takes_22 at h
      refine v_iload_n o 2 dX8_takes_22 rfl ?_
      refine v_aload_n o 0 dX8_takes_23 rfl ?_
      refine v_gfI o lkX8_58 (by decide) (wfModel_o ha) dX8_takes_24 ?_
      refine v_icmp_ge o (tgt := 50) dX8_takes_27 (by decide) (fun c27 => ?_) (fun c27 => ?_)
      · replace h := h.1 c27
        exact v_vret o rfl hr dX8_takes_50 h
      · replace h := h.2 c27
        refine v_aload_n o 0 dX8_takes_30 rfl ?_
        refine v_gfR o lkX8_22 (by decide) (wfModel_o ha) (wfModel_r8 ha) dX8_takes_31 ?_
        refine v_iload_n o 2 dX8_takes_34 rfl ?_
        refine v_aload_n o 0 dX8_takes_35 rfl ?_
        refine v_iload_n o 1 dX8_takes_36 rfl ?_
        refine v_iconst o (v := 2) dX8_takes_37 (by decide) ?_
        refine v_iload_n o 2 dX8_takes_38 rfl ?_
        refine v_iadd o dX8_takes_39 ?_
        refine v_cVi o [.int p1, .int (2 + x2)] [.int x2, .ref (a + 5)] (fun sz => metX8_of l G P g sz a ha p1 (2 + x2) _ h) (cwX8_51 o.1.2.2.2.2 (by decide)) ⟨_, _, rfl⟩ (by decide) (wfModel_o ha) rfl (Nat.le_of_ble_eq_true rfl) ⟨Nat.le_of_ble_eq_true rfl, Nat.le_of_ble_eq_true rfl⟩ dX8_takes_40 rfl (fun r40 g40 h => ?_)
        refine v_iast o (wfModel_t8 ha) (wfModel_n8 ha) h.1 dX8_takes_43 ?_
        replace h := h.2
        refine v_nmf (fun g43 eg43 => ?_)
        replace h := h g43 eg43
        obtain ⟨x2_44, ex2_44⟩ : ∃ y : Int32, y = x2 + 1 := ⟨_, rfl⟩
        replace h := h x2_44 ex2_44
        refine v_iinc o (v := x2_44) (lv' := [(2, .int x2_44), (0, .ref a), (1, .int p1)]) 2 dX8_takes_44 rfl (by rw [ex2_44]; rfl) (by decide) rfl ?_
        refine v_goto o (tgt := 22) dX8_takes_47 (by decide) ?_
        refine v_sub [1, 2, 0] (lv2 := [(0, .ref a), (1, .int p1), (2, .int x2_44)]) rfl ?_
        exact ih g43 x2_44  h.1 (by have := h.2; omega)
  unfold vX8_takes at h
  refine v_aload_n o 0 dX8_takes_0 rfl ?_
  refine v_aload_n o 0 dX8_takes_1 rfl ?_
  refine v_iload_n o 1 dX8_takes_2 rfl ?_
  refine v_iconst o (v := 0) dX8_takes_3 (by decide) ?_
  refine v_cVi o [.int p1, .int 0] [.ref a] (fun sz => metX8_of l G P f sz a ha p1 0 _ h) (cwX8_51 o.1.2.2.2.2 (by decide)) ⟨_, _, rfl⟩ (by decide) (wfModel_o ha) rfl (Nat.le_of_ble_eq_true rfl) ⟨Nat.le_of_ble_eq_true rfl, Nat.le_of_ble_eq_true rfl⟩ dX8_takes_4 rfl (fun r4 g4 h => ?_)
  refine v_pf o lpX8_55 (wfModel_o ha) ⟨rfl, rfl⟩ dX8_takes_7 ?_
  refine v_nmf (fun g7 eg7 => ?_)
  replace h := h g7 eg7
  refine v_aload_n o 0 dX8_takes_10 rfl ?_
  refine v_aload_n o 0 dX8_takes_11 rfl ?_
  refine v_iload_n o 1 dX8_takes_12 rfl ?_
  refine v_iconst o (v := 1) dX8_takes_13 (by decide) ?_
  refine v_cVi o [.int p1, .int 1] [.ref a] (fun sz => metX8_of l G P g7 sz a ha p1 1 _ h) (cwX8_51 o.1.2.2.2.2 (by decide)) ⟨_, _, rfl⟩ (by decide) (wfModel_o ha) rfl (Nat.le_of_ble_eq_true rfl) ⟨Nat.le_of_ble_eq_true rfl, Nat.le_of_ble_eq_true rfl⟩ dX8_takes_14 rfl (fun r14 g14 h => ?_)
  refine v_pf o lpX8_58 (wfModel_o ha) ⟨rfl, rfl⟩ dX8_takes_17 ?_
  refine v_nmf (fun g17 eg17 => ?_)
  replace h := h g17 eg17
  refine v_iconst o (v := 0) dX8_takes_20 (by decide) ?_
  refine v_istore_n o (lv' := [(2, .int 0), (0, .ref a), (1, .int p1)]) dX8_takes_21 rfl (by decide) rfl ?_
  refine v_sub [1, 2, 0] (lv2 := [(0, .ref a), (1, .int p1), (2, .int 0)]) rfl ?_
  exact (main (μ22 g17 0 + 1)) g17 0  h (Nat.lt_succ_self _)
def WX8_takes (P : Sk) (f : St) (a : Nat) (p1 : Int32) (K : St → Prop) : Prop := ∃ (I22 : St → Int32 → Prop) (μ22 : St → Int32 → Nat), (vX8_takes P f a p1 I22 K) ∧ (∀ (g : St) (x2 : Int32) , I22 g x2 → bX8_takes_22 P a p1 (fun g' z0 => I22 g' z0 ∧ μ22 g' z0 < μ22 g x2) K g x2)
def kX8_takes (P : Sk) (f : St) (a : Nat) (p1 : Int32) (K : St → Prop) : Prop := ∃ l y, p1 = nI l ∧ l < 6 ∧ LfM f (a + 1) (4 + 26 * l) y ∧ Wok y.1 y.2 ∧ ∀ g, MF f g a (fun i => i = 5) (fun j => j = 9 ∨ j = 10) → MW g a y.2 → g a 10 = nI y.1 → K g
theorem wX8_takes (P : Sk) (f : St) (a : Nat) (ha : IsModel P a) (p1 : Int32) (K : St → Prop) (h : kX8_takes P f a p1 K) : WX8_takes P f a p1 K := by
  obtain ⟨l, y, rfl, hl, hL, ho, hK⟩ := h
  have h24 := ho.2.2.1
  refine ⟨fun g x => ∃ k, x = nI k ∧ k ≤ y.2.length ∧ MF f g a (fun i => i = 5) (fun j => j = 9 ∨ j = 10) ∧ g a 9 = nI y.2.length ∧ g a 10 = nI y.1 ∧ ∀ j, j < k → g (a + 5) j = nI (y.2.getD j 0), fun g x => y.2.length - x.toNatClampNeg, ?_, ?_⟩
  · unfold vX8_takes
    refine u8_of (w := 0) hl (by decide) hL.1 ?_
    intro g1 e1
    refine u8_of (w := 1) hl (by decide) (v := nI y.2.length) ?_ ?_
    · rw [e1, setf_off (Or.inl (by omega))]
      exact hL.2.1
    · intro g2 e2
      refine ⟨0, rfl, Nat.zero_le _, ?_, ?_, ?_, fun j hj => absurd hj (Nat.not_lt_zero _)⟩
      · rw [e2, e1]
        exact (mf_fld f (Or.inr rfl)).trans (mf_fld _ (Or.inl rfl))
      · rw [e2, setf_same]
      · rw [e2, setf_off (Or.inr (by omega)), e1, setf_same]
  · rintro g x ⟨k, rfl, hk, hfr, h9, h10, hA⟩
    unfold bX8_takes_22
    rw [h9, nI_leI (by omega) (by omega), show (2 : Int32) = nI 2 from rfl, nI_add]
    refine ⟨fun q => hK g hfr ⟨h9, fun i hi => hA i (by omega)⟩ h10, fun q => ?_⟩
    refine u8_of hl (by omega) (v := nI (y.2.getD k 0)) ?_ ?_
    · rw [hfr.1 (a + 1) (by omega) (fun i hi => by omega), ← Nat.add_assoc]
      exact hL.2.2 k (by omega)
    · rw [nI_clamp (by omega), nI_1]
      refine ⟨vp_nI (by omega) (by decide), fun g2 e2 z e => ⟨⟨k + 1, e, by omega, ?_, ?_, ?_, fun j hj => ?_⟩, mu_up e (by omega) (by omega)⟩⟩
      · rw [e2]
        exact hfr.trans (mf_arr g rfl (by decide))
      · rw [e2, setf_off (Or.inl (by omega))]
        exact h9
      · rw [e2, setf_off (Or.inl (by omega))]
        exact h10
      · rw [e2]
        by_cases c : j = k
        · rw [c, setf_same]
        · rw [setf_off (Or.inr c)]
          exact hA j (by omega)

theorem metX8_takes (l : Launch) (G : Gl) (P : Sk) (f : St) (sz : Nat) (a : Nat) (ha : IsModel P a) (p1 : Int32) (K : St → Prop) (h : kX8_takes P f a p1 K) : Met l yX8_takes (wU yX8_takes cX8_takes 3 none) rmX8_takes (PcW G P f sz [.ref a, .int p1]) (QcV G P sz K) 0 0 (frA P sz) := by
  obtain ⟨I22, μ22, qh, qh22⟩ := wX8_takes P f a ha p1 K h
  exact mX8_takes l G P f sz a ha p1 K I22 μ22 qh qh22

def bX8_turns_2 (P : Sk) (a : Nat) (L2 : St → Int32 → Prop) (K : St → Prop) (f : St) (x1 : Int32) : Prop :=
  (f a 9 ≤ x1 → K f) ∧ (¬ f a 9 ≤ x1 → vp_in x1 50 ∧ (vp_in x1 50 ∧ (vp_in x1 50 ∧ (∀ g41 : St, g41 = setf f (a + 5) x1.toNatClampNeg ((2 * (((f a 10) - 2) - ((f (a + 5) x1.toNatClampNeg) / 2))) + ((f (a + 5) x1.toNatClampNeg) - (f (a + 5) x1.toNatClampNeg) / 2 * 2)) → ∀ x1_42 : Int32, x1_42 = x1 + 1 → L2 g41 x1_42))))
def vX8_turns (P : Sk) (f : St) (a : Nat) (L2 : St → Int32 → Prop) (K : St → Prop) : Prop :=
  L2 f 0
set_option maxRecDepth 20000 in
set_option maxHeartbeats 4000000 in
theorem mX8_turns (l : Launch) (G : Gl) (P : Sk) (f : St) (sz : Nat) (a : Nat) (ha : IsModel P a) (K : St → Prop) (I2 : St → Int32 → Prop) (μ2 : St → Int32 → Nat) 
  (h : vX8_turns P f a I2 K)
  (h2 : ∀ (g : St) (x1 : Int32) , I2 g x1 → bX8_turns_2 P a (fun g' z0 => I2 g' z0 ∧ μ2 g' z0 < μ2 g x1) K g x1) :
  Met l yX8_turns (wU yX8_turns cX8_turns 2 none) rmX8_turns (PcW G P f sz [.ref a]) (QcV G P sz K) 0 0 (frA P sz) := by
  refine v_met (own := RX8) [.ref a] (by decide +kernel) rfl (Nat.le_of_ble_eq_true rfl) (fun p e s m args below meth c hsz o hr hnm => ?_)
  refine v_lv (lv2 := [(0, .ref a)]) rfl ?_
  have main : ∀ n : Nat, (∀ (g : St) (x1 : Int32) , I2 g x1 → μ2 g x1 < n → V p l e rmX8_turns s m args below meth c 2 G (frA P sz) (MQ below (QcV G P sz K) args s 0 0 (frA P sz)) 0 0 P [(0, .ref a), (1, .int x1)] [] 2 g) := by
    intro n
    induction n with
    | zero => exact fun g x1 hI hm => absurd hm (Nat.not_lt_zero _)
    | succ n ih =>
      intro g x1 hI hm
      have h := h2 g x1 hI
      clear hI
      unfold bX8_turns_2 at h
      refine v_iload_n o 1 dX8_turns_2 rfl ?_
      refine v_aload_n o 0 dX8_turns_3 rfl ?_
      refine v_gfI o lkX8_58 (by decide) (wfModel_o ha) dX8_turns_4 ?_
      refine v_icmp_ge o (tgt := 48) dX8_turns_7 (by decide) (fun c7 => ?_) (fun c7 => ?_)
      · replace h := h.1 c7
        exact v_vret o rfl hr dX8_turns_48 h
      · replace h := h.2 c7
        refine v_aload_n o 0 dX8_turns_10 rfl ?_
        refine v_gfR o lkX8_22 (by decide) (wfModel_o ha) (wfModel_r8 ha) dX8_turns_11 ?_
        refine v_iload_n o 1 dX8_turns_14 rfl ?_
        refine v_iconst o (v := 2) dX8_turns_15 (by decide) ?_
        refine v_aload_n o 0 dX8_turns_16 rfl ?_
        refine v_gfI o lkX8_55 (by decide) (wfModel_o ha) dX8_turns_17 ?_
        refine v_iconst o (v := 2) dX8_turns_20 (by decide) ?_
        refine v_isub o dX8_turns_21 ?_
        refine v_aload_n o 0 dX8_turns_22 rfl ?_
        refine v_gfR o lkX8_22 (by decide) (wfModel_o ha) (wfModel_r8 ha) dX8_turns_23 ?_
        refine v_iload_n o 1 dX8_turns_26 rfl ?_
        refine v_iald o (wfModel_t8 ha) (wfModel_n8 ha) h.1 dX8_turns_27 ?_
        replace h := h.2
        refine v_iconst o (v := 2) dX8_turns_28 (by decide) ?_
        refine v_idiv o dX8_turns_29 (by decide) ?_
        refine v_isub o dX8_turns_30 ?_
        refine v_imul o dX8_turns_31 ?_
        refine v_aload_n o 0 dX8_turns_32 rfl ?_
        refine v_gfR o lkX8_22 (by decide) (wfModel_o ha) (wfModel_r8 ha) dX8_turns_33 ?_
        refine v_iload_n o 1 dX8_turns_36 rfl ?_
        refine v_iald o (wfModel_t8 ha) (wfModel_n8 ha) h.1 dX8_turns_37 ?_
        replace h := h.2
        refine v_iconst o (v := 2) dX8_turns_38 (by decide) ?_
        refine v_irem o dX8_turns_39 (by decide) ?_
        refine v_iadd o dX8_turns_40 ?_
        refine v_iast o (wfModel_t8 ha) (wfModel_n8 ha) h.1 dX8_turns_41 ?_
        replace h := h.2
        refine v_nmf (fun g41 eg41 => ?_)
        replace h := h g41 eg41
        obtain ⟨x1_42, ex1_42⟩ : ∃ y : Int32, y = x1 + 1 := ⟨_, rfl⟩
        replace h := h x1_42 ex1_42
        refine v_iinc o (v := x1_42) (lv' := [(1, .int x1_42), (0, .ref a)]) 1 dX8_turns_42 rfl (by rw [ex1_42]; rfl) (by decide) rfl ?_
        refine v_goto o (tgt := 2) dX8_turns_45 (by decide) ?_
        refine v_sub [1, 0] (lv2 := [(0, .ref a), (1, .int x1_42)]) rfl ?_
        exact ih g41 x1_42  h.1 (by have := h.2; omega)
  unfold vX8_turns at h
  refine v_iconst o (v := 0) dX8_turns_0 (by decide) ?_
  refine v_istore_n o (lv' := [(1, .int 0), (0, .ref a)]) dX8_turns_1 rfl (by decide) rfl ?_
  refine v_sub [1, 0] (lv2 := [(0, .ref a), (1, .int 0)]) rfl ?_
  exact (main (μ2 f 0 + 1)) f 0  h (Nat.lt_succ_self _)
def WX8_turns (P : Sk) (f : St) (a : Nat) (K : St → Prop) : Prop := ∃ (I2 : St → Int32 → Prop) (μ2 : St → Int32 → Nat), (vX8_turns P f a I2 K) ∧ (∀ (g : St) (x1 : Int32) , I2 g x1 → bX8_turns_2 P a (fun g' z0 => I2 g' z0 ∧ μ2 g' z0 < μ2 g x1) K g x1)
def kX8_turns (P : Sk) (f : St) (a : Nat) (K : St → Prop) : Prop := ∃ n w, MW f a w ∧ Wok n w ∧ f a 10 = nI n ∧ ∀ g, MF f g a (fun i => i = 5) (fun _ => False) → MW g a (w.map (tn n)) → K g
theorem wX8_turns (P : Sk) (f : St) (a : Nat) (ha : IsModel P a) (K : St → Prop) (h : kX8_turns P f a K) : WX8_turns P f a K := by
  obtain ⟨n, w, hw, ho, hn, hK⟩ := h
  have hl := ho.2.2.1
  have h7 := ho.2.1
  refine ⟨fun g x => ∃ k, x = nI k ∧ k ≤ w.length ∧ MF f g a (fun i => i = 5) (fun _ => False) ∧ (∀ j, j < k → g (a + 5) j = nI (tn n (w.getD j 0))) ∧ (∀ j, k ≤ j → j < w.length → g (a + 5) j = nI (w.getD j 0)), fun g x => w.length - x.toNatClampNeg, ?_, ?_⟩
  · unfold vX8_turns
    exact ⟨0, rfl, Nat.zero_le _, MF.refl _ _ _ _, fun j hj => absurd hj (Nat.not_lt_zero _), fun j _ hj => hw.2 j hj⟩
  · rintro g x ⟨k, rfl, hk, hfr, hA, hB⟩
    unfold bX8_turns_2
    rw [hfr.2 9 id, hfr.2 10 id, hw.1, hn, nI_leI (by omega) (by omega)]
    refine ⟨fun q => ?_, fun q => ?_⟩
    · refine hK g hfr ⟨?_, fun i hi => ?_⟩
      · rw [hfr.2 9 id, hw.1, List.length_map]
      · rw [List.length_map] at hi
        rw [getD_map (tn n) hi]
        exact hA i (by omega)
    · have hin : vp_in (nI k) 50 := vp_nI (by omega) (by decide)
      have hc := ho.at (i := k) (by omega)
      have hr : nI (w.getD k 0) - nI (w.getD k 0) / nI 2 * nI 2 = nI (w.getD k 0 % 2) := pk_rem (by omega) (by decide) (by decide)
      rw [nI_clamp (by omega), hB k (Nat.le_refl _) (by omega), show (2 : Int32) = nI 2 from rfl, hr, pk_div (by omega) (by decide) (by decide), pk_sub (by omega), pk_sub (by omega), nI_mul, nI_add, nI_1]
      refine ⟨hin, hin, hin, fun g2 e2 y e => ⟨⟨k + 1, e, by omega, ?_, fun j hj => ?_, fun j hj hj2 => ?_⟩, mu_up e (by omega) (by omega)⟩⟩
      · rw [e2]
        exact hfr.trans (mf_arr g rfl (by decide))
      · rw [e2]
        by_cases c : j = k
        · rw [c, setf_same]
          rfl
        · rw [setf_off (Or.inr c)]
          exact hA j (by omega)
      · rw [e2, setf_off (Or.inr (by omega))]
        exact hB j (by omega) hj2

theorem metX8_turns (l : Launch) (G : Gl) (P : Sk) (f : St) (sz : Nat) (a : Nat) (ha : IsModel P a) (K : St → Prop) (h : kX8_turns P f a K) : Met l yX8_turns (wU yX8_turns cX8_turns 2 none) rmX8_turns (PcW G P f sz [.ref a]) (QcV G P sz K) 0 0 (frA P sz) := by
  obtain ⟨I2, μ2, qh, qh2⟩ := wX8_turns P f a ha K h
  exact mX8_turns l G P f sz a ha K I2 μ2 qh qh2

def jX8_walks_112 (P : Sk) (a : Nat) (p1 : Int32) (L2 : St → Int32 → Prop) (L37 : St → Int32 → Prop) (K : St → Prop) (x2 : Int32) (x3 : Int32) (x4 : Int32) (x5 : Int32) (y1 : Int32) (f : St) : Prop :=
  ∀ g112 : St, g112 = setf f a 14 y1 → vp_in (g112 a 15) 7 ∧ (vp_in (g112 a 15) 7 ∧ (∀ g127 : St, g127 = setf g112 (a + 8) (g112 a 15).toNatClampNeg ((g112 (a + 8) (g112 a 15).toNatClampNeg) + 1) → vp_in (g127 a 14) 7 ∧ (vp_in (g127 a 14) 7 ∧ (∀ g140 : St, g140 = setf g127 (a + 7) (g127 a 14).toNatClampNeg ((g127 (a + 7) (g127 a 14).toNatClampNeg) + 1) → vp_in x3 7 ∧ (∀ g148 : St, g148 = setf g140 (a + 6) x3.toNatClampNeg x5 → vp_in (x3 + 1) 7 ∧ (∀ g158 : St, g158 = setf g148 (a + 6) (x3 + 1).toNatClampNeg x4 → ∀ x2_159 : Int32, x2_159 = x2 + 1 → L37 g158 x2_159))))))
def jX8_walks_89 (P : Sk) (a : Nat) (p1 : Int32) (L2 : St → Int32 → Prop) (L37 : St → Int32 → Prop) (K : St → Prop) (x2 : Int32) (x3 : Int32) (x4 : Int32) (x5 : Int32) (y1 : Int32) (f : St) : Prop :=
  ∀ g89 : St, g89 = setf f a 15 y1 → vp_in x2 50 ∧ ((¬ (g89 (a + 5) x2.toNatClampNeg) - (g89 (a + 5) x2.toNatClampNeg) / 2 * 2 = 1 → jX8_walks_112 P a p1 L2 L37 K x2 x3 x4 x5 x4 g89) ∧ ((g89 (a + 5) x2.toNatClampNeg) - (g89 (a + 5) x2.toNatClampNeg) / 2 * 2 = 1 → jX8_walks_112 P a p1 L2 L37 K x2 x3 x4 x5 x5 g89))
def bX8_walks_2 (P : Sk) (a : Nat) (p1 : Int32) (L2 : St → Int32 → Prop) (L37 : St → Int32 → Prop) (K : St → Prop) (f : St) (x2 : Int32) : Prop :=
  (7 ≤ x2 → L37 f 0) ∧ (¬ 7 ≤ x2 → vp_in x2 7 ∧ (∀ g14 : St, g14 = setf f (a + 6) x2.toNatClampNeg x2 → vp_in x2 7 ∧ (∀ g21 : St, g21 = setf g14 (a + 7) x2.toNatClampNeg 0 → vp_in x2 7 ∧ (∀ g28 : St, g28 = setf g21 (a + 8) x2.toNatClampNeg 0 → ∀ x2_29 : Int32, x2_29 = x2 + 1 → L2 g28 x2_29))))
def bX8_walks_37 (P : Sk) (a : Nat) (p1 : Int32) (L2 : St → Int32 → Prop) (L37 : St → Int32 → Prop) (K : St → Prop) (f : St) (x2 : Int32) : Prop :=
  (p1 ≤ x2 → K f) ∧ (¬ p1 ≤ x2 → vp_in x2 50 ∧ (∀ x3_50 : Int32, x3_50 = (f (a + 5) x2.toNatClampNeg) / 2 → vp_in x3_50 7 ∧ (∀ x4_57 : Int32, x4_57 = f (a + 6) x3_50.toNatClampNeg → vp_in (x3_50 + 1) 7 ∧ (∀ x5_67 : Int32, x5_67 = f (a + 6) (x3_50 + 1).toNatClampNeg → vp_in x2 50 ∧ ((¬ (f (a + 5) x2.toNatClampNeg) - (f (a + 5) x2.toNatClampNeg) / 2 * 2 = 1 → jX8_walks_89 P a p1 L2 L37 K x2 x3_50 x4_57 x5_67 x5_67 f) ∧ ((f (a + 5) x2.toNatClampNeg) - (f (a + 5) x2.toNatClampNeg) / 2 * 2 = 1 → jX8_walks_89 P a p1 L2 L37 K x2 x3_50 x4_57 x5_67 x4_57 f))))))
def vX8_walks (P : Sk) (f : St) (a : Nat) (p1 : Int32) (L2 : St → Int32 → Prop) (L37 : St → Int32 → Prop) (K : St → Prop) : Prop :=
  L2 f 0
set_option maxRecDepth 20000 in
set_option maxHeartbeats 4000000 in
theorem mX8_walks (l : Launch) (G : Gl) (P : Sk) (f : St) (sz : Nat) (a : Nat) (ha : IsModel P a) (p1 : Int32) (K : St → Prop) (I2 : St → Int32 → Prop) (μ2 : St → Int32 → Nat) (I37 : St → Int32 → Prop) (μ37 : St → Int32 → Nat) 
  (h : vX8_walks P f a p1 I2 I37 K)
  (h2 : ∀ (g : St) (x2 : Int32) , I2 g x2 → bX8_walks_2 P a p1 (fun g' z0 => I2 g' z0 ∧ μ2 g' z0 < μ2 g x2) (fun g' z0 => I37 g' z0 ∧ μ37 g' z0 < μ2 g x2) K g x2)
  (h37 : ∀ (g : St) (x2 : Int32) , I37 g x2 → bX8_walks_37 P a p1 (fun g' z0 => I2 g' z0 ∧ μ2 g' z0 < μ37 g x2) (fun g' z0 => I37 g' z0 ∧ μ37 g' z0 < μ37 g x2) K g x2) :
  Met l yX8_walks (wU yX8_walks cX8_walks 6 none) rmX8_walks (PcW G P f sz [.ref a, .int p1]) (QcV G P sz K) 0 0 (frA P sz) := by
  refine v_met (own := RX8) [.ref a, .int p1] (by decide +kernel) rfl (Nat.le_of_ble_eq_true rfl) (fun p e s m args below meth c hsz o hr hnm => ?_)
  refine v_lv (lv2 := [(0, .ref a), (1, .int p1)]) rfl ?_
  have main : ∀ n : Nat, (∀ (g : St) (x2 : Int32) , I2 g x2 → μ2 g x2 < n → V p l e rmX8_walks s m args below meth c 6 G (frA P sz) (MQ below (QcV G P sz K) args s 0 0 (frA P sz)) 0 0 P [(0, .ref a), (1, .int p1), (2, .int x2)] [] 2 g) ∧ (∀ (g : St) (x2 : Int32) , I37 g x2 → μ37 g x2 < n → V p l e rmX8_walks s m args below meth c 6 G (frA P sz) (MQ below (QcV G P sz K) args s 0 0 (frA P sz)) 0 0 P [(0, .ref a), (1, .int p1), (2, .int x2)] [] 37 g) := by
    intro n
    induction n with
    | zero => exact ⟨fun g x2 hI hm => absurd hm (Nat.not_lt_zero _), fun g x2 hI hm => absurd hm (Nat.not_lt_zero _)⟩
    | succ n ih =>
      refine ⟨?_, ?_⟩
      · intro g x2 hI hm
        have h := h2 g x2 hI
        clear hI
        unfold bX8_walks_2 at h
        refine v_iload_n o 2 dX8_walks_2 rfl ?_
        refine v_bipush o (v := 7) dX8_walks_3 (by decide) ?_
        refine v_icmp_ge o (tgt := 35) dX8_walks_5 (by decide) (fun c5 => ?_) (fun c5 => ?_)
        · replace h := h.1 c5
          refine v_iconst o (v := 0) dX8_walks_35 (by decide) ?_
          refine v_istore_n o (lv' := [(2, .int 0), (0, .ref a), (1, .int p1)]) dX8_walks_36 rfl (by decide) rfl ?_
          refine v_sub [1, 2, 0] (lv2 := [(0, .ref a), (1, .int p1), (2, .int 0)]) rfl ?_
          exact ih.2 g 0  h.1 (by have := h.2; omega)
        · replace h := h.2 c5
          refine v_aload_n o 0 dX8_walks_8 rfl ?_
          refine v_gfR o lkX8_25 (by decide) (wfModel_o ha) (wfModel_r11 ha) dX8_walks_9 ?_
          refine v_iload_n o 2 dX8_walks_12 rfl ?_
          refine v_iload_n o 2 dX8_walks_13 rfl ?_
          refine v_iast o (wfModel_t11 ha) (wfModel_n11 ha) h.1 dX8_walks_14 ?_
          replace h := h.2
          refine v_nmf (fun g14 eg14 => ?_)
          replace h := h g14 eg14
          refine v_aload_n o 0 dX8_walks_15 rfl ?_
          refine v_gfR o lkX8_28 (by decide) (wfModel_o ha) (wfModel_r12 ha) dX8_walks_16 ?_
          refine v_iload_n o 2 dX8_walks_19 rfl ?_
          refine v_iconst o (v := 0) dX8_walks_20 (by decide) ?_
          refine v_iast o (wfModel_t12 ha) (wfModel_n12 ha) h.1 dX8_walks_21 ?_
          replace h := h.2
          refine v_nmf (fun g21 eg21 => ?_)
          replace h := h g21 eg21
          refine v_aload_n o 0 dX8_walks_22 rfl ?_
          refine v_gfR o lkX8_31 (by decide) (wfModel_o ha) (wfModel_r13 ha) dX8_walks_23 ?_
          refine v_iload_n o 2 dX8_walks_26 rfl ?_
          refine v_iconst o (v := 0) dX8_walks_27 (by decide) ?_
          refine v_iast o (wfModel_t13 ha) (wfModel_n13 ha) h.1 dX8_walks_28 ?_
          replace h := h.2
          refine v_nmf (fun g28 eg28 => ?_)
          replace h := h g28 eg28
          obtain ⟨x2_29, ex2_29⟩ : ∃ y : Int32, y = x2 + 1 := ⟨_, rfl⟩
          replace h := h x2_29 ex2_29
          refine v_iinc o (v := x2_29) (lv' := [(2, .int x2_29), (0, .ref a), (1, .int p1)]) 2 dX8_walks_29 rfl (by rw [ex2_29]; rfl) (by decide) rfl ?_
          refine v_goto o (tgt := 2) dX8_walks_32 (by decide) ?_
          refine v_sub [1, 2, 0] (lv2 := [(0, .ref a), (1, .int p1), (2, .int x2_29)]) rfl ?_
          exact ih.1 g28 x2_29  h.1 (by have := h.2; omega)
      · intro g x2 hI hm
        have h := h37 g x2 hI
        clear hI
        have J112 : ∀ (x2_112 : Int32) (x3_112 : Int32) (x4_112 : Int32) (x5_112 : Int32) (y1_112 : Int32) (g112 : St), jX8_walks_112 P a p1 (fun g' z0 => I2 g' z0 ∧ μ2 g' z0 < μ37 g x2) (fun g' z0 => I37 g' z0 ∧ μ37 g' z0 < μ37 g x2) K x2_112 x3_112 x4_112 x5_112 y1_112 g112 → V p l e rmX8_walks s m args below meth c 6 G (frA P sz) (MQ below (QcV G P sz K) args s 0 0 (frA P sz)) 0 0 P [(0, .ref a), (1, .int p1), (2, .int x2_112), (3, .int x3_112), (4, .int x4_112), (5, .int x5_112)] [.int y1_112, .ref a] 112 g112 := by
          intro x2_112 x3_112 x4_112 x5_112 y1_112 g112  h
          unfold jX8_walks_112 at h
          refine v_pf o lpX8_86 (wfModel_o ha) ⟨rfl, rfl⟩ dX8_walks_112 ?_
          refine v_nmf (fun g112 eg112 => ?_)
          replace h := h g112 eg112
          refine v_aload_n o 0 dX8_walks_115 rfl ?_
          refine v_gfR o lkX8_31 (by decide) (wfModel_o ha) (wfModel_r13 ha) dX8_walks_116 ?_
          refine v_aload_n o 0 dX8_walks_119 rfl ?_
          refine v_gfI o lkX8_83 (by decide) (wfModel_o ha) dX8_walks_120 ?_
          refine v_dup2 o dX8_walks_123 rfl rfl ?_
          refine v_iald o (wfModel_t13 ha) (wfModel_n13 ha) h.1 dX8_walks_124 ?_
          replace h := h.2
          refine v_iconst o (v := 1) dX8_walks_125 (by decide) ?_
          refine v_iadd o dX8_walks_126 ?_
          refine v_iast o (wfModel_t13 ha) (wfModel_n13 ha) h.1 dX8_walks_127 ?_
          replace h := h.2
          refine v_nmf (fun g127 eg127 => ?_)
          replace h := h g127 eg127
          refine v_aload_n o 0 dX8_walks_128 rfl ?_
          refine v_gfR o lkX8_28 (by decide) (wfModel_o ha) (wfModel_r12 ha) dX8_walks_129 ?_
          refine v_aload_n o 0 dX8_walks_132 rfl ?_
          refine v_gfI o lkX8_86 (by decide) (wfModel_o ha) dX8_walks_133 ?_
          refine v_dup2 o dX8_walks_136 rfl rfl ?_
          refine v_iald o (wfModel_t12 ha) (wfModel_n12 ha) h.1 dX8_walks_137 ?_
          replace h := h.2
          refine v_iconst o (v := 1) dX8_walks_138 (by decide) ?_
          refine v_iadd o dX8_walks_139 ?_
          refine v_iast o (wfModel_t12 ha) (wfModel_n12 ha) h.1 dX8_walks_140 ?_
          replace h := h.2
          refine v_nmf (fun g140 eg140 => ?_)
          replace h := h g140 eg140
          refine v_aload_n o 0 dX8_walks_141 rfl ?_
          refine v_gfR o lkX8_25 (by decide) (wfModel_o ha) (wfModel_r11 ha) dX8_walks_142 ?_
          refine v_iload_n o 3 dX8_walks_145 rfl ?_
          refine v_iload o 5 dX8_walks_146 rfl ?_
          refine v_iast o (wfModel_t11 ha) (wfModel_n11 ha) h.1 dX8_walks_148 ?_
          replace h := h.2
          refine v_nmf (fun g148 eg148 => ?_)
          replace h := h g148 eg148
          refine v_aload_n o 0 dX8_walks_149 rfl ?_
          refine v_gfR o lkX8_25 (by decide) (wfModel_o ha) (wfModel_r11 ha) dX8_walks_150 ?_
          refine v_iload_n o 3 dX8_walks_153 rfl ?_
          refine v_iconst o (v := 1) dX8_walks_154 (by decide) ?_
          refine v_iadd o dX8_walks_155 ?_
          refine v_iload o 4 dX8_walks_156 rfl ?_
          refine v_iast o (wfModel_t11 ha) (wfModel_n11 ha) h.1 dX8_walks_158 ?_
          replace h := h.2
          refine v_nmf (fun g158 eg158 => ?_)
          replace h := h g158 eg158
          obtain ⟨x2_159, ex2_159⟩ : ∃ y : Int32, y = x2_112 + 1 := ⟨_, rfl⟩
          replace h := h x2_159 ex2_159
          refine v_iinc o (v := x2_159) (lv' := [(2, .int x2_159), (0, .ref a), (1, .int p1), (3, .int x3_112), (4, .int x4_112), (5, .int x5_112)]) 2 dX8_walks_159 rfl (by rw [ex2_159]; rfl) (by decide) rfl ?_
          refine v_goto o (tgt := 37) dX8_walks_162 (by decide) ?_
          refine v_sub [1, 2, 0] (lv2 := [(0, .ref a), (1, .int p1), (2, .int x2_159)]) rfl ?_
          exact ih.2 g158 x2_159  h.1 (by have := h.2; omega)
        have J89 : ∀ (x2_89 : Int32) (x3_89 : Int32) (x4_89 : Int32) (x5_89 : Int32) (y1_89 : Int32) (g89 : St), jX8_walks_89 P a p1 (fun g' z0 => I2 g' z0 ∧ μ2 g' z0 < μ37 g x2) (fun g' z0 => I37 g' z0 ∧ μ37 g' z0 < μ37 g x2) K x2_89 x3_89 x4_89 x5_89 y1_89 g89 → V p l e rmX8_walks s m args below meth c 6 G (frA P sz) (MQ below (QcV G P sz K) args s 0 0 (frA P sz)) 0 0 P [(0, .ref a), (1, .int p1), (2, .int x2_89), (3, .int x3_89), (4, .int x4_89), (5, .int x5_89)] [.int y1_89, .ref a] 89 g89 := by
          intro x2_89 x3_89 x4_89 x5_89 y1_89 g89  h
          unfold jX8_walks_89 at h
          refine v_pf o lpX8_83 (wfModel_o ha) ⟨rfl, rfl⟩ dX8_walks_89 ?_
          refine v_nmf (fun g89 eg89 => ?_)
          replace h := h g89 eg89
          refine v_aload_n o 0 dX8_walks_92 rfl ?_
          refine v_aload_n o 0 dX8_walks_93 rfl ?_
          refine v_gfR o lkX8_22 (by decide) (wfModel_o ha) (wfModel_r8 ha) dX8_walks_94 ?_
          refine v_iload_n o 2 dX8_walks_97 rfl ?_
          refine v_iald o (wfModel_t8 ha) (wfModel_n8 ha) h.1 dX8_walks_98 ?_
          replace h := h.2
          refine v_iconst o (v := 2) dX8_walks_99 (by decide) ?_
          refine v_irem o dX8_walks_100 (by decide) ?_
          refine v_iconst o (v := 1) dX8_walks_101 (by decide) ?_
          refine v_icmp_ne o (tgt := 110) dX8_walks_102 (by decide) (fun c102 => ?_) (fun c102 => ?_)
          · replace h := h.1 c102
            refine v_iload o 4 dX8_walks_110 rfl ?_
            refine v_sub [0, 1, 2, 3, 4, 5] (lv2 := [(0, .ref a), (1, .int p1), (2, .int x2_89), (3, .int x3_89), (4, .int x4_89), (5, .int x5_89)]) rfl ?_
            exact J112 x2_89 x3_89 x4_89 x5_89 x4_89 g89  h
          · replace h := h.2 c102
            refine v_iload o 5 dX8_walks_105 rfl ?_
            refine v_goto o (tgt := 112) dX8_walks_107 (by decide) ?_
            refine v_sub [0, 1, 2, 3, 4, 5] (lv2 := [(0, .ref a), (1, .int p1), (2, .int x2_89), (3, .int x3_89), (4, .int x4_89), (5, .int x5_89)]) rfl ?_
            exact J112 x2_89 x3_89 x4_89 x5_89 x5_89 g89  h
        unfold bX8_walks_37 at h
        refine v_iload_n o 2 dX8_walks_37 rfl ?_
        refine v_iload_n o 1 dX8_walks_38 rfl ?_
        refine v_icmp_ge o (tgt := 165) dX8_walks_39 (by decide) (fun c39 => ?_) (fun c39 => ?_)
        · replace h := h.1 c39
          exact v_vret o rfl hr dX8_walks_165 h
        · replace h := h.2 c39
          refine v_aload_n o 0 dX8_walks_42 rfl ?_
          refine v_gfR o lkX8_22 (by decide) (wfModel_o ha) (wfModel_r8 ha) dX8_walks_43 ?_
          refine v_iload_n o 2 dX8_walks_46 rfl ?_
          refine v_iald o (wfModel_t8 ha) (wfModel_n8 ha) h.1 dX8_walks_47 ?_
          replace h := h.2
          refine v_iconst o (v := 2) dX8_walks_48 (by decide) ?_
          refine v_idiv o dX8_walks_49 (by decide) ?_
          refine v_topi (fun x3_50 ex3_50 => ?_)
          replace h := h x3_50 ex3_50
          refine v_istore_n o (lv' := [(3, .int x3_50), (0, .ref a), (1, .int p1), (2, .int x2)]) dX8_walks_50 rfl (by decide) rfl ?_
          refine v_aload_n o 1 dX8_walks_51 rfl ?_
          refine v_gfR o lkX8_25 (by decide) (wfModel_o ha) (wfModel_r11 ha) dX8_walks_52 ?_
          refine v_iload_n o 0 dX8_walks_55 rfl ?_
          refine v_iald o (wfModel_t11 ha) (wfModel_n11 ha) h.1 dX8_walks_56 ?_
          replace h := h.2
          refine v_topi (fun x4_57 ex4_57 => ?_)
          replace h := h x4_57 ex4_57
          refine v_istore o (lv' := [(4, .int x4_57), (3, .int x3_50), (0, .ref a), (1, .int p1), (2, .int x2)]) dX8_walks_57 (by decide) rfl ?_
          refine v_aload_n o 2 dX8_walks_59 rfl ?_
          refine v_gfR o lkX8_25 (by decide) (wfModel_o ha) (wfModel_r11 ha) dX8_walks_60 ?_
          refine v_iload_n o 1 dX8_walks_63 rfl ?_
          refine v_iconst o (v := 1) dX8_walks_64 (by decide) ?_
          refine v_iadd o dX8_walks_65 ?_
          refine v_iald o (wfModel_t11 ha) (wfModel_n11 ha) h.1 dX8_walks_66 ?_
          replace h := h.2
          refine v_topi (fun x5_67 ex5_67 => ?_)
          replace h := h x5_67 ex5_67
          refine v_istore o (lv' := [(5, .int x5_67), (4, .int x4_57), (3, .int x3_50), (0, .ref a), (1, .int p1), (2, .int x2)]) dX8_walks_67 (by decide) rfl ?_
          refine v_aload_n o 3 dX8_walks_69 rfl ?_
          refine v_aload_n o 3 dX8_walks_70 rfl ?_
          refine v_gfR o lkX8_22 (by decide) (wfModel_o ha) (wfModel_r8 ha) dX8_walks_71 ?_
          refine v_iload_n o 5 dX8_walks_74 rfl ?_
          refine v_iald o (wfModel_t8 ha) (wfModel_n8 ha) h.1 dX8_walks_75 ?_
          replace h := h.2
          refine v_iconst o (v := 2) dX8_walks_76 (by decide) ?_
          refine v_irem o dX8_walks_77 (by decide) ?_
          refine v_iconst o (v := 1) dX8_walks_78 (by decide) ?_
          refine v_icmp_ne o (tgt := 87) dX8_walks_79 (by decide) (fun c79 => ?_) (fun c79 => ?_)
          · replace h := h.1 c79
            refine v_iload o 0 dX8_walks_87 rfl ?_
            refine v_sub [3, 4, 5, 2, 1, 0] (lv2 := [(0, .ref a), (1, .int p1), (2, .int x2), (3, .int x3_50), (4, .int x4_57), (5, .int x5_67)]) rfl ?_
            exact J89 x2 x3_50 x4_57 x5_67 x5_67 g  h
          · replace h := h.2 c79
            refine v_iload o 1 dX8_walks_82 rfl ?_
            refine v_goto o (tgt := 89) dX8_walks_84 (by decide) ?_
            refine v_sub [3, 4, 5, 2, 1, 0] (lv2 := [(0, .ref a), (1, .int p1), (2, .int x2), (3, .int x3_50), (4, .int x4_57), (5, .int x5_67)]) rfl ?_
            exact J89 x2 x3_50 x4_57 x5_67 x4_57 g  h
  unfold vX8_walks at h
  refine v_iconst o (v := 0) dX8_walks_0 (by decide) ?_
  refine v_istore_n o (lv' := [(2, .int 0), (0, .ref a), (1, .int p1)]) dX8_walks_1 rfl (by decide) rfl ?_
  refine v_sub [1, 2, 0] (lv2 := [(0, .ref a), (1, .int p1), (2, .int 0)]) rfl ?_
  exact (main (μ2 f 0 + 1)).1 f 0  h (Nat.lt_succ_self _)
def WX8_walks (P : Sk) (f : St) (a : Nat) (p1 : Int32) (K : St → Prop) : Prop := ∃ (I2 : St → Int32 → Prop) (I37 : St → Int32 → Prop) (μ2 : St → Int32 → Nat) (μ37 : St → Int32 → Nat), (vX8_walks P f a p1 I2 I37 K) ∧ (∀ (g : St) (x2 : Int32) , I2 g x2 → bX8_walks_2 P a p1 (fun g' z0 => I2 g' z0 ∧ μ2 g' z0 < μ2 g x2) (fun g' z0 => I37 g' z0 ∧ μ37 g' z0 < μ2 g x2) K g x2) ∧ (∀ (g : St) (x2 : Int32) , I37 g x2 → bX8_walks_37 P a p1 (fun g' z0 => I2 g' z0 ∧ μ2 g' z0 < μ37 g x2) (fun g' z0 => I37 g' z0 ∧ μ37 g' z0 < μ37 g x2) K g x2)
def WkM (f : St) (a : Nat) (w : List Nat) (k : Nat) : Prop := ∀ p, p < 7 → f (a + 6) p = nI (wH w k p) ∧ f (a + 7) p = nI (tU w k p) ∧ f (a + 8) p = nI (tA w k p)
def kX8_walks (P : Sk) (f : St) (a : Nat) (p1 : Int32) (K : St → Prop) : Prop := ∃ n w m, p1 = nI m ∧ m ≤ w.length ∧ MW f a w ∧ Wok n w ∧ ∀ g, MF f g a (fun i => 6 ≤ i ∧ i ≤ 8) (fun j => j = 14 ∨ j = 15) → WkM g a w m → (0 < m → g a 14 = nI (hidA w (m - 1)) ∧ g a 15 = nI (abvA w (m - 1))) → K g
theorem wX8_walks (P : Sk) (f : St) (a : Nat) (ha : IsModel P a) (p1 : Int32) (K : St → Prop) (h : kX8_walks P f a p1 K) : WX8_walks P f a p1 K := by
  obtain ⟨n, w, m, rfl, hm, hw, ho, hK⟩ := h
  have h7 := ho.2.1
  have hl := ho.2.2.1
  refine ⟨fun g x => ∃ k, x = nI k ∧ k ≤ 7 ∧ MF f g a (fun i => 6 ≤ i ∧ i ≤ 8) (fun j => j = 14 ∨ j = 15) ∧ ∀ p, p < k → g (a + 6) p = nI p ∧ g (a + 7) p = nI 0 ∧ g (a + 8) p = nI 0,
    fun g x => ∃ k, x = nI k ∧ k ≤ m ∧ MF f g a (fun i => 6 ≤ i ∧ i ≤ 8) (fun j => j = 14 ∨ j = 15) ∧ WkM g a w k ∧ (0 < k → g a 14 = nI (hidA w (k - 1)) ∧ g a 15 = nI (abvA w (k - 1))),
    fun g x => 1000 + (7 - x.toNatClampNeg), fun g x => m - x.toNatClampNeg, ?_, ?_, ?_⟩
  · exact ⟨0, rfl, by omega, MF.refl _ _ _ _, fun p hp => absurd hp (Nat.not_lt_zero _)⟩
  · rintro g x ⟨k, rfl, hk, hfr, hA⟩
    unfold bX8_walks_2
    rw [show (7 : Int32) = nI 7 from rfl, nI_leI (by omega) (by omega)]
    refine ⟨fun q => ⟨⟨0, rfl, Nat.zero_le _, hfr, fun p hp => hA p (by omega), fun q2 => absurd q2 (by omega)⟩, ?_⟩, fun q => ?_⟩
    · show m - (nI 0).toNatClampNeg < 1000 + (7 - (nI k).toNatClampNeg)
      omega
    · have hin : vp_in (nI k) 7 := vp_nI (by omega) (by decide)
      rw [nI_clamp (by omega), nI_1]
      refine ⟨hin, fun g1 e1 => ⟨hin, fun g2 e2 => ⟨hin, fun g3 e3 y e => ⟨⟨k + 1, e, by omega, ?_, fun p hp => ?_⟩, ?_⟩⟩⟩⟩
      · rw [e3, e2, e1]
        exact hfr.trans ((mf_arr g (by omega) (by decide)).trans ((mf_arr _ (by omega) (by decide)).trans (mf_arr _ (by omega) (by decide))))
      · rw [e3, e2, e1]
        by_cases c : p = k
        · rw [c]
          refine ⟨?_, ?_, ?_⟩
          · rw [setf_off (Or.inl (by omega)), setf_off (Or.inl (by omega)), setf_same]
          · rw [setf_off (Or.inl (by omega)), setf_same]
            rfl
          · rw [setf_same]
            rfl
        · rw [setf_off (Or.inr c), setf_off (Or.inr c), setf_off (Or.inr c), setf_off (Or.inr c), setf_off (Or.inr c), setf_off (Or.inr c), setf_off (Or.inr c), setf_off (Or.inr c), setf_off (Or.inr c)]
          exact hA p (by omega)
      · have := mu_up (N := 7) e (by omega) (by omega)
        show 1000 + (7 - y.toNatClampNeg) < 1000 + (7 - (nI k).toNatClampNeg)
        omega
  · rintro g x ⟨k, rfl, hk, hfr, hW, hlast⟩
    unfold bX8_walks_37
    rw [nI_leI (by omega) (by omega)]
    refine ⟨fun q => ?_, fun q => ?_⟩
    · have e : k = m := by omega
      rw [e] at hW hlast
      exact hK g hfr hW hlast
    · have hg := hw.keep hfr (fun i hi => by omega) (by omega)
      have hc := ho.lt (i := k) (by omega)
      have hpl := ho.pl (k := k) (by omega)
      have hr : nI (w.getD k 0) - nI (w.getD k 0) / nI 2 * nI 2 = nI (w.getD k 0 % 2) := pk_rem (by omega) (by decide) (by decide)
      have hin : vp_in (nI k) 50 := vp_nI (by omega) (by decide)
      have i3 : vp_in (nI (w.getD k 0 / 2)) 7 := vp_nI (by omega) (by decide)
      have i4 : vp_in (nI (w.getD k 0 / 2 + 1)) 7 := vp_nI (by omega) (by decide)
      have main : ∀ T B, T = abvA w k → B = hidA w k → ∀ g0, g0 = setf g a 15 (nI T) → jX8_walks_112 P a (nI m) (fun g' z0 => (∃ k, z0 = nI k ∧ k ≤ 7 ∧ MF f g' a (fun i => 6 ≤ i ∧ i ≤ 8) (fun j => j = 14 ∨ j = 15) ∧ ∀ p, p < k → g' (a + 6) p = nI p ∧ g' (a + 7) p = nI 0 ∧ g' (a + 8) p = nI 0) ∧ 1000 + (7 - z0.toNatClampNeg) < m - (nI k).toNatClampNeg) (fun g' z0 => (∃ k, z0 = nI k ∧ k ≤ m ∧ MF f g' a (fun i => 6 ≤ i ∧ i ≤ 8) (fun j => j = 14 ∨ j = 15) ∧ WkM g' a w k ∧ (0 < k → g' a 14 = nI (hidA w (k - 1)) ∧ g' a 15 = nI (abvA w (k - 1)))) ∧ m - z0.toNatClampNeg < m - (nI k).toNatClampNeg) K (nI k) (nI (w.getD k 0 / 2)) (nI (wH w k (w.getD k 0 / 2))) (nI (wH w k (w.getD k 0 / 2 + 1))) (nI B) g0 := by
        intro T B eT eB g0 e0
        have hT := abv_lt ho (k := k) (by omega)
        have hB := hid_lt ho (k := k) (by omega)
        rw [← eT] at hT
        rw [← eB] at hB
        unfold jX8_walks_112
        intro g1 e1
        have a15 : g1 a 15 = nI T := by rw [e1, setf_off (Or.inr (by omega)), e0, setf_same]
        have a14 : g1 a 14 = nI B := by rw [e1, setf_same]
        have r1 : ∀ q, q ≠ a → g1 q = g q := fun q hq => by rw [e1, setf_row hq, e0, setf_row hq]
        rw [a15, nI_clamp (by omega)]
        refine ⟨vp_nI (by omega) (by decide), vp_nI (by omega) (by decide), fun g2 e2 => ?_⟩
        have b14 : g2 a 14 = nI B := by rw [e2, setf_off (Or.inl (by omega)), a14]
        rw [b14, nI_clamp (by omega)]
        refine ⟨vp_nI (by omega) (by decide), vp_nI (by omega) (by decide), fun g3 e3 => ?_⟩
        rw [nI_1, nI_clamp (by omega), nI_clamp (by omega), nI_1]
        refine ⟨i3, fun g4 e4 => ⟨i4, fun g5 e5 y e => ⟨⟨k + 1, e, by omega, ?_, fun p hp => ⟨?_, ?_, ?_⟩, fun _ => ⟨?_, ?_⟩⟩, mu_up e (by omega) (by omega)⟩⟩⟩
        · rw [e5, e4, e3, e2, e1, e0]
          exact hfr.trans ((mf_fld _ (Or.inr rfl)).trans ((mf_fld _ (Or.inl rfl)).trans ((mf_arr _ (by omega) (by decide)).trans ((mf_arr _ (by omega) (by decide)).trans ((mf_arr _ (by omega) (by decide)).trans (mf_arr _ (by omega) (by decide)))))))
        · simp only [wH, sw]
          by_cases c1 : p = w.getD k 0 / 2
          · rw [if_pos c1, c1, e5, setf_off (Or.inr (by omega)), e4, setf_same]
          · rw [if_neg c1]
            by_cases c2 : p = w.getD k 0 / 2 + 1
            · rw [if_pos c2, c2, e5, setf_same]
            · rw [if_neg c2, e5, setf_off (Or.inr c2), e4, setf_off (Or.inr c1), e3, setf_off (Or.inl (by omega)), e2, setf_off (Or.inl (by omega)), r1 _ (by omega)]
              exact (hW p hp).1
        · simp only [tU]
          rw [e5, setf_off (Or.inl (by omega)), e4, setf_off (Or.inl (by omega)), e3]
          by_cases c : p = B
          · rw [if_pos (c.trans eB), c, setf_same, e2, setf_off (Or.inl (by omega)), r1 _ (by omega), (hW B (by omega)).2.1, nI_1]
          · rw [if_neg (fun q => c (q.trans eB.symm)), setf_off (Or.inr c), e2, setf_off (Or.inl (by omega)), r1 _ (by omega)]
            exact (hW p hp).2.1
        · simp only [tA]
          rw [e5, setf_off (Or.inl (by omega)), e4, setf_off (Or.inl (by omega)), e3, setf_off (Or.inl (by omega)), e2]
          by_cases c : p = T
          · rw [if_pos (c.trans eT), c, setf_same, r1 _ (by omega), (hW T (by omega)).2.2, nI_1]
          · rw [if_neg (fun q => c (q.trans eT.symm)), setf_off (Or.inr c), r1 _ (by omega)]
            exact (hW p hp).2.2
        · rw [e5, setf_off (Or.inl (by omega)), e4, setf_off (Or.inl (by omega)), e3, setf_off (Or.inl (by omega)), b14, eB]
          rfl
        · rw [e5, setf_off (Or.inl (by omega)), e4, setf_off (Or.inl (by omega)), e3, setf_off (Or.inl (by omega)), e2, setf_off (Or.inl (by omega)), a15, eT]
          rfl
      have w1 := (hW (w.getD k 0 / 2) (by omega)).1
      have w2 := (hW (w.getD k 0 / 2 + 1) (by omega)).1
      refine ⟨hin, fun x3 e3 => ?_⟩
      rw [nI_clamp (by omega), hg.2 k (by omega), show (2 : Int32) = nI 2 from rfl, pk_div (by omega) (by decide) (by decide)] at e3
      subst e3
      rw [nI_1, nI_clamp (by omega), nI_clamp (by omega)]
      refine ⟨i3, fun x4 e4 => ⟨i4, fun x5 e5 => ⟨hin, ?_⟩⟩⟩
      rw [w1] at e4
      rw [w2] at e5
      subst e4
      subst e5
      rw [nI_clamp (by omega), hg.2 k (by omega), show (2 : Int32) = nI 2 from rfl, hr, show (1 : Int32) = nI 1 from rfl, nI_eq (by omega) (by omega)]
      unfold jX8_walks_89
      have rd : ∀ v, setf g a 15 v (a + 5) k = nI (w.getD k 0) := fun v => by rw [setf_off (Or.inl (by omega))]; exact hg.2 k (by omega)
      refine ⟨fun q => ?_, fun q => ?_⟩
      · intro g0 e0
        rw [e0, nI_clamp (by omega), rd, show (2 : Int32) = nI 2 from rfl, hr, show (1 : Int32) = nI 1 from rfl, nI_eq (by omega) (by omega)]
        refine ⟨hin, fun _ => main _ _ ?_ ?_ _ rfl, fun q2 => absurd q2 q⟩
        · unfold abvA
          rw [if_neg q]
        · unfold hidA
          rw [if_neg q]
      · intro g0 e0
        rw [e0, nI_clamp (by omega), rd, show (2 : Int32) = nI 2 from rfl, hr, show (1 : Int32) = nI 1 from rfl, nI_eq (by omega) (by omega)]
        refine ⟨hin, fun q2 => absurd q q2, fun _ => main _ _ ?_ ?_ _ rfl⟩
        · unfold abvA
          rw [if_pos q]
        · unfold hidA
          rw [if_pos q]

theorem metX8_walks (l : Launch) (G : Gl) (P : Sk) (f : St) (sz : Nat) (a : Nat) (ha : IsModel P a) (p1 : Int32) (K : St → Prop) (h : kX8_walks P f a p1 K) : Met l yX8_walks (wU yX8_walks cX8_walks 6 none) rmX8_walks (PcW G P f sz [.ref a, .int p1]) (QcV G P sz K) 0 0 (frA P sz) := by
  obtain ⟨I2, I37, μ2, μ37, qh, qh2, qh37⟩ := wX8_walks P f a ha p1 K h
  exact mX8_walks l G P f sz a ha p1 K I2 μ2 I37 μ37 qh qh2 qh37

