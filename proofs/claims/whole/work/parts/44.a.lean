/-! what a call of the reference leaves -/
def An (f g : St) (m : Nat) : Prop := MF f g m (fun i => i ≤ 10) (fun _ => True)
theorem MF.an {f g : St} {m : Nat} {A J : Nat → Prop} (r : MF f g m A J) (hA : ∀ i, A i → i ≤ 10) : An f g m := r.mono hA (fun _ _ => trivial)
theorem Scr.an {f g : St} {m : Nat} (r : Scr f g m) : An f g m := r.mono (fun i h => h.2) (fun _ _ => trivial)
theorem An.fr {f g : St} {m : Nat} (r : An f g m) : Fr f g m (m + 11) := fun q hq => r.1 q (by omega) (fun i hi => by omega)
def FinM (f : St) (m : Nat) (re : Re) (K : Int32 → St → Prop) : Prop := ∀ g v, An f g m → g m 0 = nI re.1 → (re.1 = 0 → v = re.2.1) → MIs g m re.2.2 → K v g
theorem FinM.no {f g : St} {m c : Nat} {A : Ab} {K : Int32 → St → Prop} (h : FinM f m (c, 0, A) K) (hM : MIs g m A) (r : An f g m) : K 0 (setf g m 0 (nI c)) := h _ 0 (MF.trans r (mf_fld g trivial)) (setf_same ..) (fun _ => rfl) hM.thr
theorem FinM.ok {f g : St} {m : Nat} {v : Int32} {A : Ab} {K : Int32 → St → Prop} (h : FinM f m (0, v, A) K) (hM : MIs g m A) (h0 : g m 0 = 0) (r : An f g m) : K v g := h g v r h0 (fun _ => rfl) hM
theorem mi_start {f g : St} {m : Nat} {A : Ab} (hM : MIs f m A) (e : g = setf f m 0 0) : MIs g m A ∧ g m 0 = 0 ∧ An f g m := by
  rw [e]
  exact ⟨hM.thr, setf_same .., mf_fld f trivial⟩
theorem MIs.bok {f : St} {m : Nat} {A : Ab} (h : MIs f m A) : Bok A.1 := h.2.2.2.2.2.1
theorem MIs.hok {f : St} {m : Nat} {A : Ab} (h : MIs f m A) : Hok A.2.1 := h.2.2.2.2.2.2
theorem MIs.tok {f : St} {m : Nat} {A : Ab} (h : MIs f m A) : Tok A.2.2.2 := h.2.2.2.2.1
theorem MIs.txm {f : St} {m : Nat} {A : Ab} (h : MIs f m A) : TxM f m A.2.2.2 := h.2.2.2.1
theorem TxM.keep {f g : St} {m : Nat} {b : List Nat} {A J : Nat → Prop} (h : TxM f m b) (r : MF f g m A J) (hA : ∀ i, A i → i ≠ 4) (hJ : ¬ J 7) : TxM g m b := by
  unfold TxM at h ⊢
  rw [r.2 7 hJ, r.1 (m + 4) (by omega) (fun i hi => by have := hA i hi; omega)]
  exact h
theorem LfM.far {f g : St} {q b : Nat} {y : Lf} (h : LfM f q b y) (h24 : y.2.length ≤ 24) (e : ∀ j, b ≤ j → j < b + 26 → g q j = f q j) : LfM g q b y := ⟨(e b (by omega) (by omega)).trans h.1, (e (b + 1) (by omega) (by omega)).trans h.2.1, fun j hj => (e (b + 2 + j) (by omega) (by omega)).trans (h.2.2 j hj)⟩
theorem StM.put {f g : St} {a : Nat} {p : Int32} {bd : Bd} {y : Lf} (h : StM f (a + 1) 0 bd) (hb : Bok bd) (hp : hasB bd p) (r : RwF f g (a + 1) (4 + 26 * p.toNatClampNeg) (4 + 26 * p.toNatClampNeg + 26)) (hL : LfM g (a + 1) (4 + 26 * p.toNatClampNeg) y) : StM g (a + 1) 0 (putL bd p y) := by
  have l1 : (bd.1.set p.toNatClampNeg y).length = bd.1.length := List.length_set
  refine ⟨?_, (r 1 (by omega)).trans h.2.1, (r 2 (by omega)).trans h.2.2.1, (r 3 (by omega)).trans h.2.2.2.1, fun i hi => ?_⟩
  · show g (a + 1) 0 = nI (bd.1.set p.toNatClampNeg y).length
    rw [l1, r 0 (by omega)]
    exact h.1
  · have hi2 : i < bd.1.length := by
      rw [← l1]
      exact hi
    show LfM g (a + 1) (0 + 4 + 26 * i) (lfAt (bd.1.set p.toNatClampNeg y) i)
    rw [lf_set _ _ _ _ hp.2, Nat.zero_add]
    by_cases c : i = p.toNatClampNeg
    · rw [if_pos c, c]
      exact hL
    · rw [if_neg c]
      exact (h.lf hi2).far (hb.at hi2).1.2.2.1 (fun j h1 h2 => r j (by omega))
theorem has_put {bd : Bd} {p : Int32} {y : Lf} (h : hasB bd p) : hasB (putL bd p y) p ∧ lfP (putL bd p y) p = y := by
  refine ⟨⟨h.1, ?_⟩, ?_⟩
  · show _ < (bd.1.set p.toNatClampNeg y).length
    rw [List.length_set]
    exact h.2
  · show lfAt (bd.1.set p.toNatClampNeg y) _ = y
    rw [lf_set _ _ _ _ h.2, if_pos rfl]
theorem u8_put {P : Sk} {g : St} {a : Nat} {p : Int32} {bd : Bd} {y : Lf} {K : St → Prop} (hS : StM g (a + 1) 0 bd) (hb : Bok bd) (hp : hasB bd p) (h24 : y.2.length ≤ 24) (hw : MW g a y.2) (hn : g a 10 = nI y.1) (hK : ∀ h, MF g h a (fun i => i = 1) (fun _ => False) → StM h (a + 1) 0 (putL bd p y) → K h) : kX8_puts P g a p K := by
  have h6 := hb.1
  have h2 := hp.2
  exact ⟨p.toNatClampNeg, y.1, y.2, nI_cl hp.1, by omega, hw, h24, hn, fun h r rw L => hK h r (hS.put hb hp rw L)⟩
theorem SnM.keep {f g : St} {m : Nat} {sn : Option Bd} (h : SnM f m sn) (e3 : g (m + 3) = f (m + 3)) (e5 : g m 5 = f m 5) : SnM g m sn := by
  rcases h with ⟨e, h3⟩ | ⟨s, e, h3, h8, h9⟩
  · exact Or.inl ⟨e, by rw [e5]; exact h3⟩
  · exact Or.inr ⟨s, e, by rw [e5]; exact h3, h8.row e3, h9⟩
theorem HiM.row {f g : St} {a : Nat} {hs : List Bd} (h : HiM f a hs) (e2 : g (a + 2) = f (a + 2)) (e3 : g a 3 = f a 3) : HiM g a hs := ⟨by rw [e3]; exact h.1, fun i hi => (h.2 i hi).row e2⟩
theorem mi_mk {f g : St} {a : Nat} {A : Ab} {bd : Bd} {hs : List Bd} (hM : MIs f a A) (r : MF f g a (fun i => i ≠ 3 ∧ i ≠ 4) (fun j => j ≠ 5 ∧ j ≠ 7)) (hS : StM g (a + 1) 0 bd) (hb : Bok bd) (hH : HiM g a hs) (hk : Hok hs) : MIs g a (bd, hs, A.2.2) :=
  ⟨hS, hH, hM.2.2.1.keep (r.1 (a + 3) (by omega) (fun i hi => by omega)) (r.2 5 (by omega)), hM.txm.keep r (fun i hi => hi.2) (by omega), hM.tok, hb, hk⟩
theorem u8_recput {P : Sk} {g : St} {a : Nat} {p : Int32} {A : Ab} {y : Lf} {K : St → Prop} (hM : MIs g a A) (hp : hasB A.1 p) (hy : Lok y) (hw : MW g a y.2) (hn : g a 10 = nI y.1) (hK : ∀ h, MF g h a (fun i => i = 1 ∨ i = 2) (fun j => j = 3) → MIs h a (sv A (putL A.1 p y)) → K h) : kX8_records P g a (fun g' => kX8_puts P g' a p (fun h => K h)) := by
  refine ⟨A.2.1, A.1, hM.2.1, hM.hok, hM.1, hM.bok, fun g1 r1 H1 => ?_⟩
  have S1 := hM.1.row (r1.1 (a + 1) (by omega) (fun i hi => by omega))
  refine u8_put S1 hM.bok hp hy.1.2.2.1 (hw.keep r1 (fun i hi => by omega) (by omega)) (by rw [r1.2 10 (by omega)]; exact hn) (fun h r2 S2 => ?_)
  have r12 : MF g h a (fun i => i = 1 ∨ i = 2) (fun j => j = 3) := (r1.mono (fun i hi => Or.inr hi) (fun _ hj => hj)).trans (r2.mono (fun i hi => Or.inl hi) (fun _ hj => absurd hj id))
  exact hK h r12 (mi_mk hM (r12.mono (fun i hi => by omega) (fun j hj => by omega)) S2 (hM.bok.put hy) (H1.row (r2.1 (a + 2) (by omega) (fun i hi => by omega)) (r2.2 3 id)) (hM.hok.sv hM.bok))
theorem MIs.adc {h : St} {a : Nat} {A : Ab} {bd : Bd} {g : St} (hM : MIs h a (sv A bd)) (e : g = setf h (a + 1) 1 (h (a + 1) 1 + 1)) : MIs g a (sv A (adC bd)) ∧ StM g (a + 1) 0 (adC bd) ∧ MF h g a (fun i => i = 1) (fun _ => False) := by
  have r : MF h g a (fun i => i = 1) (fun _ => False) := by
    rw [e]
    exact mf_arr h rfl (by decide)
  have rw1 : ∀ j, j ≠ 1 → g (a + 1) j = h (a + 1) j := fun j hj => by rw [e, setf_off (Or.inr hj)]
  have hS := hM.1
  have hb : Bok bd := hM.bok
  have S : StM g (a + 1) 0 (adC bd) := by
    refine ⟨(rw1 0 (by decide)).trans hS.1, ?_, (rw1 2 (by decide)).trans hS.2.2.1, (rw1 3 (by decide)).trans hS.2.2.2.1, fun i hi => ?_⟩
    · show g (a + 1) 1 = bd.2.1 + 1
      rw [e, setf_same]
      exact congrArg (· + 1) hS.2.1
    · exact (hS.2.2.2.2 i hi).far (hb.at (i := i) hi).1.2.2.1 (fun j h1 h2 => rw1 j (by omega))
  exact ⟨mi_mk (A := sv A bd) hM (r.mono (fun i hi => by omega) (fun j hj => absurd hj id)) S hb (hM.2.1.row (r.1 (a + 2) (by omega) (fun i hi => by omega)) (r.2 3 id)) hM.hok, S, r⟩
theorem MIs.clr {g h : St} {a : Nat} {A : Ab} (hM : MIs g a A) (e : h = setf g a 7 0) : MIs h a (A.1, A.2.1, A.2.2.1, []) ∧ MF g h a (fun _ => False) (fun j => j = 7) := by
  have r : MF g h a (fun _ => False) (fun j => j = 7) := by
    rw [e]
    exact mf_fld g rfl
  have rr : ∀ i, 0 < i → h (a + i) = g (a + i) := fun i hi => r.1 _ (by omega) (fun _ q => absurd q id)
  refine ⟨⟨hM.1.row (rr 1 (by decide)), hM.2.1.row (rr 2 (by decide)) (r.2 3 (by decide)), hM.2.2.1.keep (rr 3 (by decide)) (r.2 5 (by decide)), ⟨?_, fun i hi => absurd hi (Nat.not_lt_zero _)⟩, ⟨Nat.zero_le _, fun c hc => absurd hc (List.not_mem_nil)⟩, hM.bok, hM.hok⟩, r⟩
  rw [e, setf_same]
  rfl
