/-! the law: class and reference answer the same, call by call -/
theorem cif_b {p : Prop} {x y : Re} {n : Nat} (h1 : x.1 ≤ n) (h2 : y.1 ≤ n) : (cif p x y).1 ≤ n := by
  by_cases c : p
  · rw [cif_pos c]
    exact h1
  · rw [cif_neg c]
    exact h2
theorem MIs.rows {f g : St} {m : Nat} {A : Ab} (h : MIs f m A) (e : ∀ i, i ≤ 4 → g (m + i) = f (m + i)) : MIs g m A := by
  have e0 : g m = f m := e 0 (by decide)
  refine ⟨h.1.row (e 1 (by decide)), h.2.1.row (e 2 (by decide)) (congrFun e0 3), h.2.2.1.keep (e 3 (by decide)) (congrFun e0 5), ?_, h.tok, h.bok, h.hok⟩
  have ht := h.txm
  unfold TxM at ht ⊢
  rw [e0, e 4 (by decide)]
  exact ht
theorem lg_self (x : Int64) : lg_cmp x x = 0 := by
  unfold lg_cmp
  rw [if_neg (Int64.lt_irrefl), if_pos rfl]
def LI (sz : Nat) (P : Sk) (f : St) (x4 : Int32) : Prop := ∃ A i, x4 = nI i ∧ i ≤ 2048 ∧ IsComp P (sz + 0) ∧ IsModel P (sz + 1438) ∧ (Ob P (sz + 1449) 10 ∧ sN P (sz + 1449) = 1) ∧ CompIs f (sz + 0) A ∧ MIs f (sz + 1438) A
def lawM (x : Int32) : Nat := 2048 - x.toNatClampNeg
theorem law_next {sz i : Nat} {P : Sk} {g : St} {A : Ab} (hi : i + 4 ≤ 2048) (hx : IsComp P (sz + 0)) (hm : IsModel P (sz + 1438)) (ho : Ob P (sz + 1449) 10 ∧ sN P (sz + 1449) = 1) (C : CompIs g (sz + 0) A) (M : MIs g (sz + 1438) A) : ∀ y : Int32, y = nI i + 4 → (LI sz P g y ∧ (nI i).toNatClampNeg + 1 ≤ y.toNatClampNeg ∧ lawM y < lawM (nI i)) := by
  intro y ey
  rw [show (4 : Int32) = nI 4 from rfl, nI_add] at ey
  refine ⟨⟨A, i + 4, ey, hi, hx, hm, ho, C, M⟩, ?_⟩
  unfold lawM
  rw [ey, nI_clamp (n := i + 4) (by omega), nI_clamp (n := i) (by omega)]
  omega
theorem law_tail {sz i : Nat} {P : Sk} {g : St} {R : Re} {k v : Int32} {j : Option Int64} (hi : i + 4 ≤ 2048) (hx : IsComp P (sz + 0)) (hm : IsModel P (sz + 1438)) (ho : Ob P (sz + 1449) 10 ∧ sN P (sz + 1449) = 1) (h0 : g (sz + 1438) 0 = nI R.1) (hR : R.1 < 8) (hv : R.1 = 0 → v = R.2.1) (hk : k = nI R.1) (hj : R.1 = 0 → j = some R.2.1.toInt64) (C : CompIs g (sz + 0) R.2.2) (M : MIs g (sz + 1438) R.2.2) :
    kX8_thrown (setJO P (sz + 1449) j) g (sz + 1438) (fun r166 g166 => (r166 = k → (¬ k = 0 → ∀ x4_1546 : Int32, x4_1546 = nI i + 4 → (LI sz (setJO P (sz + 1449) j) g166 x4_1546 ∧ (nI i).toNatClampNeg + 1 ≤ x4_1546.toNatClampNeg ∧ lawM x4_1546 < lawM (nI i))) ∧ (k = 0 → (lg_cmp (sJ (setJO P (sz + 1449) j) (sz + 1449) ((0 : Int32)).toNatClampNeg) (v.toInt64) = 0 → ∀ x4_1546 : Int32, x4_1546 = nI i + 4 → (LI sz (setJO P (sz + 1449) j) g166 x4_1546 ∧ (nI i).toNatClampNeg + 1 ≤ x4_1546.toNatClampNeg ∧ lawM x4_1546 < lawM (nI i))) ∧ (¬ lg_cmp (sJ (setJO P (sz + 1449) j) (sz + 1449) ((0 : Int32)).toNatClampNeg) (v.toInt64) = 0 → False))) ∧ (¬ r166 = k → False)) := by
  have nx := law_next (P := setJO P (sz + 1449) j) hi (isComp_J hx) (isModel_J hm) ho C M
  show vX8_thrown (setJO P (sz + 1449) j) g (sz + 1438) _
  unfold vX8_thrown
  refine ⟨fun _ => ⟨fun _ => nx, fun e => ⟨fun _ => nx, fun q => q ?_⟩⟩, fun q => q (h0.trans hk.symm)⟩
  rw [hk, show (0 : Int32) = nI 0 from rfl, nI_eq (by omega) (by decide)] at e
  rw [hj e, hv e, tn0]
  have e2 : sJ (setJO P (sz + 1449) (some R.2.1.toInt64)) (sz + 1449) 0 = R.2.1.toInt64 := by
    simp [setJO, sJ]
  rw [e2]
  exact lg_self _
theorem fin_law {f : St} {x n : Nat} {R : Re} {K : Int32 → Option Int64 → St → Prop} {X : String → St → Prop} {e1 e2 e3 : String} (hX1 : ∀ g, K 1 none g → X e1 g) (hX2 : 2 ≤ n → ∀ g, K 2 none g → X e2 g) (hX3 : 3 ≤ n → ∀ g, K 3 none g → X e3 g) (hn : R.1 ≤ n) (h : ∀ g, Fr f g x (x + 1438) → CompIs g x R.2.2 → ∀ k j, k = nI R.1 → (R.1 = 0 → j = some R.2.1.toInt64) → K k j g) : Fin f x R (fun r g => K 0 (some r.toInt64) g) X e1 e2 e3 := by
  intro g r C
  have hh := h g r C
  refine ⟨fun e => hh 0 _ (by rw [e]; rfl) (fun _ => rfl), fun e => hX1 g (hh 1 none (by rw [e]; rfl) (fun q => by omega)), fun e => hX2 (by omega) g (hh 2 none (by rw [e]; rfl) (fun q => by omega)), fun e => hX3 (by omega) g (hh 3 none (by rw [e]; rfl) (fun q => by omega))⟩
theorem bd_lay (A : Ab)  : (opLay A).1 ≤ 2 := by
  unfold opLay
  repeat' (first | exact Nat.le_of_ble_eq_true rfl | apply cif_b | split)
theorem cl_lay {P : Sk} {f : St} {x out : Nat} {A : Ab} {K : Int32 → Option Int64 → St → Prop} (hx : IsComp P x) (C : CompIs f x A) (h : ∀ g, Fr f g x (x + 1438) → CompIs g x (opLay A).2.2 → ∀ k j, k = nI (opLay A).1 → ((opLay A).1 = 0 → j = some (opLay A).2.1.toInt64) → K k j g) : kL_lay P f x out K := by
  unfold kL_lay
  exact u7_lay hx C (fin_law (n := 2) (R := opLay A) (fun g h => Or.inl ⟨rfl, h⟩) (fun _ g h => Or.inr ⟨rfl, h⟩) (fun q => absurd q (by decide)) (bd_lay A) h)
theorem bd_bake (A : Ab) (p : Int32) : (opBake A p).1 ≤ 1 := by
  unfold opBake
  repeat' (first | exact Nat.le_of_ble_eq_true rfl | apply cif_b | split)
theorem cl_bake {P : Sk} {f : St} {x out : Nat} {A : Ab} {p : Int32} {K : Int32 → Option Int64 → St → Prop} (hx : IsComp P x) (C : CompIs f x A) (h : ∀ g, Fr f g x (x + 1438) → CompIs g x (opBake A p).2.2 → ∀ k j, k = nI (opBake A p).1 → ((opBake A p).1 = 0 → j = some (opBake A p).2.1.toInt64) → K k j g) : kL_bake P f x p out K := by
  unfold kL_bake
  exact u7_bake C (fin_law (n := 1) (R := opBake A p) (fun g h => ⟨rfl, h⟩) (fun q => absurd q (by decide)) (fun q => absurd q (by decide)) (bd_bake A p) h)
theorem bd_cross (A : Ab) (p q : Int32) (r : Nat) : (opCross A p q r).1 ≤ 2 := by
  unfold opCross
  repeat' (first | exact Nat.le_of_ble_eq_true rfl | apply cif_b | split)
theorem cl_cross {P : Sk} {f : St} {x out : Nat} {A : Ab} {p q : Int32} {r : Nat} (hr : r < 2) {K : Int32 → Option Int64 → St → Prop} (hx : IsComp P x) (C : CompIs f x A) (h : ∀ g, Fr f g x (x + 1438) → CompIs g x (opCross A p q r).2.2 → ∀ k j, k = nI (opCross A p q r).1 → ((opCross A p q r).1 = 0 → j = some (opCross A p q r).2.1.toInt64) → K k j g) : kL_cross P f x p q (nI r) out K := by
  unfold kL_cross
  exact u7_cross hx C hr (fin_law (n := 2) (R := opCross A p q r) (fun g h => Or.inl ⟨rfl, h⟩) (fun _ g h => Or.inr ⟨rfl, h⟩) (fun q => absurd q (by decide)) (bd_cross A p q r) h)
theorem bd_back (A : Ab) (p : Int32) : (opBack A p).1 ≤ 2 := by
  unfold opBack
  repeat' (first | exact Nat.le_of_ble_eq_true rfl | apply cif_b | split)
theorem cl_back {P : Sk} {f : St} {x out : Nat} {A : Ab} {p : Int32} {K : Int32 → Option Int64 → St → Prop} (hx : IsComp P x) (C : CompIs f x A) (h : ∀ g, Fr f g x (x + 1438) → CompIs g x (opBack A p).2.2 → ∀ k j, k = nI (opBack A p).1 → ((opBack A p).1 = 0 → j = some (opBack A p).2.1.toInt64) → K k j g) : kL_back P f x p out K := by
  unfold kL_back
  exact u7_back hx C (fin_law (n := 2) (R := opBack A p) (fun g h => Or.inl ⟨rfl, h⟩) (fun _ g h => Or.inr ⟨rfl, h⟩) (fun q => absurd q (by decide)) (bd_back A p) h)
theorem bd_change (A : Ab) (p q : Int32) : (opChange A p q).1 ≤ 3 := by
  unfold opChange
  repeat' (first | exact Nat.le_of_ble_eq_true rfl | apply cif_b | split)
theorem cl_change {P : Sk} {f : St} {x out : Nat} {A : Ab} {p q : Int32} {K : Int32 → Option Int64 → St → Prop} (hx : IsComp P x) (C : CompIs f x A) (h : ∀ g, Fr f g x (x + 1438) → CompIs g x (opChange A p q).2.2 → ∀ k j, k = nI (opChange A p q).1 → ((opChange A p q).1 = 0 → j = some (opChange A p q).2.1.toInt64) → K k j g) : kL_change P f x p q out K := by
  unfold kL_change
  exact u7_change hx C (fin_law (n := 3) (R := opChange A p q) (fun g h => Or.inl ⟨rfl, h⟩) (fun _ g h => Or.inr (Or.inl ⟨rfl, h⟩)) (fun _ g h => Or.inr (Or.inr ⟨rfl, h⟩)) (bd_change A p q) h)
theorem bd_join (A : Ab) (p q : Int32) : (opJoin A p q).1 ≤ 2 := by
  unfold opJoin
  repeat' (first | exact Nat.le_of_ble_eq_true rfl | apply cif_b | split)
theorem cl_join {P : Sk} {f : St} {x out : Nat} {A : Ab} {p q : Int32} {K : Int32 → Option Int64 → St → Prop} (hx : IsComp P x) (C : CompIs f x A) (h : ∀ g, Fr f g x (x + 1438) → CompIs g x (opJoin A p q).2.2 → ∀ k j, k = nI (opJoin A p q).1 → ((opJoin A p q).1 = 0 → j = some (opJoin A p q).2.1.toInt64) → K k j g) : kL_join P f x p q out K := by
  unfold kL_join
  exact u7_join hx C (fin_law (n := 2) (R := opJoin A p q) (fun g h => Or.inl ⟨rfl, h⟩) (fun _ g h => Or.inr ⟨rfl, h⟩) (fun q => absurd q (by decide)) (bd_join A p q) h)
theorem bd_append (A : Ab) (p : Int32) : (opAppend A p).1 ≤ 2 := by
  unfold opAppend
  repeat' (first | exact Nat.le_of_ble_eq_true rfl | apply cif_b | split)
theorem cl_append {P : Sk} {f : St} {x out : Nat} {A : Ab} {p : Int32} {K : Int32 → Option Int64 → St → Prop} (hx : IsComp P x) (C : CompIs f x A) (h : ∀ g, Fr f g x (x + 1438) → CompIs g x (opAppend A p).2.2 → ∀ k j, k = nI (opAppend A p).1 → ((opAppend A p).1 = 0 → j = some (opAppend A p).2.1.toInt64) → K k j g) : kL_append P f x p out K := by
  unfold kL_append
  exact u7_append hx C (fin_law (n := 2) (R := opAppend A p) (fun g h => Or.inl ⟨rfl, h⟩) (fun _ g h => Or.inr ⟨rfl, h⟩) (fun q => absurd q (by decide)) (bd_append A p) h)
theorem bd_work (A : Ab)  : (opWork A).1 ≤ 1 := by
  unfold opWork
  repeat' (first | exact Nat.le_of_ble_eq_true rfl | apply cif_b | split)
theorem cl_work {P : Sk} {f : St} {x out : Nat} {A : Ab} {K : Int32 → Option Int64 → St → Prop} (hx : IsComp P x) (C : CompIs f x A) (h : ∀ g, Fr f g x (x + 1438) → CompIs g x (opWork A).2.2 → ∀ k j, k = nI (opWork A).1 → ((opWork A).1 = 0 → j = some (opWork A).2.1.toInt64) → K k j g) : kL_work P f x out K := by
  unfold kL_work
  exact ⟨A, C, (fin_law (n := 1) (R := opWork A) (fun g h => ⟨rfl, h⟩) (fun q => absurd q (by decide)) (fun q => absurd q (by decide)) (bd_work A) h)⟩
theorem bd_stopped (A : Ab) (p : Int32) : (opStopped A p).1 ≤ 1 := by
  unfold opStopped
  repeat' (first | exact Nat.le_of_ble_eq_true rfl | apply cif_b | split)
theorem cl_stopped {P : Sk} {f : St} {x out : Nat} {A : Ab} {p : Int32} {K : Int32 → Option Int64 → St → Prop} (hx : IsComp P x) (C : CompIs f x A) (h : ∀ g, Fr f g x (x + 1438) → CompIs g x (opStopped A p).2.2 → ∀ k j, k = nI (opStopped A p).1 → ((opStopped A p).1 = 0 → j = some (opStopped A p).2.1.toInt64) → K k j g) : kL_stopped P f x p out K := by
  unfold kL_stopped
  exact u7_stopped C (fin_law (n := 1) (R := opStopped A p) (fun g h => ⟨rfl, h⟩) (fun q => absurd q (by decide)) (fun q => absurd q (by decide)) (bd_stopped A p) h)
theorem bd_undo (A : Ab)  : (opUndo A).1 ≤ 1 := by
  unfold opUndo
  repeat' (first | exact Nat.le_of_ble_eq_true rfl | apply cif_b | split)
theorem cl_undo {P : Sk} {f : St} {x out : Nat} {A : Ab} {K : Int32 → Option Int64 → St → Prop} (hx : IsComp P x) (C : CompIs f x A) (h : ∀ g, Fr f g x (x + 1438) → CompIs g x (opUndo A).2.2 → ∀ k j, k = nI (opUndo A).1 → ((opUndo A).1 = 0 → j = some (opUndo A).2.1.toInt64) → K k j g) : kL_undo P f x out K := by
  unfold kL_undo
  exact u7_undo C (fin_law (n := 1) (R := opUndo A) (fun g h => ⟨rfl, h⟩) (fun q => absurd q (by decide)) (fun q => absurd q (by decide)) (bd_undo A) h)
theorem bd_restore (A : Ab)  : (opRestore A).1 ≤ 1 := by
  unfold opRestore
  repeat' (first | exact Nat.le_of_ble_eq_true rfl | apply cif_b | split)
theorem cl_restore {P : Sk} {f : St} {x out : Nat} {A : Ab} {K : Int32 → Option Int64 → St → Prop} (hx : IsComp P x) (C : CompIs f x A) (h : ∀ g, Fr f g x (x + 1438) → CompIs g x (opRestore A).2.2 → ∀ k j, k = nI (opRestore A).1 → ((opRestore A).1 = 0 → j = some (opRestore A).2.1.toInt64) → K k j g) : kL_restore P f x out K := by
  unfold kL_restore
  exact u7_restore C (fin_law (n := 1) (R := opRestore A) (fun g h => ⟨rfl, h⟩) (fun q => absurd q (by decide)) (fun q => absurd q (by decide)) (bd_restore A) h)
theorem bd_crossing (A : Ab) (p q w : Int32) : (opCrossing A p q w).1 ≤ 2 := by
  unfold opCrossing
  repeat' (first | exact Nat.le_of_ble_eq_true rfl | apply cif_b | split)
theorem cl_crossing {P : Sk} {f : St} {x out : Nat} {A : Ab} {p q w : Int32} {K : Int32 → Option Int64 → St → Prop} (hx : IsComp P x) (C : CompIs f x A) (h : ∀ g, Fr f g x (x + 1438) → CompIs g x (opCrossing A p q w).2.2 → ∀ k j, k = nI (opCrossing A p q w).1 → ((opCrossing A p q w).1 = 0 → j = some (opCrossing A p q w).2.1.toInt64) → K k j g) : kL_crossing P f x p q w out K := by
  unfold kL_crossing
  exact u7_crossing hx C (fin_law (n := 2) (R := opCrossing A p q w) (fun g h => Or.inl ⟨rfl, h⟩) (fun _ g h => Or.inr ⟨rfl, h⟩) (fun q => absurd q (by decide)) (bd_crossing A p q w) h)
theorem bd_strand (A : Ab) (p q w : Int32) : (opStrand A p q w).1 ≤ 2 := by
  unfold opStrand
  repeat' (first | exact Nat.le_of_ble_eq_true rfl | apply cif_b | split)
theorem cl_strand {P : Sk} {f : St} {x out : Nat} {A : Ab} {p q w : Int32} {K : Int32 → Option Int64 → St → Prop} (hx : IsComp P x) (C : CompIs f x A) (h : ∀ g, Fr f g x (x + 1438) → CompIs g x (opStrand A p q w).2.2 → ∀ k j, k = nI (opStrand A p q w).1 → ((opStrand A p q w).1 = 0 → j = some (opStrand A p q w).2.1.toInt64) → K k j g) : kL_strand P f x p q w out K := by
  unfold kL_strand
  exact u7_strand hx C (fin_law (n := 2) (R := opStrand A p q w) (fun g h => Or.inl ⟨rfl, h⟩) (fun _ g h => Or.inr ⟨rfl, h⟩) (fun q => absurd q (by decide)) (bd_strand A p q w) h)
theorem bd_loaf (A : Ab) (p q : Int32) : (opLoaf A p q).1 ≤ 2 := by
  unfold opLoaf
  repeat' (first | exact Nat.le_of_ble_eq_true rfl | apply cif_b | split)
theorem cl_loaf {P : Sk} {f : St} {x out : Nat} {A : Ab} {p q : Int32} {K : Int32 → Option Int64 → St → Prop} (hx : IsComp P x) (C : CompIs f x A) (h : ∀ g, Fr f g x (x + 1438) → CompIs g x (opLoaf A p q).2.2 → ∀ k j, k = nI (opLoaf A p q).1 → ((opLoaf A p q).1 = 0 → j = some (opLoaf A p q).2.1.toInt64) → K k j g) : kL_loaf P f x p q out K := by
  unfold kL_loaf
  exact u7_loaf hx C (fin_law (n := 2) (R := opLoaf A p q) (fun g h => Or.inl ⟨rfl, h⟩) (fun _ g h => Or.inr ⟨rfl, h⟩) (fun q => absurd q (by decide)) (bd_loaf A p q) h)
theorem bd_loose (A : Ab) (p q : Int32) : (opLoose A p q).1 ≤ 2 := by
  unfold opLoose
  repeat' (first | exact Nat.le_of_ble_eq_true rfl | apply cif_b | split)
theorem cl_loose {P : Sk} {f : St} {x out : Nat} {A : Ab} {p q : Int32} {K : Int32 → Option Int64 → St → Prop} (hx : IsComp P x) (C : CompIs f x A) (h : ∀ g, Fr f g x (x + 1438) → CompIs g x (opLoose A p q).2.2 → ∀ k j, k = nI (opLoose A p q).1 → ((opLoose A p q).1 = 0 → j = some (opLoose A p q).2.1.toInt64) → K k j g) : kL_loose P f x p q out K := by
  unfold kL_loose
  exact u7_loose hx C (fin_law (n := 2) (R := opLoose A p q) (fun g h => Or.inl ⟨rfl, h⟩) (fun _ g h => Or.inr ⟨rfl, h⟩) (fun q => absurd q (by decide)) (bd_loose A p q) h)
theorem bd_count (A : Ab) (p : Int32) : (opCount A p).1 ≤ 1 := by
  unfold opCount
  repeat' (first | exact Nat.le_of_ble_eq_true rfl | apply cif_b | split)
theorem cl_count {P : Sk} {f : St} {x out : Nat} {A : Ab} {p : Int32} {K : Int32 → Option Int64 → St → Prop} (hx : IsComp P x) (C : CompIs f x A) (h : ∀ g, Fr f g x (x + 1438) → CompIs g x (opCount A p).2.2 → ∀ k j, k = nI (opCount A p).1 → ((opCount A p).1 = 0 → j = some (opCount A p).2.1.toInt64) → K k j g) : kL_count P f x p out K := by
  unfold kL_count
  exact u7_count C (fin_law (n := 1) (R := opCount A p) (fun g h => ⟨rfl, h⟩) (fun q => absurd q (by decide)) (fun q => absurd q (by decide)) (bd_count A p) h)
theorem bd_whyNot (A : Ab) (p q : Int32) (r : Nat) : (opWhy A p q r).1 ≤ 1 := by
  unfold opWhy
  repeat' (first | exact Nat.le_of_ble_eq_true rfl | apply cif_b | split)
theorem cl_whyNot {P : Sk} {f : St} {x out : Nat} {A : Ab} {p q : Int32} {r : Nat} (hr : r < 2) {K : Int32 → Option Int64 → St → Prop} (hx : IsComp P x) (C : CompIs f x A) (h : ∀ g, Fr f g x (x + 1438) → CompIs g x (opWhy A p q r).2.2 → ∀ k j, k = nI (opWhy A p q r).1 → ((opWhy A p q r).1 = 0 → j = some (opWhy A p q r).2.1.toInt64) → K k j g) : kL_whyNot P f x p q (nI r) out K := by
  unfold kL_whyNot
  exact u7_whyNot hx C hr (fin_law (n := 1) (R := opWhy A p q r) (fun g h => ⟨rfl, h⟩) (fun q => absurd q (by decide)) (fun q => absurd q (by decide)) (bd_whyNot A p q r) h)
theorem bd_ifChanged (A : Ab) (p q : Int32) : (opIfCh A p q).1 ≤ 2 := by
  unfold opIfCh
  repeat' (first | exact Nat.le_of_ble_eq_true rfl | apply cif_b | split)
theorem cl_ifChanged {P : Sk} {f : St} {x out : Nat} {A : Ab} {p q : Int32} {K : Int32 → Option Int64 → St → Prop} (hx : IsComp P x) (C : CompIs f x A) (h : ∀ g, Fr f g x (x + 1438) → CompIs g x (opIfCh A p q).2.2 → ∀ k j, k = nI (opIfCh A p q).1 → ((opIfCh A p q).1 = 0 → j = some (opIfCh A p q).2.1.toInt64) → K k j g) : kL_ifChanged P f x p q out K := by
  unfold kL_ifChanged
  exact u7_ifChanged C (fin_law (n := 2) (R := opIfCh A p q) (fun g h => Or.inl ⟨rfl, h⟩) (fun _ g h => Or.inr ⟨rfl, h⟩) (fun q => absurd q (by decide)) (bd_ifChanged A p q) h)
theorem bd_alike (A : Ab) (p q : Int32) : (opAlike A p q).1 ≤ 1 := by
  unfold opAlike
  repeat' (first | exact Nat.le_of_ble_eq_true rfl | apply cif_b | split)
theorem cl_alike {P : Sk} {f : St} {x out : Nat} {A : Ab} {p q : Int32} {K : Int32 → Option Int64 → St → Prop} (hx : IsComp P x) (C : CompIs f x A) (h : ∀ g, Fr f g x (x + 1438) → CompIs g x (opAlike A p q).2.2 → ∀ k j, k = nI (opAlike A p q).1 → ((opAlike A p q).1 = 0 → j = some (opAlike A p q).2.1.toInt64) → K k j g) : kL_alike P f x p q out K := by
  unfold kL_alike
  exact u7_alike C (fin_law (n := 1) (R := opAlike A p q) (fun g h => ⟨rfl, h⟩) (fun q => absurd q (by decide)) (fun q => absurd q (by decide)) (bd_alike A p q) h)
theorem bd_period (A : Ab) (p : Int32) : (opPeriod A p).1 ≤ 1 := by
  unfold opPeriod
  repeat' (first | exact Nat.le_of_ble_eq_true rfl | apply cif_b | split)
theorem cl_period {P : Sk} {f : St} {x out : Nat} {A : Ab} {p : Int32} {K : Int32 → Option Int64 → St → Prop} (hx : IsComp P x) (C : CompIs f x A) (h : ∀ g, Fr f g x (x + 1438) → CompIs g x (opPeriod A p).2.2 → ∀ k j, k = nI (opPeriod A p).1 → ((opPeriod A p).1 = 0 → j = some (opPeriod A p).2.1.toInt64) → K k j g) : kL_period P f x p out K := by
  unfold kL_period
  exact u7_period C (fin_law (n := 1) (R := opPeriod A p) (fun g h => ⟨rfl, h⟩) (fun q => absurd q (by decide)) (fun q => absurd q (by decide)) (bd_period A p) h)
theorem lc_0 {sz Ln i : Nat} {xs : Nat → Int32} {P : Sk} {f : St} {A : Ab} (hi : i + 4 ≤ Ln) (hLn : Ln ≤ 2048) (hx : IsComp P (sz + 0)) (hm : IsModel P (sz + 1438)) (ho : Ob P (sz + 1449) 10 ∧ sN P (sz + 1449) = 1) (C : CompIs f (sz + 0) A) (M : MIs f (sz + 1438) A) : fL_0 sz Ln xs (LI sz) lawM P f (nI i) := by
  have v1 : vp_in (nI i + 1) Ln := by
    rw [nI_1]
    exact vp_nI (by omega) (by omega)
  have v2 : vp_in (nI i + 2) Ln := by
    rw [show (2 : Int32) = nI 2 from rfl, nI_add]
    exact vp_nI (by omega) (by omega)
  have v3 : vp_in (nI i + 3) Ln := by
    rw [show (3 : Int32) = nI 3 from rfl, nI_add]
    exact vp_nI (by omega) (by omega)
  unfold fL_0
  refine cl_lay hx C (fun g r1 C2 k j hk hj => ?_)
  exact u8_lay (M.rows (fun i hi => r1 _ (by omega))) (fun g2 v an h0 hv M2 => law_tail (R := (opLay A)) (by omega) hx hm ho h0 (by have := bd_lay A; omega) hv hk hj (C2.out an.fr (by omega)) M2)
theorem lc_1 {sz Ln i : Nat} {xs : Nat → Int32} {P : Sk} {f : St} {A : Ab} (hi : i + 4 ≤ Ln) (hLn : Ln ≤ 2048) (hx : IsComp P (sz + 0)) (hm : IsModel P (sz + 1438)) (ho : Ob P (sz + 1449) 10 ∧ sN P (sz + 1449) = 1) (C : CompIs f (sz + 0) A) (M : MIs f (sz + 1438) A) : fL_1 sz Ln xs (LI sz) lawM P f (nI i) := by
  have v1 : vp_in (nI i + 1) Ln := by
    rw [nI_1]
    exact vp_nI (by omega) (by omega)
  have v2 : vp_in (nI i + 2) Ln := by
    rw [show (2 : Int32) = nI 2 from rfl, nI_add]
    exact vp_nI (by omega) (by omega)
  have v3 : vp_in (nI i + 3) Ln := by
    rw [show (3 : Int32) = nI 3 from rfl, nI_add]
    exact vp_nI (by omega) (by omega)
  unfold fL_1
  refine ⟨v1, ?_⟩
  refine cl_bake hx C (fun g r1 C2 k j hk hj => ?_)
  exact ⟨v1, ⟨A, (M.rows (fun i hi => r1 _ (by omega))), (fun g2 v an h0 hv M2 => law_tail (R := (opBake A (xs (nI i + 1).toNatClampNeg))) (by omega) hx hm ho h0 (by have := bd_bake A (xs (nI i + 1).toNatClampNeg); omega) hv hk hj (C2.out an.fr (by omega)) M2)⟩⟩
theorem lc_2 {sz Ln i : Nat} {xs : Nat → Int32} {P : Sk} {f : St} {A : Ab} (hi : i + 4 ≤ Ln) (hLn : Ln ≤ 2048) (hx : IsComp P (sz + 0)) (hm : IsModel P (sz + 1438)) (ho : Ob P (sz + 1449) 10 ∧ sN P (sz + 1449) = 1) (C : CompIs f (sz + 0) A) (M : MIs f (sz + 1438) A) : fL_2 sz Ln xs (LI sz) lawM P f (nI i) := by
  have v1 : vp_in (nI i + 1) Ln := by
    rw [nI_1]
    exact vp_nI (by omega) (by omega)
  have v2 : vp_in (nI i + 2) Ln := by
    rw [show (2 : Int32) = nI 2 from rfl, nI_add]
    exact vp_nI (by omega) (by omega)
  have v3 : vp_in (nI i + 3) Ln := by
    rw [show (3 : Int32) = nI 3 from rfl, nI_add]
    exact vp_nI (by omega) (by omega)
  unfold fL_2
  refine ⟨v1, v2, v3, fun c => ?_, fun c => ?_⟩
  · refine cl_cross (r := 0) (by decide) hx C (fun g r1 C2 k j hk hj => ?_)
    exact ⟨v1, v2, v3, fun _ => u8_cross (r := 0) (by decide) (M.rows (fun i hi => r1 _ (by omega))) (fun g2 v an h0 hv M2 => law_tail (R := (opCross A (xs (nI i + 1).toNatClampNeg) (xs (nI i + 2).toNatClampNeg) 0)) (by omega) hx hm ho h0 (by have := bd_cross A (xs (nI i + 1).toNatClampNeg) (xs (nI i + 2).toNatClampNeg) 0; omega) hv hk hj (C2.out an.fr (by omega)) M2), fun q => absurd c q⟩
  · refine cl_cross (r := 1) (by decide) hx C (fun g r1 C2 k j hk hj => ?_)
    exact ⟨v1, v2, v3, fun q => absurd q c, fun _ => u8_cross (r := 1) (by decide) (M.rows (fun i hi => r1 _ (by omega))) (fun g2 v an h0 hv M2 => law_tail (R := (opCross A (xs (nI i + 1).toNatClampNeg) (xs (nI i + 2).toNatClampNeg) 1)) (by omega) hx hm ho h0 (by have := bd_cross A (xs (nI i + 1).toNatClampNeg) (xs (nI i + 2).toNatClampNeg) 1; omega) hv hk hj (C2.out an.fr (by omega)) M2)⟩
theorem lc_3 {sz Ln i : Nat} {xs : Nat → Int32} {P : Sk} {f : St} {A : Ab} (hi : i + 4 ≤ Ln) (hLn : Ln ≤ 2048) (hx : IsComp P (sz + 0)) (hm : IsModel P (sz + 1438)) (ho : Ob P (sz + 1449) 10 ∧ sN P (sz + 1449) = 1) (C : CompIs f (sz + 0) A) (M : MIs f (sz + 1438) A) : fL_3 sz Ln xs (LI sz) lawM P f (nI i) := by
  have v1 : vp_in (nI i + 1) Ln := by
    rw [nI_1]
    exact vp_nI (by omega) (by omega)
  have v2 : vp_in (nI i + 2) Ln := by
    rw [show (2 : Int32) = nI 2 from rfl, nI_add]
    exact vp_nI (by omega) (by omega)
  have v3 : vp_in (nI i + 3) Ln := by
    rw [show (3 : Int32) = nI 3 from rfl, nI_add]
    exact vp_nI (by omega) (by omega)
  unfold fL_3
  refine ⟨v1, ?_⟩
  refine cl_back hx C (fun g r1 C2 k j hk hj => ?_)
  exact ⟨v1, u8_back (M.rows (fun i hi => r1 _ (by omega))) (fun g2 v an h0 hv M2 => law_tail (R := (opBack A (xs (nI i + 1).toNatClampNeg))) (by omega) hx hm ho h0 (by have := bd_back A (xs (nI i + 1).toNatClampNeg); omega) hv hk hj (C2.out an.fr (by omega)) M2)⟩
theorem lc_4 {sz Ln i : Nat} {xs : Nat → Int32} {P : Sk} {f : St} {A : Ab} (hi : i + 4 ≤ Ln) (hLn : Ln ≤ 2048) (hx : IsComp P (sz + 0)) (hm : IsModel P (sz + 1438)) (ho : Ob P (sz + 1449) 10 ∧ sN P (sz + 1449) = 1) (C : CompIs f (sz + 0) A) (M : MIs f (sz + 1438) A) : fL_4 sz Ln xs (LI sz) lawM P f (nI i) := by
  have v1 : vp_in (nI i + 1) Ln := by
    rw [nI_1]
    exact vp_nI (by omega) (by omega)
  have v2 : vp_in (nI i + 2) Ln := by
    rw [show (2 : Int32) = nI 2 from rfl, nI_add]
    exact vp_nI (by omega) (by omega)
  have v3 : vp_in (nI i + 3) Ln := by
    rw [show (3 : Int32) = nI 3 from rfl, nI_add]
    exact vp_nI (by omega) (by omega)
  unfold fL_4
  refine ⟨v1, v2, ?_⟩
  refine cl_change hx C (fun g r1 C2 k j hk hj => ?_)
  exact ⟨v1, v2, u8_change (M.rows (fun i hi => r1 _ (by omega))) (fun g2 v an h0 hv M2 => law_tail (R := (opChange A (xs (nI i + 1).toNatClampNeg) (xs (nI i + 2).toNatClampNeg))) (by omega) hx hm ho h0 (by have := bd_change A (xs (nI i + 1).toNatClampNeg) (xs (nI i + 2).toNatClampNeg); omega) hv hk hj (C2.out an.fr (by omega)) M2)⟩
theorem lc_5 {sz Ln i : Nat} {xs : Nat → Int32} {P : Sk} {f : St} {A : Ab} (hi : i + 4 ≤ Ln) (hLn : Ln ≤ 2048) (hx : IsComp P (sz + 0)) (hm : IsModel P (sz + 1438)) (ho : Ob P (sz + 1449) 10 ∧ sN P (sz + 1449) = 1) (C : CompIs f (sz + 0) A) (M : MIs f (sz + 1438) A) : fL_5 sz Ln xs (LI sz) lawM P f (nI i) := by
  have v1 : vp_in (nI i + 1) Ln := by
    rw [nI_1]
    exact vp_nI (by omega) (by omega)
  have v2 : vp_in (nI i + 2) Ln := by
    rw [show (2 : Int32) = nI 2 from rfl, nI_add]
    exact vp_nI (by omega) (by omega)
  have v3 : vp_in (nI i + 3) Ln := by
    rw [show (3 : Int32) = nI 3 from rfl, nI_add]
    exact vp_nI (by omega) (by omega)
  unfold fL_5
  refine ⟨v1, v2, ?_⟩
  refine cl_join hx C (fun g r1 C2 k j hk hj => ?_)
  exact ⟨v1, v2, u8_join (M.rows (fun i hi => r1 _ (by omega))) (fun g2 v an h0 hv M2 => law_tail (R := (opJoin A (xs (nI i + 1).toNatClampNeg) (xs (nI i + 2).toNatClampNeg))) (by omega) hx hm ho h0 (by have := bd_join A (xs (nI i + 1).toNatClampNeg) (xs (nI i + 2).toNatClampNeg); omega) hv hk hj (C2.out an.fr (by omega)) M2)⟩
theorem lc_6 {sz Ln i : Nat} {xs : Nat → Int32} {P : Sk} {f : St} {A : Ab} (hi : i + 4 ≤ Ln) (hLn : Ln ≤ 2048) (hx : IsComp P (sz + 0)) (hm : IsModel P (sz + 1438)) (ho : Ob P (sz + 1449) 10 ∧ sN P (sz + 1449) = 1) (C : CompIs f (sz + 0) A) (M : MIs f (sz + 1438) A) : fL_6 sz Ln xs (LI sz) lawM P f (nI i) := by
  have v1 : vp_in (nI i + 1) Ln := by
    rw [nI_1]
    exact vp_nI (by omega) (by omega)
  have v2 : vp_in (nI i + 2) Ln := by
    rw [show (2 : Int32) = nI 2 from rfl, nI_add]
    exact vp_nI (by omega) (by omega)
  have v3 : vp_in (nI i + 3) Ln := by
    rw [show (3 : Int32) = nI 3 from rfl, nI_add]
    exact vp_nI (by omega) (by omega)
  unfold fL_6
  refine ⟨v1, ?_⟩
  refine cl_append hx C (fun g r1 C2 k j hk hj => ?_)
  exact ⟨v1, u8_append (M.rows (fun i hi => r1 _ (by omega))) (fun g2 v an h0 hv M2 => law_tail (R := (opAppend A (xs (nI i + 1).toNatClampNeg))) (by omega) hx hm ho h0 (by have := bd_append A (xs (nI i + 1).toNatClampNeg); omega) hv hk hj (C2.out an.fr (by omega)) M2)⟩
theorem lc_9 {sz Ln i : Nat} {xs : Nat → Int32} {P : Sk} {f : St} {A : Ab} (hi : i + 4 ≤ Ln) (hLn : Ln ≤ 2048) (hx : IsComp P (sz + 0)) (hm : IsModel P (sz + 1438)) (ho : Ob P (sz + 1449) 10 ∧ sN P (sz + 1449) = 1) (C : CompIs f (sz + 0) A) (M : MIs f (sz + 1438) A) : fL_9 sz Ln xs (LI sz) lawM P f (nI i) := by
  have v1 : vp_in (nI i + 1) Ln := by
    rw [nI_1]
    exact vp_nI (by omega) (by omega)
  have v2 : vp_in (nI i + 2) Ln := by
    rw [show (2 : Int32) = nI 2 from rfl, nI_add]
    exact vp_nI (by omega) (by omega)
  have v3 : vp_in (nI i + 3) Ln := by
    rw [show (3 : Int32) = nI 3 from rfl, nI_add]
    exact vp_nI (by omega) (by omega)
  unfold fL_9
  refine cl_work hx C (fun g r1 C2 k j hk hj => ?_)
  exact ⟨A, (M.rows (fun i hi => r1 _ (by omega))), (fun g2 v an h0 hv M2 => law_tail (R := (opWork A)) (by omega) hx hm ho h0 (by have := bd_work A; omega) hv hk hj (C2.out an.fr (by omega)) M2)⟩
theorem lc_10 {sz Ln i : Nat} {xs : Nat → Int32} {P : Sk} {f : St} {A : Ab} (hi : i + 4 ≤ Ln) (hLn : Ln ≤ 2048) (hx : IsComp P (sz + 0)) (hm : IsModel P (sz + 1438)) (ho : Ob P (sz + 1449) 10 ∧ sN P (sz + 1449) = 1) (C : CompIs f (sz + 0) A) (M : MIs f (sz + 1438) A) : fL_10 sz Ln xs (LI sz) lawM P f (nI i) := by
  have v1 : vp_in (nI i + 1) Ln := by
    rw [nI_1]
    exact vp_nI (by omega) (by omega)
  have v2 : vp_in (nI i + 2) Ln := by
    rw [show (2 : Int32) = nI 2 from rfl, nI_add]
    exact vp_nI (by omega) (by omega)
  have v3 : vp_in (nI i + 3) Ln := by
    rw [show (3 : Int32) = nI 3 from rfl, nI_add]
    exact vp_nI (by omega) (by omega)
  unfold fL_10
  refine ⟨v1, ?_⟩
  refine cl_stopped hx C (fun g r1 C2 k j hk hj => ?_)
  exact ⟨v1, u8_stopped (M.rows (fun i hi => r1 _ (by omega))) (fun g2 v an h0 hv M2 => law_tail (R := (opStopped A (xs (nI i + 1).toNatClampNeg))) (by omega) hx hm ho h0 (by have := bd_stopped A (xs (nI i + 1).toNatClampNeg); omega) hv hk hj (C2.out an.fr (by omega)) M2)⟩
theorem lc_11 {sz Ln i : Nat} {xs : Nat → Int32} {P : Sk} {f : St} {A : Ab} (hi : i + 4 ≤ Ln) (hLn : Ln ≤ 2048) (hx : IsComp P (sz + 0)) (hm : IsModel P (sz + 1438)) (ho : Ob P (sz + 1449) 10 ∧ sN P (sz + 1449) = 1) (C : CompIs f (sz + 0) A) (M : MIs f (sz + 1438) A) : fL_11 sz Ln xs (LI sz) lawM P f (nI i) := by
  have v1 : vp_in (nI i + 1) Ln := by
    rw [nI_1]
    exact vp_nI (by omega) (by omega)
  have v2 : vp_in (nI i + 2) Ln := by
    rw [show (2 : Int32) = nI 2 from rfl, nI_add]
    exact vp_nI (by omega) (by omega)
  have v3 : vp_in (nI i + 3) Ln := by
    rw [show (3 : Int32) = nI 3 from rfl, nI_add]
    exact vp_nI (by omega) (by omega)
  unfold fL_11
  refine cl_undo hx C (fun g r1 C2 k j hk hj => ?_)
  exact ⟨A, (M.rows (fun i hi => r1 _ (by omega))), (fun g2 v an h0 hv M2 => law_tail (R := (opUndo A)) (by omega) hx hm ho h0 (by have := bd_undo A; omega) hv hk hj (C2.out an.fr (by omega)) M2)⟩
theorem lc_13 {sz Ln i : Nat} {xs : Nat → Int32} {P : Sk} {f : St} {A : Ab} (hi : i + 4 ≤ Ln) (hLn : Ln ≤ 2048) (hx : IsComp P (sz + 0)) (hm : IsModel P (sz + 1438)) (ho : Ob P (sz + 1449) 10 ∧ sN P (sz + 1449) = 1) (C : CompIs f (sz + 0) A) (M : MIs f (sz + 1438) A) : fL_13 sz Ln xs (LI sz) lawM P f (nI i) := by
  have v1 : vp_in (nI i + 1) Ln := by
    rw [nI_1]
    exact vp_nI (by omega) (by omega)
  have v2 : vp_in (nI i + 2) Ln := by
    rw [show (2 : Int32) = nI 2 from rfl, nI_add]
    exact vp_nI (by omega) (by omega)
  have v3 : vp_in (nI i + 3) Ln := by
    rw [show (3 : Int32) = nI 3 from rfl, nI_add]
    exact vp_nI (by omega) (by omega)
  unfold fL_13
  refine cl_restore hx C (fun g r1 C2 k j hk hj => ?_)
  exact ⟨A, (M.rows (fun i hi => r1 _ (by omega))), (fun g2 v an h0 hv M2 => law_tail (R := (opRestore A)) (by omega) hx hm ho h0 (by have := bd_restore A; omega) hv hk hj (C2.out an.fr (by omega)) M2)⟩
theorem lc_14 {sz Ln i : Nat} {xs : Nat → Int32} {P : Sk} {f : St} {A : Ab} (hi : i + 4 ≤ Ln) (hLn : Ln ≤ 2048) (hx : IsComp P (sz + 0)) (hm : IsModel P (sz + 1438)) (ho : Ob P (sz + 1449) 10 ∧ sN P (sz + 1449) = 1) (C : CompIs f (sz + 0) A) (M : MIs f (sz + 1438) A) : fL_14 sz Ln xs (LI sz) lawM P f (nI i) := by
  have v1 : vp_in (nI i + 1) Ln := by
    rw [nI_1]
    exact vp_nI (by omega) (by omega)
  have v2 : vp_in (nI i + 2) Ln := by
    rw [show (2 : Int32) = nI 2 from rfl, nI_add]
    exact vp_nI (by omega) (by omega)
  have v3 : vp_in (nI i + 3) Ln := by
    rw [show (3 : Int32) = nI 3 from rfl, nI_add]
    exact vp_nI (by omega) (by omega)
  unfold fL_14
  refine ⟨v1, v2, v3, ?_⟩
  refine cl_crossing hx C (fun g r1 C2 k j hk hj => ?_)
  exact ⟨v1, v2, v3, u8_crossing (M.rows (fun i hi => r1 _ (by omega))) (fun g2 v an h0 hv M2 => law_tail (R := (opCrossing A (xs (nI i + 1).toNatClampNeg) (xs (nI i + 2).toNatClampNeg) (xs (nI i + 3).toNatClampNeg))) (by omega) hx hm ho h0 (by have := bd_crossing A (xs (nI i + 1).toNatClampNeg) (xs (nI i + 2).toNatClampNeg) (xs (nI i + 3).toNatClampNeg); omega) hv hk hj (C2.out an.fr (by omega)) M2)⟩
theorem lc_15 {sz Ln i : Nat} {xs : Nat → Int32} {P : Sk} {f : St} {A : Ab} (hi : i + 4 ≤ Ln) (hLn : Ln ≤ 2048) (hx : IsComp P (sz + 0)) (hm : IsModel P (sz + 1438)) (ho : Ob P (sz + 1449) 10 ∧ sN P (sz + 1449) = 1) (C : CompIs f (sz + 0) A) (M : MIs f (sz + 1438) A) : fL_15 sz Ln xs (LI sz) lawM P f (nI i) := by
  have v1 : vp_in (nI i + 1) Ln := by
    rw [nI_1]
    exact vp_nI (by omega) (by omega)
  have v2 : vp_in (nI i + 2) Ln := by
    rw [show (2 : Int32) = nI 2 from rfl, nI_add]
    exact vp_nI (by omega) (by omega)
  have v3 : vp_in (nI i + 3) Ln := by
    rw [show (3 : Int32) = nI 3 from rfl, nI_add]
    exact vp_nI (by omega) (by omega)
  unfold fL_15
  refine ⟨v1, v2, v3, ?_⟩
  refine cl_strand hx C (fun g r1 C2 k j hk hj => ?_)
  exact ⟨v1, v2, v3, u8_strand (M.rows (fun i hi => r1 _ (by omega))) (fun g2 v an h0 hv M2 => law_tail (R := (opStrand A (xs (nI i + 1).toNatClampNeg) (xs (nI i + 2).toNatClampNeg) (xs (nI i + 3).toNatClampNeg))) (by omega) hx hm ho h0 (by have := bd_strand A (xs (nI i + 1).toNatClampNeg) (xs (nI i + 2).toNatClampNeg) (xs (nI i + 3).toNatClampNeg); omega) hv hk hj (C2.out an.fr (by omega)) M2)⟩
theorem lc_16 {sz Ln i : Nat} {xs : Nat → Int32} {P : Sk} {f : St} {A : Ab} (hi : i + 4 ≤ Ln) (hLn : Ln ≤ 2048) (hx : IsComp P (sz + 0)) (hm : IsModel P (sz + 1438)) (ho : Ob P (sz + 1449) 10 ∧ sN P (sz + 1449) = 1) (C : CompIs f (sz + 0) A) (M : MIs f (sz + 1438) A) : fL_16 sz Ln xs (LI sz) lawM P f (nI i) := by
  have v1 : vp_in (nI i + 1) Ln := by
    rw [nI_1]
    exact vp_nI (by omega) (by omega)
  have v2 : vp_in (nI i + 2) Ln := by
    rw [show (2 : Int32) = nI 2 from rfl, nI_add]
    exact vp_nI (by omega) (by omega)
  have v3 : vp_in (nI i + 3) Ln := by
    rw [show (3 : Int32) = nI 3 from rfl, nI_add]
    exact vp_nI (by omega) (by omega)
  unfold fL_16
  refine ⟨v1, v2, ?_⟩
  refine cl_loaf hx C (fun g r1 C2 k j hk hj => ?_)
  exact ⟨v1, v2, u8_loaf (M.rows (fun i hi => r1 _ (by omega))) (fun g2 v an h0 hv M2 => law_tail (R := (opLoaf A (xs (nI i + 1).toNatClampNeg) (xs (nI i + 2).toNatClampNeg))) (by omega) hx hm ho h0 (by have := bd_loaf A (xs (nI i + 1).toNatClampNeg) (xs (nI i + 2).toNatClampNeg); omega) hv hk hj (C2.out an.fr (by omega)) M2)⟩
theorem lc_17 {sz Ln i : Nat} {xs : Nat → Int32} {P : Sk} {f : St} {A : Ab} (hi : i + 4 ≤ Ln) (hLn : Ln ≤ 2048) (hx : IsComp P (sz + 0)) (hm : IsModel P (sz + 1438)) (ho : Ob P (sz + 1449) 10 ∧ sN P (sz + 1449) = 1) (C : CompIs f (sz + 0) A) (M : MIs f (sz + 1438) A) : fL_17 sz Ln xs (LI sz) lawM P f (nI i) := by
  have v1 : vp_in (nI i + 1) Ln := by
    rw [nI_1]
    exact vp_nI (by omega) (by omega)
  have v2 : vp_in (nI i + 2) Ln := by
    rw [show (2 : Int32) = nI 2 from rfl, nI_add]
    exact vp_nI (by omega) (by omega)
  have v3 : vp_in (nI i + 3) Ln := by
    rw [show (3 : Int32) = nI 3 from rfl, nI_add]
    exact vp_nI (by omega) (by omega)
  unfold fL_17
  refine ⟨v1, v2, ?_⟩
  refine cl_loose hx C (fun g r1 C2 k j hk hj => ?_)
  exact ⟨v1, v2, u8_loose (M.rows (fun i hi => r1 _ (by omega))) (fun g2 v an h0 hv M2 => law_tail (R := (opLoose A (xs (nI i + 1).toNatClampNeg) (xs (nI i + 2).toNatClampNeg))) (by omega) hx hm ho h0 (by have := bd_loose A (xs (nI i + 1).toNatClampNeg) (xs (nI i + 2).toNatClampNeg); omega) hv hk hj (C2.out an.fr (by omega)) M2)⟩
theorem lc_18 {sz Ln i : Nat} {xs : Nat → Int32} {P : Sk} {f : St} {A : Ab} (hi : i + 4 ≤ Ln) (hLn : Ln ≤ 2048) (hx : IsComp P (sz + 0)) (hm : IsModel P (sz + 1438)) (ho : Ob P (sz + 1449) 10 ∧ sN P (sz + 1449) = 1) (C : CompIs f (sz + 0) A) (M : MIs f (sz + 1438) A) : fL_18 sz Ln xs (LI sz) lawM P f (nI i) := by
  have v1 : vp_in (nI i + 1) Ln := by
    rw [nI_1]
    exact vp_nI (by omega) (by omega)
  have v2 : vp_in (nI i + 2) Ln := by
    rw [show (2 : Int32) = nI 2 from rfl, nI_add]
    exact vp_nI (by omega) (by omega)
  have v3 : vp_in (nI i + 3) Ln := by
    rw [show (3 : Int32) = nI 3 from rfl, nI_add]
    exact vp_nI (by omega) (by omega)
  unfold fL_18
  refine ⟨v1, ?_⟩
  refine cl_count hx C (fun g r1 C2 k j hk hj => ?_)
  exact ⟨v1, u8_count (M.rows (fun i hi => r1 _ (by omega))) (fun g2 v an h0 hv M2 => law_tail (R := (opCount A (xs (nI i + 1).toNatClampNeg))) (by omega) hx hm ho h0 (by have := bd_count A (xs (nI i + 1).toNatClampNeg); omega) hv hk hj (C2.out an.fr (by omega)) M2)⟩
theorem lc_19 {sz Ln i : Nat} {xs : Nat → Int32} {P : Sk} {f : St} {A : Ab} (hi : i + 4 ≤ Ln) (hLn : Ln ≤ 2048) (hx : IsComp P (sz + 0)) (hm : IsModel P (sz + 1438)) (ho : Ob P (sz + 1449) 10 ∧ sN P (sz + 1449) = 1) (C : CompIs f (sz + 0) A) (M : MIs f (sz + 1438) A) : fL_19 sz Ln xs (LI sz) lawM P f (nI i) := by
  have v1 : vp_in (nI i + 1) Ln := by
    rw [nI_1]
    exact vp_nI (by omega) (by omega)
  have v2 : vp_in (nI i + 2) Ln := by
    rw [show (2 : Int32) = nI 2 from rfl, nI_add]
    exact vp_nI (by omega) (by omega)
  have v3 : vp_in (nI i + 3) Ln := by
    rw [show (3 : Int32) = nI 3 from rfl, nI_add]
    exact vp_nI (by omega) (by omega)
  unfold fL_19
  refine ⟨v1, v2, v3, fun c => ?_, fun c => ?_⟩
  · refine cl_whyNot (r := 0) (by decide) hx C (fun g r1 C2 k j hk hj => ?_)
    exact ⟨v1, v2, v3, fun _ => u8_whyNot (r := 0) (by decide) (M.rows (fun i hi => r1 _ (by omega))) (fun g2 v an h0 hv M2 => law_tail (R := (opWhy A (xs (nI i + 1).toNatClampNeg) (xs (nI i + 2).toNatClampNeg) 0)) (by omega) hx hm ho h0 (by have := bd_whyNot A (xs (nI i + 1).toNatClampNeg) (xs (nI i + 2).toNatClampNeg) 0; omega) hv hk hj (C2.out an.fr (by omega)) M2), fun q => absurd c q⟩
  · refine cl_whyNot (r := 1) (by decide) hx C (fun g r1 C2 k j hk hj => ?_)
    exact ⟨v1, v2, v3, fun q => absurd q c, fun _ => u8_whyNot (r := 1) (by decide) (M.rows (fun i hi => r1 _ (by omega))) (fun g2 v an h0 hv M2 => law_tail (R := (opWhy A (xs (nI i + 1).toNatClampNeg) (xs (nI i + 2).toNatClampNeg) 1)) (by omega) hx hm ho h0 (by have := bd_whyNot A (xs (nI i + 1).toNatClampNeg) (xs (nI i + 2).toNatClampNeg) 1; omega) hv hk hj (C2.out an.fr (by omega)) M2)⟩
theorem lc_20 {sz Ln i : Nat} {xs : Nat → Int32} {P : Sk} {f : St} {A : Ab} (hi : i + 4 ≤ Ln) (hLn : Ln ≤ 2048) (hx : IsComp P (sz + 0)) (hm : IsModel P (sz + 1438)) (ho : Ob P (sz + 1449) 10 ∧ sN P (sz + 1449) = 1) (C : CompIs f (sz + 0) A) (M : MIs f (sz + 1438) A) : fL_20 sz Ln xs (LI sz) lawM P f (nI i) := by
  have v1 : vp_in (nI i + 1) Ln := by
    rw [nI_1]
    exact vp_nI (by omega) (by omega)
  have v2 : vp_in (nI i + 2) Ln := by
    rw [show (2 : Int32) = nI 2 from rfl, nI_add]
    exact vp_nI (by omega) (by omega)
  have v3 : vp_in (nI i + 3) Ln := by
    rw [show (3 : Int32) = nI 3 from rfl, nI_add]
    exact vp_nI (by omega) (by omega)
  unfold fL_20
  refine ⟨v1, v2, ?_⟩
  refine cl_ifChanged hx C (fun g r1 C2 k j hk hj => ?_)
  exact ⟨v1, v2, u8_ifChanged (M.rows (fun i hi => r1 _ (by omega))) (fun g2 v an h0 hv M2 => law_tail (R := (opIfCh A (xs (nI i + 1).toNatClampNeg) (xs (nI i + 2).toNatClampNeg))) (by omega) hx hm ho h0 (by have := bd_ifChanged A (xs (nI i + 1).toNatClampNeg) (xs (nI i + 2).toNatClampNeg); omega) hv hk hj (C2.out an.fr (by omega)) M2)⟩
theorem lc_21 {sz Ln i : Nat} {xs : Nat → Int32} {P : Sk} {f : St} {A : Ab} (hi : i + 4 ≤ Ln) (hLn : Ln ≤ 2048) (hx : IsComp P (sz + 0)) (hm : IsModel P (sz + 1438)) (ho : Ob P (sz + 1449) 10 ∧ sN P (sz + 1449) = 1) (C : CompIs f (sz + 0) A) (M : MIs f (sz + 1438) A) : fL_21 sz Ln xs (LI sz) lawM P f (nI i) := by
  have v1 : vp_in (nI i + 1) Ln := by
    rw [nI_1]
    exact vp_nI (by omega) (by omega)
  have v2 : vp_in (nI i + 2) Ln := by
    rw [show (2 : Int32) = nI 2 from rfl, nI_add]
    exact vp_nI (by omega) (by omega)
  have v3 : vp_in (nI i + 3) Ln := by
    rw [show (3 : Int32) = nI 3 from rfl, nI_add]
    exact vp_nI (by omega) (by omega)
  unfold fL_21
  refine ⟨v1, v2, ?_⟩
  refine cl_alike hx C (fun g r1 C2 k j hk hj => ?_)
  exact ⟨v1, v2, u8_alike (M.rows (fun i hi => r1 _ (by omega))) (fun g2 v an h0 hv M2 => law_tail (R := (opAlike A (xs (nI i + 1).toNatClampNeg) (xs (nI i + 2).toNatClampNeg))) (by omega) hx hm ho h0 (by have := bd_alike A (xs (nI i + 1).toNatClampNeg) (xs (nI i + 2).toNatClampNeg); omega) hv hk hj (C2.out an.fr (by omega)) M2)⟩
theorem lc_22 {sz Ln i : Nat} {xs : Nat → Int32} {P : Sk} {f : St} {A : Ab} (hi : i + 4 ≤ Ln) (hLn : Ln ≤ 2048) (hx : IsComp P (sz + 0)) (hm : IsModel P (sz + 1438)) (ho : Ob P (sz + 1449) 10 ∧ sN P (sz + 1449) = 1) (C : CompIs f (sz + 0) A) (M : MIs f (sz + 1438) A) : fL_22 sz Ln xs (LI sz) lawM P f (nI i) := by
  have v1 : vp_in (nI i + 1) Ln := by
    rw [nI_1]
    exact vp_nI (by omega) (by omega)
  have v2 : vp_in (nI i + 2) Ln := by
    rw [show (2 : Int32) = nI 2 from rfl, nI_add]
    exact vp_nI (by omega) (by omega)
  have v3 : vp_in (nI i + 3) Ln := by
    rw [show (3 : Int32) = nI 3 from rfl, nI_add]
    exact vp_nI (by omega) (by omega)
  unfold fL_22
  refine ⟨v1, ?_⟩
  refine cl_period hx C (fun g r1 C2 k j hk hj => ?_)
  exact ⟨v1, u8_period (M.rows (fun i hi => r1 _ (by omega))) (fun g2 v an h0 hv M2 => law_tail (R := (opPeriod A (xs (nI i + 1).toNatClampNeg))) (by omega) hx hm ho h0 (by have := bd_period A (xs (nI i + 1).toNatClampNeg); omega) hv hk hj (C2.out an.fr (by omega)) M2)⟩
theorem lc_7 {sz Ln i : Nat} {xs : Nat → Int32} {P : Sk} {f : St} {A : Ab} (hi : i + 4 ≤ Ln) (hLn : Ln ≤ 2048) (hx : IsComp P (sz + 0)) (hm : IsModel P (sz + 1438)) (ho : Ob P (sz + 1449) 10 ∧ sN P (sz + 1449) = 1) (C : CompIs f (sz + 0) A) (M : MIs f (sz + 1438) A) : fL_7 sz Ln xs (LI sz) lawM P f (nI i) := by
  unfold fL_7
  refine u7_clearBuffer C (fun g r1 C2 => ⟨fun _ => ?_, fun _ => trivial, fun _ => trivial, fun _ => trivial⟩)
  exact u8_clearBuffer (M.rows (fun i hi => r1 _ (by omega))) (fun g2 v an h0 hv M2 => ⟨fun _ => law_next (by omega) hx hm ho (C2.out an.fr (by omega)) M2, fun q => q (hv rfl).symm⟩)
theorem lc_12 {sz Ln i : Nat} {xs : Nat → Int32} {P : Sk} {f : St} {A : Ab} (hi : i + 4 ≤ Ln) (hLn : Ln ≤ 2048) (hx : IsComp P (sz + 0)) (hm : IsModel P (sz + 1438)) (ho : Ob P (sz + 1449) 10 ∧ sN P (sz + 1449) = 1) (C : CompIs f (sz + 0) A) (M : MIs f (sz + 1438) A) : fL_12 sz Ln xs (LI sz) lawM P f (nI i) := by
  unfold fL_12
  refine u7_keep C (fun g r1 C2 => ⟨fun _ => ?_, fun _ => trivial, fun _ => trivial, fun _ => trivial⟩)
  exact ⟨A, (M.rows (fun i hi => r1 _ (by omega))), (fun g2 v an h0 hv M2 => ⟨fun _ => law_next (by omega) hx hm ho (C2.out an.fr (by omega)) M2, fun q => q (hv rfl).symm⟩)⟩
theorem lc_8 {sz Ln i : Nat} {xs : Nat → Int32} {P : Sk} {f : St} {A : Ab} (hi : i + 4 ≤ Ln) (hLn : Ln ≤ 2048) (hx : IsComp P (sz + 0)) (hm : IsModel P (sz + 1438)) (ho : Ob P (sz + 1449) 10 ∧ sN P (sz + 1449) = 1) (C : CompIs f (sz + 0) A) (M : MIs f (sz + 1438) A) : fL_8 sz Ln xs (LI sz) lawM P f (nI i) := by
  have v1 : vp_in (nI i + 1) Ln := by
    rw [nI_1]
    exact vp_nI (by omega) (by omega)
  have v2 : vp_in (nI i + 2) Ln := by
    rw [show (2 : Int32) = nI 2 from rfl, nI_add]
    exact vp_nI (by omega) (by omega)
  have v3 : vp_in (nI i + 3) Ln := by
    rw [show (3 : Int32) = nI 3 from rfl, nI_add]
    exact vp_nI (by omega) (by omega)
  unfold fL_8
  refine ⟨v1, fun c => ?_, fun c => ?_⟩
  · refine u7_firstError C (fun g r1 C2 => ⟨fun _ => ?_, fun _ => trivial, fun _ => trivial, fun _ => trivial⟩)
    exact ⟨v1, fun _ => u8_firstError (p := 0) (M.rows (fun i hi => r1 _ (by omega))) (fun g2 v an h0 hv M2 => ⟨fun _ => law_next (by omega) hx hm ho (C2.out an.fr (by omega)) M2, fun q => q (hv rfl).symm⟩), fun q => absurd c q⟩
  · refine u7_firstError C (fun g r1 C2 => ⟨fun _ => ?_, fun _ => trivial, fun _ => trivial, fun _ => trivial⟩)
    exact ⟨v1, fun q => absurd q c, fun _ => u8_firstError (p := 1) (M.rows (fun i hi => r1 _ (by omega))) (fun g2 v an h0 hv M2 => ⟨fun _ => law_next (by omega) hx hm ho (C2.out an.fr (by omega)) M2, fun q => q (hv rfl).symm⟩)⟩
theorem lc_23 {sz Ln i : Nat} {xs : Nat → Int32} {P : Sk} {f : St} {A : Ab} (hi : i + 4 ≤ Ln) (hLn : Ln ≤ 2048) (hx : IsComp P (sz + 0)) (hm : IsModel P (sz + 1438)) (ho : Ob P (sz + 1449) 10 ∧ sN P (sz + 1449) = 1) (C : CompIs f (sz + 0) A) (M : MIs f (sz + 1438) A) : fL_23 sz Ln xs (LI sz) lawM P f (nI i) := by
  unfold fL_23
  refine ⟨A, C, ?_⟩
  refine u8_looseShare M (fun g an M2 => ?_)
  have e : Op.cmpValue (FP.dcmp (shV A) (shV A)) .l = 0 := by
    rw [dc_nn (shV_nn M.bok)]
    rfl
  exact ⟨fun _ => law_next (by omega) hx hm ho (C.out an.fr (by omega)) M2, fun q => absurd e q⟩
theorem lc_24 {sz Ln i : Nat} {xs : Nat → Int32} {P : Sk} {f : St} {A : Ab} (hi : i + 4 ≤ Ln) (hLn : Ln ≤ 2048) (hx : IsComp P (sz + 0)) (hm : IsModel P (sz + 1438)) (ho : Ob P (sz + 1449) 10 ∧ sN P (sz + 1449) = 1) (C : CompIs f (sz + 0) A) (M : MIs f (sz + 1438) A) : fL_24 sz Ln xs (LI sz) lawM P f (nI i) := by
  unfold fL_24
  refine ⟨A, C, fun g r1 C2 => ?_⟩
  refine ⟨A, M.rows (fun i hi => r1 _ (by omega)), fun g2 an M2 => ?_⟩
  exact ⟨fun _ => law_next (by omega) hx hm ho (C2.out an.fr (by omega)) M2, fun q => q (lg_self _)⟩
theorem law_body {sz Ln : Nat} {xs : Nat → Int32} (hLn : Ln ≤ 2048) : ∀ P f x4, LI sz P f x4 → bL_law sz Ln xs (LI sz) lawM P f x4 := by
  rintro P f x4 ⟨A, i, rfl, hi0, hx, hm, ho, C, M⟩
  unfold bL_law
  refine ⟨fun _ => trivial, fun q => ?_⟩
  have hi : i + 4 ≤ Ln := by
    refine Nat.not_lt.mp (fun h => q ?_)
    rw [Int32.lt_iff_toInt_lt, show (4 : Int32) = nI 4 from rfl, pk_sub_toInt (by omega) (by decide), nI_toInt (by omega)]
    omega
  refine ⟨vp_nI (by omega) (by omega), fun kk _ => ?_⟩
  exact ⟨fun _ => lc_0 hi hLn hx hm ho C M, fun _ => ⟨fun _ => lc_1 hi hLn hx hm ho C M, fun _ => ⟨fun _ => lc_2 hi hLn hx hm ho C M, fun _ => ⟨fun _ => lc_3 hi hLn hx hm ho C M, fun _ => ⟨fun _ => lc_4 hi hLn hx hm ho C M, fun _ => ⟨fun _ => lc_5 hi hLn hx hm ho C M, fun _ => ⟨fun _ => lc_6 hi hLn hx hm ho C M, fun _ => ⟨fun _ => lc_7 hi hLn hx hm ho C M, fun _ => ⟨fun _ => lc_8 hi hLn hx hm ho C M, fun _ => ⟨fun _ => lc_9 hi hLn hx hm ho C M, fun _ => ⟨fun _ => lc_10 hi hLn hx hm ho C M, fun _ => ⟨fun _ => lc_11 hi hLn hx hm ho C M, fun _ => ⟨fun _ => lc_12 hi hLn hx hm ho C M, fun _ => ⟨fun _ => lc_13 hi hLn hx hm ho C M, fun _ => ⟨fun _ => lc_14 hi hLn hx hm ho C M, fun _ => ⟨fun _ => lc_15 hi hLn hx hm ho C M, fun _ => ⟨fun _ => lc_16 hi hLn hx hm ho C M, fun _ => ⟨fun _ => lc_17 hi hLn hx hm ho C M, fun _ => ⟨fun _ => lc_18 hi hLn hx hm ho C M, fun _ => ⟨fun _ => lc_19 hi hLn hx hm ho C M, fun _ => ⟨fun _ => lc_20 hi hLn hx hm ho C M, fun _ => ⟨fun _ => lc_21 hi hLn hx hm ho C M, fun _ => ⟨fun _ => lc_22 hi hLn hx hm ho C M, fun _ => ⟨fun _ => lc_23 hi hLn hx hm ho C M, fun _ => ⟨fun _ => lc_24 hi hLn hx hm ho C M, fun _ => law_next (by omega) hx hm ho C M⟩⟩⟩⟩⟩⟩⟩⟩⟩⟩⟩⟩⟩⟩⟩⟩⟩⟩⟩⟩⟩⟩⟩⟩⟩
theorem law_init {sz : Nat} {Pz : Sk} {f0 : St} (hz : sL Pz = []) (hJ : ∀ q, sJ Pz q = fun _ => 0) : vL_law sz Pz f0 (LI sz) := by
  unfold vL_law
  have cz : ∀ (P : Sk) c, (∀ i, i < c → sz + i ∈ sL P) → COk Pz P sz c := fun P c h => ⟨fun x hx => by rw [hz] at hx; exact absurd hx List.not_mem_nil, h⟩
  refine ⟨cz _ _ (fun i hi => absurd hi (Nat.not_lt_zero _)), fun P0 e0 g0 d0 => ?_⟩
  subst e0 d0
  have m0 := ob_new Pz (sz + 0) 7 0
  refine ⟨cz _ _ (fun i hi => by rw [show i = 0 by omega]; exact m0.1), ?_⟩
  refine uc_X7 m0 (fun P4 g4 H4 I4 t1 b2 b3 b4 b5 h2 h3 s4' => ?_)
  have all4 : ∀ i, i < 1438 → sz + i ∈ sL P4 := fun i hi => by
    by_cases c : i = 0
    · rw [c]
      exact (H4.1 _).mpr (Or.inl m0.1)
    · exact (H4.1 _).mpr (Or.inr ⟨by omega, by omega⟩)
  refine ⟨cz _ _ all4, fun P8 e8 g8 d8 => ?_⟩
  subst e8 d8
  have m8 := ob_new P4 (sz + 1438) 8 0
  have all8 : ∀ i, i < 1439 → sz + i ∈ sL (pNew P4 (sz + 1438) 8 0) := fun i hi => by
    by_cases c : i = 1438
    · rw [c]
      exact m8.1
    · exact List.mem_append.mpr (Or.inl (all4 i (by omega)))
  refine ⟨cz _ _ all8, ?_⟩
  refine uc_X8 m8 (by simp [va_up]) (fun P12 g12 H12 I12 F w0 w1 w2 w3 => ?_)
  have all12 : ∀ i, i < 1449 → sz + i ∈ sL P12 := fun i hi => by
    by_cases c : i < 1439
    · exact (H12.1 _).mpr (Or.inl (all8 i c))
    · exact (H12.1 _).mpr (Or.inr ⟨by omega, by omega⟩)
  refine ⟨⟨cz _ _ all12, fun q _ => ?_⟩, fun P17 e17 g17 d17 => ?_⟩
  · rw [H12.2.2.2]
    show sJ P4 q = _
    rw [H4.2.2.2]
    exact hJ q
  subst e17 d17
  have s4 : ∀ x, x < sz + 1438 → Sm P4 (pNew P12 (sz + 1449) 10 1) g4 (va_up g12 (sz + 1449) z0) x := fun x hx => ((sm_new P4 g4 (sz + 1438) 8 0 (show x ≠ sz + 1438 by omega)).tr (H12.lo hx)).tr (sm_new P12 g12 (sz + 1449) 10 1 (show x ≠ sz + 1449 by omega))
  have s12 : ∀ x, x < sz + 1449 → Sm P12 (pNew P12 (sz + 1449) 10 1) g12 (va_up g12 (sz + 1449) z0) x := fun x hx => sm_new P12 g12 (sz + 1449) 10 1 (show x ≠ sz + 1449 by omega)
  have fr4 : ∀ x, x < sz + 1438 → va_up g12 (sz + 1449) z0 x = g4 x := fun x hx => (s4 x hx).2.2.2.2
  have fr12 : ∀ x, x < sz + 1449 → va_up g12 (sz + 1449) z0 x = g12 x := fun x hx => (s12 x hx).2.2.2.2
  have tk : Tok [] := ⟨Nat.zero_le _, fun c hc => absurd hc List.not_mem_nil⟩
  have bk : Bok ([], 0, -1, -1) := ⟨Nat.zero_le _, fun x hx => absurd hx List.not_mem_nil⟩
  have hk : Hok [] := ⟨Nat.zero_le _, fun x hx => absurd hx List.not_mem_nil⟩
  refine ⟨(([], 0, -1, -1), [], none, []), 0, rfl, by decide, I4.eq (fun x h1 h2 => s4 x (by omega)), I12.eq (fun x h1 h2 => s12 x (by omega)), ⟨ob_new P12 (sz + 1449) 10 1, by simp [pNew, va_up, sN]⟩, ⟨⟨?_, fun i hi => absurd hi (Nat.not_lt_zero _)⟩, ⟨?_, ?_, ?_, ?_, fun i hi => absurd hi (Nat.not_lt_zero _)⟩, ⟨0, by decide, ?_, ?_, fun i hi => absurd hi (Nat.not_lt_zero _)⟩, Or.inl ⟨rfl, ?_⟩, tk, bk, hk⟩, ⟨⟨?_, ?_, ?_, ?_, fun i hi => absurd hi (Nat.not_lt_zero _)⟩, ⟨?_, fun i hi => absurd hi (Nat.not_lt_zero _)⟩, Or.inl ⟨rfl, ?_⟩, ⟨?_, fun i hi => absurd hi (Nat.not_lt_zero _)⟩, tk, bk, hk⟩⟩
  · rw [fr4 _ (by omega)]
    exact t1
  · rw [fr4 _ (by omega)]
    exact b2
  · rw [fr4 _ (by omega)]
    exact b3
  · rw [fr4 _ (by omega)]
    exact b4
  · rw [fr4 _ (by omega)]
    exact b5
  · rw [fr4 _ (by omega)]
    exact h2
  · rw [fr4 _ (by omega)]
    exact h3
  · rw [fr4 _ (by omega)]
    exact s4'
  · rw [fr12 _ (by omega)]
    exact w0
  · rw [fr12 _ (by omega)]
    exact w1
  · rw [fr12 _ (by omega)]
    exact w2
  · rw [fr12 _ (by omega)]
    exact w3
  · rw [fr12 _ (by omega)]
    exact F 3
  · rw [fr12 _ (by omega)]
    exact F 5
  · rw [fr12 _ (by omega)]
    exact F 7
