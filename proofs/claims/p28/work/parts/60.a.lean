/-! constructors: what grows -/
def Sm (P P2 : Sk) (f f2 : St) (q : Nat) : Prop := (q ∈ sL P → q ∈ sL P2) ∧ sK P2 q = sK P q ∧ sN P2 q = sN P q ∧ sR P2 q = sR P q ∧ f2 q = f q
theorem Sm.tr {P P2 P3 : Sk} {f f2 f3 : St} {q : Nat} (h : Sm P P2 f f2 q) (k : Sm P2 P3 f2 f3 q) : Sm P P3 f f3 q := ⟨fun m => k.1 (h.1 m), k.2.1.trans h.2.1, k.2.2.1.trans h.2.2.1, k.2.2.2.1.trans h.2.2.2.1, k.2.2.2.2.trans h.2.2.2.2⟩
theorem ob_sm {P P2 : Sk} {f f2 : St} {q k : Nat} (h : Ob P q k) (s : Sm P P2 f f2 q) : Ob P2 q k := ⟨s.1 h.1, s.2.1.trans h.2⟩
/-- a block behind an object has been made: n addresses with the object's own -/
def Gr (P P2 : Sk) (f f2 : St) (a n : Nat) : Prop := (∀ q, q ∈ sL P2 ↔ (q ∈ sL P ∨ (a + 1 ≤ q ∧ q < a + n))) ∧ (∀ q, q < a → sK P2 q = sK P q ∧ sN P2 q = sN P q ∧ sR P2 q = sR P q ∧ f2 q = f q) ∧ sK P2 a = sK P a ∧ sJ P2 = sJ P
theorem Gr.refl (P : Sk) (f : St) (a : Nat) : Gr P P f f a 1 := ⟨fun q => ⟨Or.inl, fun h => h.elim id (fun h => by omega)⟩, fun q _ => ⟨rfl, rfl, rfl, rfl⟩, rfl, rfl⟩
theorem Gr.lo {P P2 : Sk} {f f2 : St} {a n : Nat} (h : Gr P P2 f f2 a n) {q : Nat} (hq : q < a) : Sm P P2 f f2 q := ⟨fun m => (h.1 q).mpr (Or.inl m), h.2.1 q hq⟩
theorem Gr.cok {P P2 : Sk} {f f2 : St} {a n c : Nat} (h : Gr P P2 f f2 a n) (hc : n = c + 1) : COk P P2 (a + 1) c := ⟨fun x hx => (h.1 x).mpr (Or.inl hx), fun i hi => (h.1 _).mpr (Or.inr ⟨by omega, by omega⟩)⟩
theorem Gr.ob {P P2 : Sk} {f f2 : St} {a n k : Nat} (h : Gr P P2 f f2 a n) (ho : Ob P a k) : Ob P2 a k := ⟨(h.1 a).mpr (Or.inl ho.1), h.2.2.1.trans ho.2⟩
theorem Gr.set {P P2 : Sk} {f f2 : St} {a n t j : Nat} {v : Int32} (h : Gr P P2 f f2 a n) (ht : a ≤ t) : Gr P P2 f (setf f2 t j v) a n := ⟨h.1, fun q hq => ⟨(h.2.1 q hq).1, (h.2.1 q hq).2.1, (h.2.1 q hq).2.2.1, by rw [setf_row (by omega)]; exact (h.2.1 q hq).2.2.2⟩, h.2.2⟩
theorem sm_new (P : Sk) (f : St) (q k c : Nat) {x : Nat} (hx : x ≠ q) : Sm P (pNew P q k c) f (va_up f q z0) x := ⟨fun m => List.mem_append.mpr (Or.inl m), by simp [pNew, va_up, hx, sK], by simp [pNew, va_up, hx, sN], by simp [pNew, va_up, hx, sR], by simp [va_up, hx]⟩
theorem ob_new (P : Sk) (q k c : Nat) : Ob (pNew P q k c) q k := ⟨List.mem_append.mpr (Or.inr (List.mem_singleton.mpr rfl)), by simp [pNew, va_up, sK]⟩
theorem gw_new {P0 P : Sk} {f0 f : St} {a n q : Nat} (k c : Nat) (h : Gr P0 P f0 f a n) (hn : 1 ≤ n) (hq : q = a + n) : Gr P0 (pNew P q k c) f0 (va_up f q z0) a (n + 1) := by
  refine ⟨fun x => ?_, fun x hx => ?_, ?_, h.2.2.2⟩
  · show x ∈ sL P ++ [q] ↔ _
    rw [List.mem_append, h.1 x, List.mem_singleton]
    constructor
    · rintro ((m | m) | m)
      · exact Or.inl m
      · exact Or.inr ⟨m.1, by omega⟩
      · exact Or.inr ⟨by omega, by omega⟩
    · rintro (m | m)
      · exact Or.inl (Or.inl m)
      · by_cases e : x = q
        · exact Or.inr e
        · exact Or.inl (Or.inr ⟨m.1, by omega⟩)
  · have s := (h.lo hx).tr (sm_new P f q k c (show x ≠ q by omega))
    exact s.2
  · have s := sm_new P f q k c (show a ≠ q by omega)
    exact s.2.1.trans h.2.2.1
theorem gr_sub {P0 P1 P2 : Sk} {f0 f1 f2 : St} {a n q m : Nat} (h : Gr P0 P1 f0 f1 a (n + 1)) (h2 : Gr P1 P2 f1 f2 q m) (hq : q = a + n) (hn : 1 ≤ n) (hm : 1 ≤ m) : Gr P0 P2 f0 f2 a (n + m) := by
  refine ⟨fun x => ?_, fun x hx => ((h.lo hx).tr (h2.lo (by omega))).2, (h2.lo (show a < q by omega)).2.1.trans h.2.2.1, h2.2.2.2.trans h.2.2.2⟩
  rw [h2.1 x, h.1 x]
  constructor
  · rintro ((m1 | m1) | m1)
    · exact Or.inl m1
    · exact Or.inr ⟨m1.1, by omega⟩
    · exact Or.inr ⟨by omega, by omega⟩
  · rintro (m1 | m1)
    · exact Or.inl (Or.inl m1)
    · by_cases e : x < a + (n + 1)
      · exact Or.inl (Or.inr ⟨m1.1, e⟩)
      · exact Or.inr ⟨by omega, by omega⟩
theorem sm_ref (P : Sk) (f : St) (t j b : Nat) {x : Nat} (hx : x ≠ t) : Sm P (pRef P t j b) f f x := ⟨id, rfl, rfl, by funext i; simp [pRef, hx, sR], rfl⟩
theorem ref_at (P : Sk) (t j b i : Nat) : sR (pRef P t j b) t i = if i = j then some b else sR P t i := by
  by_cases c : i = j
  · simp [pRef, c, sR]
  · simp [pRef, c, sR]
theorem gr_ref {P0 P : Sk} {f0 f : St} {a n t j b : Nat} (h : Gr P0 P f0 f a n) (ht : a ≤ t) : Gr P0 (pRef P t j b) f0 f a n := ⟨h.1, fun q hq => ((h.lo hq).tr (sm_ref P f t j b (show q ≠ t by omega))).2, h.2.2.1, h.2.2.2⟩
/-- an object has been made behind the block, and is kept by an object of the block -/
theorem gr_child {P0 P P2 P3 : Sk} {f0 f f2 : St} {a n m q t j k c : Nat} (h : Gr P0 P f0 f a n) (hn : 1 ≤ n) (hm : 1 ≤ m) (hq : q = a + n) (h2 : Gr (pNew P q k c) P2 (va_up f q z0) f2 q m) (ht : a ≤ t) (ht2 : t < q) (e3 : P3 = pRef P2 t j q) :
    Gr P0 P3 f0 f2 a (n + m) ∧ (∀ x, x < q → x ≠ t → Sm P P3 f f2 x) ∧ (∀ x, q ≤ x → Sm P2 P3 f2 f2 x) ∧ ((t ∈ sL P → t ∈ sL P3) ∧ sK P3 t = sK P t ∧ sN P3 t = sN P t ∧ f2 t = f t) ∧ ∀ i, sR P3 t i = if i = j then some q else sR P t i := by
  subst e3
  have lowS : ∀ x, x < q → Sm P P2 f f2 x := fun x hx => (sm_new P f q k c (show x ≠ q by omega)).tr (h2.lo hx)
  refine ⟨gr_ref (gr_sub (gw_new k c h hn hq) h2 hq hn hm) ht, fun x hx hxt => (lowS x hx).tr (sm_ref P2 f2 t j q hxt), fun x hx => sm_ref P2 f2 t j q (by omega), ?_, fun i => ?_⟩
  · have s := lowS t ht2
    exact ⟨fun m => s.1 m, s.2.1, s.2.2.1, s.2.2.2.2⟩
  · rw [ref_at, (lowS t ht2).2.2.2.1]
theorem IsRow.eq {P P2 : Sk} {f f2 : St} {a : Nat} (h : IsRow P a) (k : ∀ x, a ≤ x → x < a + 2 → Sm P P2 f f2 x) : IsRow P2 a := by
  obtain ⟨h0, h1, h2⟩ := h
  exact ⟨ob_sm h0 (k _ (by omega) (by omega)), (congrFun (k _ (by omega) (by omega)).2.2.2.1 _).trans h1, ob_sm h2 (k _ (by omega) (by omega))⟩
theorem IsWord.eq {P P2 : Sk} {f f2 : St} {a : Nat} (h : IsWord P a) (k : ∀ x, a ≤ x → x < a + 3 → Sm P P2 f f2 x) : IsWord P2 a := by
  obtain ⟨h0, h1, h2, h3⟩ := h
  exact ⟨ob_sm h0 (k _ (by omega) (by omega)), (congrFun (k _ (by omega) (by omega)).2.2.2.1 _).trans h1, h2.eq (fun x h1 h2 => k x (by omega) (by omega)), (k _ (by omega) (by omega)).2.2.1.trans h3⟩
theorem IsTrace.eq {P P2 : Sk} {f f2 : St} {a : Nat} (h : IsTrace P a) (k : ∀ x, a ≤ x → x < a + 15 → Sm P P2 f f2 x) : IsTrace P2 a := by
  obtain ⟨h0, h1, h2, h3, h4, h5, h6, h7, h8, h9, h10, h11, h12, h13, h14, h15, h16, h17, h18, h19, h20, h21⟩ := h
  exact ⟨ob_sm h0 (k _ (by omega) (by omega)), (congrFun (k _ (by omega) (by omega)).2.2.2.1 _).trans h1, h2.eq (fun x h1 h2 => k x (by omega) (by omega)), (k _ (by omega) (by omega)).2.2.1.trans h3, (congrFun (k _ (by omega) (by omega)).2.2.2.1 _).trans h4, h5.eq (fun x h1 h2 => k x (by omega) (by omega)), (k _ (by omega) (by omega)).2.2.1.trans h6, (congrFun (k _ (by omega) (by omega)).2.2.2.1 _).trans h7, h8.eq (fun x h1 h2 => k x (by omega) (by omega)), (k _ (by omega) (by omega)).2.2.1.trans h9, (congrFun (k _ (by omega) (by omega)).2.2.2.1 _).trans h10, h11.eq (fun x h1 h2 => k x (by omega) (by omega)), (k _ (by omega) (by omega)).2.2.1.trans h12, (congrFun (k _ (by omega) (by omega)).2.2.2.1 _).trans h13, h14.eq (fun x h1 h2 => k x (by omega) (by omega)), (k _ (by omega) (by omega)).2.2.1.trans h15, (congrFun (k _ (by omega) (by omega)).2.2.2.1 _).trans h16, h17.eq (fun x h1 h2 => k x (by omega) (by omega)), (k _ (by omega) (by omega)).2.2.1.trans h18, (congrFun (k _ (by omega) (by omega)).2.2.2.1 _).trans h19, h20.eq (fun x h1 h2 => k x (by omega) (by omega)), (k _ (by omega) (by omega)).2.2.1.trans h21⟩
theorem IsLoaf.eq {P P2 : Sk} {f f2 : St} {a : Nat} (h : IsLoaf P a) (k : ∀ x, a ≤ x → x < a + 22 → Sm P P2 f f2 x) : IsLoaf P2 a := by
  obtain ⟨h0, h1, h2, h3, h4, h5, h6⟩ := h
  exact ⟨ob_sm h0 (k _ (by omega) (by omega)), (congrFun (k _ (by omega) (by omega)).2.2.2.1 _).trans h1, h2.eq (fun x h1 h2 => k x (by omega) (by omega)), (congrFun (k _ (by omega) (by omega)).2.2.2.1 _).trans h3, h4.eq (fun x h1 h2 => k x (by omega) (by omega)), (congrFun (k _ (by omega) (by omega)).2.2.2.1 _).trans h5, h6.eq (fun x h1 h2 => k x (by omega) (by omega))⟩
theorem IsText.eq {P P2 : Sk} {f f2 : St} {a : Nat} (h : IsText P a) (k : ∀ x, a ≤ x → x < a + 3 → Sm P P2 f f2 x) : IsText P2 a := by
  obtain ⟨h0, h1, h2, h3⟩ := h
  exact ⟨ob_sm h0 (k _ (by omega) (by omega)), (congrFun (k _ (by omega) (by omega)).2.2.2.1 _).trans h1, h2.eq (fun x h1 h2 => k x (by omega) (by omega)), (k _ (by omega) (by omega)).2.2.1.trans h3⟩
theorem IsBoard.eq {P P2 : Sk} {f f2 : St} {a : Nat} (h : IsBoard P a) (k : ∀ x, a ≤ x → x < a + 156 → Sm P P2 f f2 x) : IsBoard P2 a := by
  obtain ⟨h0, h1, h2, h3, h4, h5, h6, h7⟩ := h
  exact ⟨ob_sm h0 (k _ (by omega) (by omega)), (congrFun (k _ (by omega) (by omega)).2.2.2.1 _).trans h1, ob_sm h2 (k _ (by omega) (by omega)), (k _ (by omega) (by omega)).2.2.1.trans h3, fun i hi => (congrFun (k _ (by omega) (by omega)).2.2.2.1 _).trans (h4 i hi), fun i hi => (h5 i hi).eq (fun x h1 h2 => k x (by omega) (by omega)), (congrFun (k _ (by omega) (by omega)).2.2.2.1 _).trans h6, h7.eq (fun x h1 h2 => k x (by omega) (by omega))⟩
theorem IsHist.eq {P P2 : Sk} {f f2 : St} {a : Nat} (h : IsHist P a) (k : ∀ x, a ≤ x → x < a + 1094 → Sm P P2 f f2 x) : IsHist P2 a := by
  obtain ⟨h0, h1, h2, h3, h4, h5, h6, h7⟩ := h
  exact ⟨ob_sm h0 (k _ (by omega) (by omega)), (congrFun (k _ (by omega) (by omega)).2.2.2.1 _).trans h1, ob_sm h2 (k _ (by omega) (by omega)), (k _ (by omega) (by omega)).2.2.1.trans h3, fun i hi => (congrFun (k _ (by omega) (by omega)).2.2.2.1 _).trans (h4 i hi), fun i hi => (h5 i hi).eq (fun x h1 h2 => k x (by omega) (by omega)), (congrFun (k _ (by omega) (by omega)).2.2.2.1 _).trans h6, h7.eq (fun x h1 h2 => k x (by omega) (by omega))⟩
theorem IsComp.eq {P P2 : Sk} {f f2 : St} {a : Nat} (h : IsComp P a) (k : ∀ x, a ≤ x → x < a + 1438 → Sm P P2 f f2 x) : IsComp P2 a := by
  obtain ⟨h0, h1, h2, h3, h4, h5, h6, h7, h8, h9, h10, h11, h12, h13, h14⟩ := h
  exact ⟨ob_sm h0 (k _ (by omega) (by omega)), (congrFun (k _ (by omega) (by omega)).2.2.2.1 _).trans h1, h2.eq (fun x h1 h2 => k x (by omega) (by omega)), (congrFun (k _ (by omega) (by omega)).2.2.2.1 _).trans h3, h4.eq (fun x h1 h2 => k x (by omega) (by omega)), (congrFun (k _ (by omega) (by omega)).2.2.2.1 _).trans h5, h6.eq (fun x h1 h2 => k x (by omega) (by omega)), (congrFun (k _ (by omega) (by omega)).2.2.2.1 _).trans h7, h8.eq (fun x h1 h2 => k x (by omega) (by omega)), (congrFun (k _ (by omega) (by omega)).2.2.2.1 _).trans h9, h10.eq (fun x h1 h2 => k x (by omega) (by omega)), (congrFun (k _ (by omega) (by omega)).2.2.2.1 _).trans h11, h12.eq (fun x h1 h2 => k x (by omega) (by omega)), (congrFun (k _ (by omega) (by omega)).2.2.2.1 _).trans h13, h14.eq (fun x h1 h2 => k x (by omega) (by omega))⟩
theorem IsModel.eq {P P2 : Sk} {f f2 : St} {a : Nat} (h : IsModel P a) (k : ∀ x, a ≤ x → x < a + 11 → Sm P P2 f f2 x) : IsModel P2 a := by
  obtain ⟨h0, h1, h2, h3, h4, h5, h6, h7, h8, h9, h10, h11, h12, h13, h14, h15, h16, h17, h18, h19, h20, h21, h22, h23, h24, h25, h26, h27, h28, h29, h30⟩ := h
  exact ⟨ob_sm h0 (k _ (by omega) (by omega)), (congrFun (k _ (by omega) (by omega)).2.2.2.1 _).trans h1, ob_sm h2 (k _ (by omega) (by omega)), (k _ (by omega) (by omega)).2.2.1.trans h3, (congrFun (k _ (by omega) (by omega)).2.2.2.1 _).trans h4, ob_sm h5 (k _ (by omega) (by omega)), (k _ (by omega) (by omega)).2.2.1.trans h6, (congrFun (k _ (by omega) (by omega)).2.2.2.1 _).trans h7, ob_sm h8 (k _ (by omega) (by omega)), (k _ (by omega) (by omega)).2.2.1.trans h9, (congrFun (k _ (by omega) (by omega)).2.2.2.1 _).trans h10, ob_sm h11 (k _ (by omega) (by omega)), (k _ (by omega) (by omega)).2.2.1.trans h12, (congrFun (k _ (by omega) (by omega)).2.2.2.1 _).trans h13, ob_sm h14 (k _ (by omega) (by omega)), (k _ (by omega) (by omega)).2.2.1.trans h15, (congrFun (k _ (by omega) (by omega)).2.2.2.1 _).trans h16, ob_sm h17 (k _ (by omega) (by omega)), (k _ (by omega) (by omega)).2.2.1.trans h18, (congrFun (k _ (by omega) (by omega)).2.2.2.1 _).trans h19, ob_sm h20 (k _ (by omega) (by omega)), (k _ (by omega) (by omega)).2.2.1.trans h21, (congrFun (k _ (by omega) (by omega)).2.2.2.1 _).trans h22, ob_sm h23 (k _ (by omega) (by omega)), (k _ (by omega) (by omega)).2.2.1.trans h24, (congrFun (k _ (by omega) (by omega)).2.2.2.1 _).trans h25, ob_sm h26 (k _ (by omega) (by omega)), (k _ (by omega) (by omega)).2.2.1.trans h27, (congrFun (k _ (by omega) (by omega)).2.2.2.1 _).trans h28, ob_sm h29 (k _ (by omega) (by omega)), (k _ (by omega) (by omega)).2.2.1.trans h30⟩
