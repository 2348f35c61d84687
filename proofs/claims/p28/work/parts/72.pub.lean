/-! the class's calls as the law makes them: none of them throws -/
theorem fin0 {f : St} {x : Nat} {R : Re} {K : Int32 → St → Prop} {e1 e2 e3 : String} (h0 : R.1 = 0) (h : ∀ g, CompIs g x R.2.2 → K R.2.1 g) (X : String → St → Prop) : Fin f x R K X e1 e2 e3 := fun g _ C =>
  ⟨fun _ => h g C, fun e => absurd (h0.symm.trans e) (by decide), fun e => absurd (h0.symm.trans e) (by decide), fun e => absurd (h0.symm.trans e) (by decide)⟩
theorem inN {k m : Nat} (h : k < m) (hm : m < 2 ^ 31) : ¬ nI k < 0 ∧ (nI k).toNatClampNeg < m := ⟨nI_nn (by omega), by rw [nI_clamp (by omega)]; exact h⟩
theorem pb_count {P : Sk} {f : St} {x q : Nat} {A : Ab} {v : Int32} {K : Int32 → St → Prop} (C : CompIs f x A) (hq : q < 7) (hv : nB A q = v) (h : ∀ g, CompIs g x A → K v g) : kX7_count P f x (nI q) K XF := by
  have e : opCount A (nI q) = (0, v, A) := by
    unfold opCount
    rw [cif_pos (inN hq (by decide)), nI_clamp (by omega), hv]
  exact u7_count C (fin0 (by rw [e]) (by rw [e]; exact h) _)
theorem pb_stop0 {P : Sk} {f : St} {x : Nat} {A : Ab} {K : Int32 → St → Prop} (C : CompIs f x A) (h : ∀ g, CompIs g x A → K A.1.2.2.1 g) : kX7_stopped P f x 0 K XF := by
  have e : opStopped A 0 = (0, A.1.2.2.1, A) := by
    unfold opStopped
    rw [cif_pos (show ¬ (0 : Int32) < 0 ∧ (0 : Int32).toNatClampNeg < 2 from ⟨by decide, by decide⟩), if_pos rfl]
  exact u7_stopped C (fin0 (by rw [e]) (by rw [e]; exact h) _)
theorem pb_stop1 {P : Sk} {f : St} {x : Nat} {A : Ab} {K : Int32 → St → Prop} (C : CompIs f x A) (h : ∀ g, CompIs g x A → K A.1.2.2.2 g) : kX7_stopped P f x 1 K XF := by
  have e : opStopped A 1 = (0, A.1.2.2.2, A) := by
    unfold opStopped
    rw [cif_pos (show ¬ (1 : Int32) < 0 ∧ (1 : Int32).toNatClampNeg < 2 from ⟨by decide, by decide⟩), if_neg (by decide)]
  exact u7_stopped C (fin0 (by rw [e]) (by rw [e]; exact h) _)
theorem len_31 {x : Nat} {f : St} {A : Ab} (C : CompIs f x A) {l : Nat} (hl : l < A.1.1.length) : l < 2 ^ 31 := by
  have := C.2.2.2.2.2.1.1
  omega
theorem pb_loaf {P : Sk} {f : St} {x l q : Nat} {A : Ab} {v : Int32} {K : Int32 → St → Prop} (hx : IsComp P x) (C : CompIs f x A) (hl : l < A.1.1.length) (hq : q < 11) (hv : nL A.1.1 l q = v) (h : ∀ g, CompIs g x A → K v g) : kX7_loaf P f x (nI l) (nI q) K XF := by
  obtain ⟨hb, -⟩ := hasB_n hl C.2.2.2.2.2.1
  have e : opLoaf A (nI l) (nI q) = (0, v, A) := by
    unfold opLoaf
    rw [cif_pos hb, cif_pos (inN hq (by decide)), nI_clamp (len_31 C hl), nI_clamp (by omega), hv]
  exact u7_loaf hx C (fin0 (by rw [e]) (by rw [e]; exact h) _)
theorem pb_crossing {P : Sk} {f : St} {x l k q : Nat} {A : Ab} {K : Int32 → St → Prop} (hx : IsComp P x) (C : CompIs f x A) (hl : l < A.1.1.length) (hk : k < (lfAt A.1.1 l).2.length) (hq : q < 4) (h : ∀ g, CompIs g x A → K (nI (crN (lfAt A.1.1 l).2 k q)) g) : kX7_crossing P f x (nI l) (nI k) (nI q) K XF := by
  obtain ⟨hb, hb2⟩ := hasB_n hl C.2.2.2.2.2.1
  have h24 := (C.2.2.2.2.2.1.at hl).1.2.2.1
  have e : opCrossing A (nI l) (nI k) (nI q) = (0, nI (crN (lfAt A.1.1 l).2 k q), A) := by
    unfold opCrossing
    rw [cif_pos hb, cif_pos (And.intro (inN (show k < 24 by omega) (by decide)) (inN hq (by decide))), nI_clamp (show k < 2 ^ 31 by omega), nI_clamp (show q < 2 ^ 31 by omega), hb2, if_pos hk]
  exact u7_crossing hx C (fin0 (by rw [e]) (by rw [e]; exact h) _)
theorem pb_strand {P : Sk} {f : St} {x l s q : Nat} {A : Ab} {K : Int32 → St → Prop} (hx : IsComp P x) (C : CompIs f x A) (hl : l < A.1.1.length) (hs : s < (lfAt A.1.1 l).1) (hq : q < 5) (h : ∀ g, CompIs g x A → K (nI (stN (lfAt A.1.1 l).1 (lfAt A.1.1 l).2 s q)) g) : kX7_strand P f x (nI l) (nI s) (nI q) K XF := by
  obtain ⟨hb, hb2⟩ := hasB_n hl C.2.2.2.2.2.1
  have h7 := (C.2.2.2.2.2.1.at hl).1.2.1
  have e : opStrand A (nI l) (nI s) (nI q) = (0, nI (stN (lfAt A.1.1 l).1 (lfAt A.1.1 l).2 s q), A) := by
    unfold opStrand
    rw [cif_pos hb, cif_pos (And.intro (inN (show s < 7 by omega) (by decide)) (inN hq (by decide))), nI_clamp (show s < 2 ^ 31 by omega), nI_clamp (show q < 2 ^ 31 by omega), hb2, if_pos hs]
  exact u7_strand hx C (fin0 (by rw [e]) (by rw [e]; exact h) _)
theorem pb_period {P : Sk} {f : St} {x l : Nat} {A : Ab} {K : Int32 → St → Prop} (C : CompIs f x A) (hl : l < A.1.1.length) (h : ∀ g, CompIs g x A → K (nI (perV (lfAt A.1.1 l))) g) : kX7_period P f x (nI l) K XF := by
  obtain ⟨hb, hb2⟩ := hasB_n hl C.2.2.2.2.2.1
  have e : opPeriod A (nI l) = (0, nI (perV (lfAt A.1.1 l)), A) := by
    unfold opPeriod
    rw [cif_pos hb, hb2]
  exact u7_period C (fin0 (by rw [e]) (by rw [e]; exact h) _)
theorem lk_self (y : Lf) : lk y y = 1 := cif_pos ⟨rfl, rfl⟩
theorem pb_alike {P : Sk} {f : St} {x l : Nat} {A : Ab} {K : Int32 → St → Prop} (C : CompIs f x A) (hl : l < A.1.1.length) (h : ∀ g, CompIs g x A → K 1 g) : kX7_alike P f x (nI l) (nI l) K XF := by
  obtain ⟨hb, hb2⟩ := hasB_n hl C.2.2.2.2.2.1
  have e : opAlike A (nI l) (nI l) = (0, 1, A) := by
    unfold opAlike
    rw [cif_pos (And.intro hb hb), hb2, lk_self]
    rfl
  exact u7_alike C (fin0 (by rw [e]) (by rw [e]; exact h) _)
theorem pb_append {P : Sk} {f : St} {x c : Nat} {A : Ab} {K : Int32 → St → Prop} (hx : IsComp P x) (C : CompIs f x A) (h1 : 33 ≤ c) (h2 : c ≤ 126) (hl : A.2.2.2.length < 60) (h : ∀ v g, CompIs g x (A.1, A.2.1, A.2.2.1, A.2.2.2 ++ [c]) → K v g) : kX7_append P f x (nI c) K XF := by
  have e : opAppend A (nI c) = (0, nI (A.2.2.2.length + 1), (A.1, A.2.1, A.2.2.1, A.2.2.2 ++ [c])) := by
    unfold opAppend
    have hc : ¬ nI c < 0 ∧ 33 ≤ (nI c).toNatClampNeg ∧ (nI c).toNatClampNeg ≤ 126 := by
      rw [nI_clamp (by omega)]
      exact ⟨nI_nn (by omega), h1, h2⟩
    rw [cif_pos hc, cif_pos hl, nI_clamp (by omega)]
  exact u7_append hx C (fin0 (by rw [e]) (by rw [e]; exact h _) _)
theorem pb_clear {P : Sk} {f : St} {x : Nat} {A : Ab} {K : Int32 → St → Prop} (C : CompIs f x A) (h : ∀ v g, CompIs g x (A.1, A.2.1, A.2.2.1, []) → K v g) : kX7_clearBuffer P f x K :=
  u7_clearBuffer C (fin0 rfl (h _) _)
theorem pb_keep {P : Sk} {f : St} {x : Nat} {A : Ab} {K : Int32 → St → Prop} (C : CompIs f x A) (h : ∀ v g, CompIs g x (A.1, A.2.1, some A.1, A.2.2.2) → K v g) : kX7_keep P f x K :=
  u7_keep C (fin0 rfl (h _) _)
theorem pb_undo {P : Sk} {f : St} {x : Nat} {A : Ab} {K : Int32 → St → Prop} (C : CompIs f x A) (h0 : A.2.1.length ≠ 0) (h : ∀ g, CompIs g x (bdAt A.2.1 (A.2.1.length - 1), A.2.1.take (A.2.1.length - 1), A.2.2) → K (nI (A.2.1.length - 1)) g) : kX7_undo P f x K XF := by
  have e : opUndo A = (0, nI (A.2.1.length - 1), (bdAt A.2.1 (A.2.1.length - 1), A.2.1.take (A.2.1.length - 1), A.2.2)) := cif_neg h0
  exact u7_undo C (fin0 (by rw [e]) (by rw [e]; exact h) _)
theorem pb_work {P : Sk} {f : St} {x : Nat} {A : Ab} {K : Int32 → St → Prop} (C : CompIs f x A) (hw : stB A.2.2.2 A.2.2.2.length = 7) (h : ∀ g, CompIs g x (wkB (wkR A), svH A.2.1 A.1, A.2.2.1, []) → K (nI (wkR A).1) g) : kX7_work P f x K XF := by
  have e : opWork A = (0, nI (wkR A).1, (wkB (wkR A), svH A.2.1 A.1, A.2.2.1, [])) := cif_pos hw
  exact ⟨A, C, fin0 (by rw [e]) (by rw [e]; exact h) _⟩
theorem pb_lay {P : Sk} {f : St} {x : Nat} {A : Ab} {K : Int32 → St → Prop} (hx : IsComp P x) (C : CompIs f x A) (h1 : LoafT A.2.2.2) (h2 : A.1.1.length < 6) (h3 : Dok (A.2.2.2.getD 0 0 - 48) (wdT A.2.2.2)) (h : ∀ g, CompIs g x ((A.1.1 ++ [(A.2.2.2.getD 0 0 - 48, wdT A.2.2.2)], A.1.2), svH A.2.1 A.1, A.2.2.1, []) → K (nI A.1.1.length) g) : kX7_lay P f x K XF := by
  have e : opLay A = (0, nI A.1.1.length, ((A.1.1 ++ [(A.2.2.2.getD 0 0 - 48, wdT A.2.2.2)], A.1.2), svH A.2.1 A.1, A.2.2.1, [])) := by
    unfold opLay
    rw [cif_pos h1, cif_pos h2, cif_pos h3]
  exact u7_lay hx C (fin0 (by rw [e]) (by rw [e]; exact h) _)
theorem pb_cross {P : Sk} {f : St} {x r : Nat} {A : Ab} {p q : Int32} {K : Int32 → St → Prop} (hx : IsComp P x) (C : CompIs f x A) (hr : r < 2) (h0 : (rsCross A.1 p q r).1 = 0) (h : ∀ v g, CompIs g x (sv A (putL A.1 p (rsCross A.1 p q r).2)) → K v g) : kX7_cross P f x p q (nI r) K XF := by
  have e : opCross A p q r = (0, nI (hidA (rsCross A.1 p q r).2.2 ((rsCross A.1 p q r).2.2.length - 1)), sv A (putL A.1 p (rsCross A.1 p q r).2)) := if_pos h0
  exact u7_cross hx C hr (fin0 (by rw [e]) (by rw [e]; exact h _) _)
theorem pb_back {P : Sk} {f : St} {x : Nat} {A : Ab} {p : Int32} {K : Int32 → St → Prop} (hx : IsComp P x) (C : CompIs f x A) (h0 : (rsBack A.1 p).1 = 0) (h : ∀ v g, CompIs g x (sv A (putL A.1 p (rsBack A.1 p).2)) → K v g) : kX7_back P f x p K XF := by
  have e : opBack A p = (0, nI (rsBack A.1 p).2.2.length, sv A (putL A.1 p (rsBack A.1 p).2)) := if_pos h0
  exact u7_back hx C (fin0 (by rw [e]) (by rw [e]; exact h _) _)
theorem pb_why {P : Sk} {f : St} {x r : Nat} {A : Ab} {p q : Int32} {K : Int32 → St → Prop} (hx : IsComp P x) (C : CompIs f x A) (hr : r < 2) (h0 : (rsCross A.1 p q r).1 < 3) (h : ∀ g, CompIs g x A → K (nI (rsCross A.1 p q r).1) g) : kX7_whyNot P f x p q (nI r) K XF := by
  have e : opWhy A p q r = (0, nI (rsCross A.1 p q r).1, A) := if_pos h0
  exact u7_whyNot hx C hr (fin0 (by rw [e]) (by rw [e]; exact h) _)
