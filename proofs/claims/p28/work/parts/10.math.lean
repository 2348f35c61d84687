/-! words as lists of crossings (2 times the place, and 1 more if right); the loose word and the short word -/
def fl (c : Nat) : Nat := if c % 2 = 1 then c - 1 else c + 1
theorem fl_fl (c : Nat) : fl (fl c) = c := by unfold fl; split <;> split <;> omega
theorem fl_half (c : Nat) : fl c / 2 = c / 2 := by unfold fl; split <;> omega
theorem fl_ne (c : Nat) : fl c ≠ c := by unfold fl; split <;> omega
theorem fl_iff {c d : Nat} : d = fl c ↔ (c / 2 = d / 2 ∧ c ≠ d) := by unfold fl; split <;> omega
theorem fl_sym {c d : Nat} : d = fl c ↔ c = fl d := ⟨fun h => by rw [h, fl_fl], fun h => by rw [h, fl_fl]⟩
/-- a crossing comes behind a loose word; the word is kept from its end on -/
def insR : List Nat → Nat → List Nat
  | [], c => [c]
  | x :: r, c => if c / 2 + 2 ≤ x / 2 then x :: insR r c else if x = fl c then r else c :: x :: r
def Irr : List Nat → Prop
  | [] => True
  | [_] => True
  | x :: y :: r => x ≠ fl y ∧ ¬ (x / 2 + 2 ≤ y / 2) ∧ Irr (y :: r)
theorem Irr.tail {x : Nat} {r : List Nat} (h : Irr (x :: r)) : Irr r := by
  cases r with
  | nil => trivial
  | cons y r => exact h.2.2
theorem irr_cons {x : Nat} {r : List Nat} (hr : Irr r) (h : ∀ y r', r = y :: r' → x ≠ fl y ∧ ¬ (x / 2 + 2 ≤ y / 2)) : Irr (x :: r) := by
  cases r with
  | nil => trivial
  | cons y r => exact ⟨(h y r rfl).1, (h y r rfl).2, hr⟩
theorem irr_head {x y : Nat} {r : List Nat} (h : Irr (x :: y :: r)) : x ≠ fl y ∧ ¬ (x / 2 + 2 ≤ y / 2) := ⟨h.1, h.2.1⟩
/-- what stands first behind a crossing has come: the crossing, the old first, or what stood behind the old first -/
theorem ins_head (r : List Nat) (c y : Nat) (r' : List Nat) (h : insR r c = y :: r') : y = c ∨ (∃ t, r = y :: t ∧ c / 2 + 2 ≤ y / 2) ∨ (∃ t, r = fl c :: y :: t) := by
  cases r with
  | nil => simp only [insR, List.cons.injEq] at h; exact Or.inl h.1.symm
  | cons z t =>
    simp only [insR] at h
    split at h
    · simp only [List.cons.injEq] at h
      exact Or.inr (Or.inl ⟨t, by rw [h.1], by rw [← h.1]; assumption⟩)
    · split at h
      · rename_i h1 h2
        exact Or.inr (Or.inr ⟨r', by rw [h2, h]⟩)
      · simp only [List.cons.injEq] at h
        exact Or.inl h.1.symm
theorem irr_ins : ∀ (L : List Nat) (c : Nat), Irr L → Irr (insR L c)
  | [], c, _ => trivial
  | x :: r, c, h => by
    simp only [insR]
    split
    · rename_i h1
      refine irr_cons (irr_ins r c h.tail) (fun y r' e => ?_)
      rcases ins_head r c y r' e with rfl | ⟨t, rfl, -⟩ | ⟨t, rfl⟩
      · refine ⟨fun q => ?_, by omega⟩
        have := fl_half y
        rw [← q] at this
        omega
      · exact irr_head h
      · have h2 := irr_head h.tail
        have h3 := fl_half c
        refine ⟨fun q => ?_, by omega⟩
        have := fl_half y
        rw [← q] at this
        omega
    · split
      · exact h.tail
      · rename_i h1 h2
        exact ⟨fun q => h2 (fl_sym.mp q), h1, h⟩
theorem ins_cons {x : Nat} {r : List Nat} (h : Irr (x :: r)) : insR r x = x :: r := by
  cases r with
  | nil => rfl
  | cons y r =>
    have h1 := irr_head h
    simp only [insR]
    rw [if_neg h1.2, if_neg (fun q => h1.1 (fl_sym.mp q))]
theorem ins_undo : ∀ (L : List Nat) (c : Nat), Irr L → insR (insR L c) (fl c) = L
  | [], c, _ => by
    simp only [insR, fl_half, fl_fl]
    rw [if_neg (by omega), if_pos trivial]
  | x :: r, c, h => by
    simp only [insR]
    split
    · rename_i h1
      simp only [insR, fl_half]
      rw [if_pos h1, ins_undo r c h.tail]
    · split
      · rename_i h1 h2
        rw [← h2]
        exact ins_cons h
      · rename_i h1 h2
        simp only [insR, fl_half, fl_fl]
        rw [if_neg (by omega), if_pos trivial]
theorem ins_comm : ∀ (L : List Nat) (c d : Nat), Irr L → d / 2 + 2 ≤ c / 2 → insR (insR L c) d = insR (insR L d) c
  | [], c, d, _, hcd => by
    have h2 := fl_half c
    simp only [insR]
    rw [if_pos hcd, if_neg (by omega), if_neg (fun q => by rw [q] at hcd; omega)]
  | x :: r, c, d, h, hcd => by
    have hc := fl_half c
    have hd := fl_half d
    by_cases h1 : c / 2 + 2 ≤ x / 2
    · simp only [insR]
      rw [if_pos h1, if_pos (by omega : d / 2 + 2 ≤ x / 2)]
      simp only [insR]
      rw [if_pos h1, if_pos (by omega : d / 2 + 2 ≤ x / 2), ins_comm r c d h.tail hcd]
    · by_cases h2 : x = fl c
      · have hx : d / 2 + 2 ≤ x / 2 := by rw [h2]; omega
        have e1 : insR (x :: r) c = r := by simp only [insR]; rw [if_neg h1, if_pos h2]
        have e2 : insR (x :: r) d = x :: insR r d := by simp only [insR]; rw [if_pos hx]
        rw [e1, e2]
        simp only [insR]
        rw [if_neg h1, if_pos h2]
      · have e1 : insR (x :: r) c = c :: x :: r := by simp only [insR]; rw [if_neg h1, if_neg h2]
        have e2 : insR (c :: x :: r) d = c :: insR (x :: r) d := by
          rw [insR]
          rw [if_pos hcd]
        rw [e1, e2]
        symm
        cases hM : insR (x :: r) d with
        | nil => rfl
        | cons z M =>
          have hz : ¬ (c / 2 + 2 ≤ z / 2) ∧ z ≠ fl c := by
            rcases ins_head (x :: r) d z M hM with rfl | ⟨t, ht, -⟩ | ⟨t, ht⟩
            · exact ⟨by omega, fun q => by rw [q] at hcd; omega⟩
            · simp only [List.cons.injEq] at ht
              rw [← ht.1]
              exact ⟨h1, h2⟩
            · simp only [List.cons.injEq] at ht
              rw [ht.2] at h
              have h3 := irr_head h
              rw [ht.1] at h3
              refine ⟨by omega, fun q => ?_⟩
              have := h3.2
              rw [q] at this
              omega
          simp only [insR]
          rw [if_neg hz.1, if_neg hz.2]
def nfR (w : List Nat) : List Nat := w.foldl insR []
theorem irr_fold : ∀ (w L : List Nat), Irr L → Irr (w.foldl insR L)
  | [], _, h => h
  | c :: w, L, h => irr_fold w (insR L c) (irr_ins L c h)
theorem irr_nf (w : List Nat) : Irr (nfR w) := irr_fold w [] trivial
theorem nf_rm (u v : List Nat) (c : Nat) : nfR (u ++ c :: fl c :: v) = nfR (u ++ v) := by
  unfold nfR
  rw [List.foldl_append, List.foldl_append, List.foldl_cons, List.foldl_cons, ins_undo _ _ (irr_fold u [] trivial)]
theorem nf_sw (u v : List Nat) {c d : Nat} (h : d / 2 + 2 ≤ c / 2) : nfR (u ++ c :: d :: v) = nfR (u ++ d :: c :: v) := by
  unfold nfR
  rw [List.foldl_append, List.foldl_append, List.foldl_cons, List.foldl_cons, List.foldl_cons, List.foldl_cons, ins_comm _ c d (irr_fold u [] trivial) h]
theorem nf_fix : ∀ (L : List Nat), Irr L → nfR L.reverse = L
  | [], _ => rfl
  | x :: r, h => by
    have ih := nf_fix r h.tail
    unfold nfR at ih ⊢
    rw [List.reverse_cons, List.foldl_append, ih]
    exact ins_cons h
/-- the loose word -/
def NF (w : List Nat) : List Nat := (nfR w).reverse
/-- no step is left in a word -/
def Still (w : List Nat) : Prop := ∀ k, k + 1 < w.length → ¬ (w.getD (k + 1) 0 = fl (w.getD k 0)) ∧ ¬ (w.getD (k + 1) 0 / 2 + 2 ≤ w.getD k 0 / 2)
theorem irr_of_idx : ∀ (L : List Nat), (∀ k, k + 1 < L.length → ¬ (L.getD k 0 = fl (L.getD (k + 1) 0)) ∧ ¬ (L.getD k 0 / 2 + 2 ≤ L.getD (k + 1) 0 / 2)) → Irr L
  | [], _ => trivial
  | [_], _ => trivial
  | x :: y :: r, h => by
    have h0 := h 0 (by simp)
    refine ⟨by simpa using h0.1, by simpa using h0.2, irr_of_idx (y :: r) (fun k hk => ?_)⟩
    have := h (k + 1) (by simpa using hk)
    simpa using this
theorem getD_rev (w : List Nat) {k : Nat} (h : k < w.length) : w.reverse.getD k 0 = w.getD (w.length - 1 - k) 0 := by
  rw [List.getD_eq_getElem?_getD, List.getD_eq_getElem?_getD, List.getElem?_reverse h]
theorem NF_still {w : List Nat} (h : Still w) : NF w = w := by
  have h1 : Irr w.reverse := by
    apply irr_of_idx
    intro k hk
    rw [List.length_reverse] at hk
    rw [getD_rev w (by omega), getD_rev w (by omega)]
    have := h (w.length - 1 - (k + 1)) (by omega)
    rw [show w.length - 1 - (k + 1) + 1 = w.length - 1 - k by omega] at this
    exact this
  have := nf_fix w.reverse h1
  rw [List.reverse_reverse] at this
  unfold NF
  rw [this, List.reverse_reverse]
/-- each of the document's two steps makes a word less -/
def wt : List Nat → Nat
  | [] => 0
  | c :: r => (c / 2 + 1) * (r.length + 1) + wt r
theorem wt_sw (u v : List Nat) {c d : Nat} (h : d / 2 + 2 ≤ c / 2) : wt (u ++ d :: c :: v) < wt (u ++ c :: d :: v) := by
  induction u with
  | nil =>
    simp only [List.nil_append, wt, List.length_cons]
    have e1 : (d / 2 + 1) * (v.length + 1 + 1) = (d / 2 + 1) * (v.length + 1) + (d / 2 + 1) := Nat.mul_succ _ _
    have e2 : (c / 2 + 1) * (v.length + 1 + 1) = (c / 2 + 1) * (v.length + 1) + (c / 2 + 1) := Nat.mul_succ _ _
    omega
  | cons x u ih =>
    simp only [List.cons_append, wt, List.length_append, List.length_cons] at ih ⊢
    omega
theorem wt_rm (u v : List Nat) (c d : Nat) : wt (u ++ v) < wt (u ++ c :: d :: v) := by
  induction u with
  | nil =>
    simp only [List.nil_append, wt, List.length_cons]
    have : 0 < (c / 2 + 1) * (v.length + 1 + 1) := Nat.mul_pos (by omega) (by omega)
    omega
  | cons x u ih =>
    simp only [List.cons_append, wt, List.length_append, List.length_cons]
    have : (x / 2 + 1) * (u.length + v.length + 1) ≤ (x / 2 + 1) * (u.length + (v.length + 1 + 1) + 1) := Nat.mul_le_mul_left _ (by omega)
    omega
/-- the short word: pairs are taken away as they come -/
def shR : List Nat → Nat → List Nat
  | [], c => [c]
  | x :: r, c => if x = fl c then r else c :: x :: r
def Irs : List Nat → Prop
  | [] => True
  | [_] => True
  | x :: y :: r => x ≠ fl y ∧ Irs (y :: r)
theorem Irs.tail {x : Nat} {r : List Nat} (h : Irs (x :: r)) : Irs r := by
  cases r with
  | nil => trivial
  | cons y r => exact h.2
theorem irs_sh (L : List Nat) (c : Nat) (h : Irs L) : Irs (shR L c) := by
  cases L with
  | nil => trivial
  | cons x r =>
    simp only [shR]
    split
    · exact h.tail
    · rename_i h2
      exact ⟨fun q => h2 (fl_sym.mp q), h⟩
theorem sh_cons {x : Nat} {r : List Nat} (h : Irs (x :: r)) : shR r x = x :: r := by
  cases r with
  | nil => rfl
  | cons y r =>
    simp only [shR]
    rw [if_neg (fun q => h.1 (fl_sym.mp q))]
theorem sh_undo (L : List Nat) (c : Nat) (h : Irs L) : shR (shR L c) (fl c) = L := by
  cases L with
  | nil => simp only [shR, fl_fl]; rw [if_pos trivial]
  | cons x r =>
    by_cases h2 : x = fl c
    · have e : shR (x :: r) c = r := by simp only [shR]; rw [if_pos h2]
      rw [e, ← h2]
      exact sh_cons h
    · have e : shR (x :: r) c = c :: x :: r := by simp only [shR]; rw [if_neg h2]
      rw [e]
      simp only [shR, fl_fl]
      rw [if_pos trivial]
def sfR (w : List Nat) : List Nat := w.foldl shR []
theorem irs_fold : ∀ (w L : List Nat), Irs L → Irs (w.foldl shR L)
  | [], _, h => h
  | c :: w, L, h => irs_fold w (shR L c) (irs_sh L c h)
theorem sf_rm (u v : List Nat) (c : Nat) : sfR (u ++ c :: fl c :: v) = sfR (u ++ v) := by
  unfold sfR
  rw [List.foldl_append, List.foldl_append, List.foldl_cons, List.foldl_cons, sh_undo _ _ (irs_fold u [] trivial)]
theorem sf_fix : ∀ (L : List Nat), Irs L → sfR L.reverse = L
  | [], _ => rfl
  | x :: r, h => by
    have ih := sf_fix r h.tail
    unfold sfR at ih ⊢
    rw [List.reverse_cons, List.foldl_append, ih]
    exact sh_cons h
def SF (w : List Nat) : List Nat := (sfR w).reverse
def StillS (w : List Nat) : Prop := ∀ k, k + 1 < w.length → ¬ (w.getD (k + 1) 0 = fl (w.getD k 0))
theorem irs_of_idx : ∀ (L : List Nat), (∀ k, k + 1 < L.length → ¬ (L.getD k 0 = fl (L.getD (k + 1) 0))) → Irs L
  | [], _ => trivial
  | [_], _ => trivial
  | x :: y :: r, h => by
    have h0 := h 0 (by simp)
    refine ⟨by simpa using h0, irs_of_idx (y :: r) (fun k hk => ?_)⟩
    have := h (k + 1) (by simpa using hk)
    simpa using this
theorem SF_still {w : List Nat} (h : StillS w) : SF w = w := by
  have h1 : Irs w.reverse := by
    apply irs_of_idx
    intro k hk
    rw [List.length_reverse] at hk
    rw [getD_rev w (by omega), getD_rev w (by omega)]
    have := h (w.length - 1 - (k + 1)) (by omega)
    rw [show w.length - 1 - (k + 1) + 1 = w.length - 1 - k by omega] at this
    exact this
  have := sf_fix w.reverse h1
  rw [List.reverse_reverse] at this
  unfold SF
  rw [this, List.reverse_reverse]
