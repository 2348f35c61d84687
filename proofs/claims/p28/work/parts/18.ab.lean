/-! the states of the document, and what each call does to them -/
noncomputable def cif {α : Type} (p : Prop) (x y : α) : α := @ite α p (Classical.propDecidable p) x y
theorem cif_pos {α : Type} {p : Prop} {x y : α} (h : p) : cif p x y = x := @if_pos p (Classical.propDecidable p) h α x y
theorem cif_neg {α : Type} {p : Prop} {x y : α} (h : ¬ p) : cif p x y = y := @if_neg p (Classical.propDecidable p) h α x y
theorem nI_cl {p : Int32} (h : ¬ p < 0) : p = nI p.toNatClampNeg := by
  obtain ⟨j, hj, rfl⟩ := nI_of h
  rw [nI_clamp hj]
/-- board, saved states, snapshot, buffer -/
abbrev Ab := Bd × List Bd × Option Bd × List Nat
def SnIs (f : St) (x : Nat) (sn : Option Bd) : Prop := (sn = none ∧ f x 4 = 0) ∨ ∃ s, sn = some s ∧ f x 4 = 1 ∧ BoardIs f (x + 1254) s ∧ Bok s
def CompIs (f : St) (x : Nat) (A : Ab) : Prop := TextIs f (x + 1) A.2.2.2 ∧ BoardIs f (x + 4) A.1 ∧ HistIs f (x + 160) A.2.1 ∧ SnIs f x A.2.2.1 ∧ Tok A.2.2.2 ∧ Bok A.1 ∧ Hok A.2.1
theorem SnIs.out {f g : St} {x lo hi : Nat} {sn : Option Bd} (h : SnIs f x sn) (hf : Fr f g lo hi) (h0 : x < lo ∨ hi ≤ x) (ho : x + 1410 ≤ lo ∨ hi ≤ x + 1254) : SnIs g x sn := by
  unfold SnIs at h ⊢
  rw [hf x h0]
  rcases h with h | ⟨s, h1, h2, h3, h4⟩
  · exact Or.inl h
  · exact Or.inr ⟨s, h1, h2, h3.out h4.1 hf (by omega), h4⟩
/-- the rows for what is worked out in a call -/
theorem CompIs.out {f g : St} {x lo hi : Nat} {A : Ab} (h : CompIs f x A) (hf : Fr f g lo hi) (ho : x + 1410 ≤ lo) : CompIs g x A := by
  obtain ⟨h1, h2, h3, h4, h5, h6, h7⟩ := h
  exact ⟨h1.out hf (by omega), h2.out h6.1 hf (by omega), h3.out h7 hf (by omega), h4.out hf (by omega) (by omega), h5, h6, h7⟩
def hasB (bd : Bd) (p : Int32) : Prop := ¬ p < 0 ∧ p.toNatClampNeg < bd.1.length
def lfP (bd : Bd) (p : Int32) : Lf := lfAt bd.1 p.toNatClampNeg
def plB (y : Lf) (p : Int32) : Prop := ¬ p < 0 ∧ p.toNatClampNeg + 2 ≤ y.1
theorem Bok.has {bd : Bd} {p : Int32} (h : Bok bd) (hp : hasB bd p) : Lok (lfP bd p) := h.at hp.2
/-- a loaf as it would be, with the first reason against it -/
noncomputable def rsS (y : Lf) : Nat × Lf := (cif (Dok y.1 y.2) 0 2, y)
noncomputable def rsCross (bd : Bd) (p q : Int32) (r : Nat) : Nat × Lf := cif (hasB bd p) (cif (plB (lfP bd p) q) (cif ((lfP bd p).2.length < 24) (rsS ((lfP bd p).1, (lfP bd p).2 ++ [2 * q.toNatClampNeg + r])) (1, lfP bd p)) (4, lfP bd p)) (3, lfP bd p)
noncomputable def rsBack (bd : Bd) (p : Int32) : Nat × Lf := cif (hasB bd p) (cif ((lfP bd p).2.length = 0) (6, lfP bd p) (0, ((lfP bd p).1, (lfP bd p).2.take ((lfP bd p).2.length - 1)))) (3, lfP bd p)
noncomputable def rsChange (bd : Bd) (p : Int32) (how : Nat) : Nat × Lf := cif (hasB bd p) (rsS ((lfP bd p).1, chg (lfP bd p).1 (lfP bd p).2 how)) (3, lfP bd p)
noncomputable def rsJoin (bd : Bd) (p q : Int32) : Nat × Lf := cif (hasB bd p ∧ hasB bd q) (cif ((lfP bd p).1 = (lfP bd q).1) (cif ((lfP bd p).2.length + (lfP bd q).2.length ≤ 24) (rsS ((lfP bd p).1, (lfP bd p).2 ++ (lfP bd q).2)) (1, lfP bd p)) (5, lfP bd p)) (3, lfP bd p)
theorem rsS_0 {y : Lf} (h : (rsS y).1 = 0) : Dok y.1 y.2 := by
  by_cases c : Dok y.1 y.2
  · exact c
  · unfold rsS at h
    rw [cif_neg c] at h
    exact absurd h (Nat.succ_ne_zero _)
theorem rsS_v (y : Lf) : (rsS y).1 = 0 ∨ (rsS y).1 = 2 := by
  by_cases c : Dok y.1 y.2
  · exact Or.inl (cif_pos c)
  · exact Or.inr (cif_neg c)
theorem wok_snoc {y : Lf} (h : Wok y.1 y.2) (hl : y.2.length < 24) {c : Nat} (hc : c < 2 * (y.1 - 1)) : Wok y.1 (y.2 ++ [c]) := ⟨h.1, h.2.1, by rw [List.length_append]; simp only [List.length_cons, List.length_nil]; omega, fun d hd => by
  rcases List.mem_append.mp hd with q | q
  · exact h.2.2.2 d q
  · rw [List.mem_singleton.mp q]
    exact hc⟩
theorem wok_app {n : Nat} {w v : List Nat} (h : Wok n w) (k : Wok n v) (hl : w.length + v.length ≤ 24) : Wok n (w ++ v) := ⟨h.1, h.2.1, by rw [List.length_append]; exact hl, fun d hd => by
  rcases List.mem_append.mp hd with q | q
  · exact h.2.2.2 d q
  · exact k.2.2.2 d q⟩
theorem rsCross_ok {bd : Bd} {p q : Int32} {r : Nat} (h : Bok bd) (hr : r < 2) (h0 : (rsCross bd p q r).1 = 0) : hasB bd p ∧ plB (lfP bd p) q ∧ (lfP bd p).2.length < 24 ∧ (rsCross bd p q r).2 = ((lfP bd p).1, (lfP bd p).2 ++ [2 * q.toNatClampNeg + r]) ∧ Lok (rsCross bd p q r).2 := by
  unfold rsCross at h0 ⊢
  by_cases c1 : hasB bd p
  · rw [cif_pos c1] at h0 ⊢
    by_cases c2 : plB (lfP bd p) q
    · rw [cif_pos c2] at h0 ⊢
      by_cases c3 : (lfP bd p).2.length < 24
      · rw [cif_pos c3] at h0 ⊢
        have := c2.2
        exact ⟨c1, c2, c3, rfl, wok_snoc (h.has c1).1 c3 (by omega), rsS_0 h0⟩
      · rw [cif_neg c3] at h0
        exact absurd h0 (Nat.succ_ne_zero _)
    · rw [cif_neg c2] at h0
      exact absurd h0 (Nat.succ_ne_zero _)
  · rw [cif_neg c1] at h0
    exact absurd h0 (Nat.succ_ne_zero _)
theorem rsBack_ok {bd : Bd} {p : Int32} (h : Bok bd) (h0 : (rsBack bd p).1 = 0) : hasB bd p ∧ (lfP bd p).2.length ≠ 0 ∧ (rsBack bd p).2 = ((lfP bd p).1, (lfP bd p).2.take ((lfP bd p).2.length - 1)) ∧ Lok (rsBack bd p).2 := by
  unfold rsBack at h0 ⊢
  by_cases c1 : hasB bd p
  · rw [cif_pos c1] at h0 ⊢
    by_cases c2 : (lfP bd p).2.length = 0
    · rw [cif_pos c2] at h0
      exact absurd h0 (Nat.succ_ne_zero _)
    · rw [cif_neg c2]
      exact ⟨c1, c2, rfl, (h.has c1).1.take _, (h.has c1).2.init _⟩
  · rw [cif_neg c1] at h0
    exact absurd h0 (Nat.succ_ne_zero _)
theorem rsChange_ok {bd : Bd} {p : Int32} {how : Nat} (h : Bok bd) (h0 : (rsChange bd p how).1 = 0) : hasB bd p ∧ (rsChange bd p how).2 = ((lfP bd p).1, chg (lfP bd p).1 (lfP bd p).2 how) ∧ Lok (rsChange bd p how).2 := by
  unfold rsChange at h0 ⊢
  by_cases c1 : hasB bd p
  · rw [cif_pos c1] at h0 ⊢
    exact ⟨c1, rfl, wok_chg (h.has c1).1 how, rsS_0 h0⟩
  · rw [cif_neg c1] at h0
    exact absurd h0 (Nat.succ_ne_zero _)
theorem rsJoin_ok {bd : Bd} {p q : Int32} (h : Bok bd) (h0 : (rsJoin bd p q).1 = 0) : hasB bd p ∧ hasB bd q ∧ (rsJoin bd p q).2 = ((lfP bd p).1, (lfP bd p).2 ++ (lfP bd q).2) ∧ Lok (rsJoin bd p q).2 := by
  unfold rsJoin at h0 ⊢
  by_cases c1 : hasB bd p ∧ hasB bd q
  · rw [cif_pos c1] at h0 ⊢
    by_cases c2 : (lfP bd p).1 = (lfP bd q).1
    · rw [cif_pos c2] at h0 ⊢
      by_cases c3 : (lfP bd p).2.length + (lfP bd q).2.length ≤ 24
      · rw [cif_pos c3] at h0 ⊢
        have k := (h.has c1.2).1
        rw [← c2] at k
        exact ⟨c1.1, c1.2, rfl, wok_app (h.has c1.1).1 k c3, rsS_0 h0⟩
      · rw [cif_neg c3] at h0
        exact absurd h0 (Nat.succ_ne_zero _)
    · rw [cif_neg c2] at h0
      exact absurd h0 (Nat.succ_ne_zero _)
  · rw [cif_neg c1] at h0
    exact absurd h0 (Nat.succ_ne_zero _)
/-- a loaf is put in the place of another one -/
def putL (bd : Bd) (p : Int32) (y : Lf) : Bd := (bd.1.set p.toNatClampNeg y, bd.2)
def sv (A : Ab) (bd : Bd) : Ab := (bd, svH A.2.1 A.1, A.2.2)
def adC (bd : Bd) : Bd := (bd.1, bd.2.1 + 1, bd.2.2)
theorem Bok.put {bd : Bd} {p : Int32} {y : Lf} (h : Bok bd) (hy : Lok y) : Bok (putL bd p y) := by
  refine ⟨?_, fun x hx => ?_⟩
  · show (bd.1.set _ _).length ≤ 6
    rw [List.length_set]
    exact h.1
  · rcases List.mem_or_eq_of_mem_set hx with q | q
    · exact h.2 x q
    · rw [q]
      exact hy
/-- what a call answers: the number of its exception (0: none), its number, the state behind it -/
abbrev Re := Nat × Int32 × Ab
noncomputable def opLay (A : Ab) : Re := cif (LoafT A.2.2.2) (cif (A.1.1.length < 6) (cif (Dok (A.2.2.2.getD 0 0 - 48) (wdT A.2.2.2)) (0, nI A.1.1.length, ((A.1.1 ++ [(A.2.2.2.getD 0 0 - 48, wdT A.2.2.2)], A.1.2), svH A.2.1 A.1, A.2.2.1, [])) (2, 0, A)) (2, 0, A)) (1, 0, A)
noncomputable def opBake (A : Ab) (p : Int32) : Re := cif (hasB A.1 p) (0, nI (lfP A.1 p).2.length, sv A (A.1.1.eraseIdx p.toNatClampNeg, A.1.2)) (1, 0, A)
noncomputable def opCross (A : Ab) (p q : Int32) (r : Nat) : Re := if (rsCross A.1 p q r).1 = 0 then (0, nI (hidA (rsCross A.1 p q r).2.2 ((rsCross A.1 p q r).2.2.length - 1)), sv A (putL A.1 p (rsCross A.1 p q r).2)) else if (rsCross A.1 p q r).1 < 3 then (2, 0, A) else (1, 0, A)
noncomputable def opBack (A : Ab) (p : Int32) : Re := if (rsBack A.1 p).1 = 0 then (0, nI (rsBack A.1 p).2.2.length, sv A (putL A.1 p (rsBack A.1 p).2)) else if (rsBack A.1 p).1 = 3 then (1, 0, A) else (2, 0, A)
def in03 (q : Int32) : Prop := ¬ q < 0 ∧ q.toNatClampNeg < 4
noncomputable def opChange (A : Ab) (p q : Int32) : Re := cif (hasB A.1 p) (cif (in03 q) (if (rsChange A.1 p q.toNatClampNeg).1 = 0 then (0, nI (rsChange A.1 p q.toNatClampNeg).2.2.length, sv A (adC (putL A.1 p (rsChange A.1 p q.toNatClampNeg).2))) else (3, 0, A)) (2, 0, A)) (1, 0, A)
noncomputable def opJoin (A : Ab) (p q : Int32) : Re := if (rsJoin A.1 p q).1 = 0 then (0, nI (rsJoin A.1 p q).2.2.length, sv A (putL A.1 p (rsJoin A.1 p q).2)) else if (rsJoin A.1 p q).1 = 3 then (1, 0, A) else (2, 0, A)
