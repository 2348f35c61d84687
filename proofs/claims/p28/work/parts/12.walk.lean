/-! the walk of a word: who is where, who hides, who goes above -/
def sw (h : Nat → Nat) (c : Nat) : Nat → Nat := fun p => if p = c / 2 then h (c / 2 + 1) else if p = c / 2 + 1 then h (c / 2) else h p
def wH (w : List Nat) : Nat → Nat → Nat
  | 0 => fun p => p
  | k + 1 => sw (wH w k) (w.getD k 0)
def wE (w : List Nat) : Nat → Nat → Nat
  | 0 => fun s => s
  | k + 1 => fun s => if wE w k s = w.getD k 0 / 2 then w.getD k 0 / 2 + 1 else if wE w k s = w.getD k 0 / 2 + 1 then w.getD k 0 / 2 else wE w k s
def hidA (w : List Nat) (k : Nat) : Nat := if w.getD k 0 % 2 = 1 then wH w k (w.getD k 0 / 2 + 1) else wH w k (w.getD k 0 / 2)
def abvA (w : List Nat) (k : Nat) : Nat := if w.getD k 0 % 2 = 1 then wH w k (w.getD k 0 / 2) else wH w k (w.getD k 0 / 2 + 1)
def tU (w : List Nat) : Nat → Nat → Nat
  | 0 => fun _ => 0
  | k + 1 => fun s => if s = hidA w k then tU w k s + 1 else tU w k s
def tA (w : List Nat) : Nat → Nat → Nat
  | 0 => fun _ => 0
  | k + 1 => fun s => if s = abvA w k then tA w k s + 1 else tA w k s
theorem Wok.pl {n : Nat} {w : List Nat} (h : Wok n w) {k : Nat} (hk : k < w.length) : w.getD k 0 / 2 + 1 < n := by
  have := h.at hk
  have := h.1
  omega
theorem wH_lt {n : Nat} {w : List Nat} (h : Wok n w) : ∀ (k p : Nat), k ≤ w.length → p < n → wH w k p < n
  | 0, p, _, hp => hp
  | k + 1, p, hk, hp => by
    have hl := h.pl (k := k) (by omega)
    simp only [wH, sw]
    split
    · exact wH_lt h k _ (by omega) (by omega)
    · split
      · exact wH_lt h k _ (by omega) (by omega)
      · exact wH_lt h k _ (by omega) hp
theorem wE_lt {n : Nat} {w : List Nat} (h : Wok n w) : ∀ (k s : Nat), k ≤ w.length → s < n → wE w k s < n
  | 0, s, _, hs => hs
  | k + 1, s, hk, hs => by
    have hl := h.pl (k := k) (by omega)
    have := wE_lt h k s (by omega) hs
    simp only [wE]
    split
    · omega
    · split
      · omega
      · exact this
theorem wHE (w : List Nat) : ∀ (k s : Nat), wH w k (wE w k s) = s
  | 0, s => rfl
  | k + 1, s => by
    have ih := wHE w k s
    by_cases c1 : wE w k s = w.getD k 0 / 2
    · have e : wE w (k + 1) s = w.getD k 0 / 2 + 1 := by simp only [wE]; rw [if_pos c1]
      rw [e]
      simp only [wH, sw]
      rw [if_neg (show ¬ (w.getD k 0 / 2 + 1 = w.getD k 0 / 2) by omega), if_pos trivial, ← c1]
      exact ih
    · by_cases c2 : wE w k s = w.getD k 0 / 2 + 1
      · have e : wE w (k + 1) s = w.getD k 0 / 2 := by simp only [wE]; rw [if_neg c1, if_pos c2]
        rw [e]
        simp only [wH, sw]
        rw [if_pos trivial, ← c2]
        exact ih
      · have e : wE w (k + 1) s = wE w k s := by simp only [wE]; rw [if_neg c1, if_neg c2]
        rw [e]
        simp only [wH, sw]
        rw [if_neg c1, if_neg c2]
        exact ih
theorem wEH (w : List Nat) : ∀ (k p : Nat), wE w k (wH w k p) = p
  | 0, p => rfl
  | k + 1, p => by
    by_cases c1 : p = w.getD k 0 / 2
    · have e : wH w (k + 1) p = wH w k (w.getD k 0 / 2 + 1) := by simp only [wH, sw]; rw [if_pos c1]
      rw [e]
      simp only [wE]
      rw [wEH w k, if_neg (show ¬ (w.getD k 0 / 2 + 1 = w.getD k 0 / 2) by omega), if_pos rfl, c1]
    · by_cases c2 : p = w.getD k 0 / 2 + 1
      · have e : wH w (k + 1) p = wH w k (w.getD k 0 / 2) := by simp only [wH, sw]; rw [if_neg c1, if_pos c2]
        rw [e]
        simp only [wE]
        rw [wEH w k, if_pos rfl, c2]
      · have e : wH w (k + 1) p = wH w k p := by simp only [wH, sw]; rw [if_neg c1, if_neg c2]
        rw [e]
        simp only [wE]
        rw [wEH w k, if_neg c1, if_neg c2]
theorem hid_lt {n : Nat} {w : List Nat} (h : Wok n w) {k : Nat} (hk : k < w.length) : hidA w k < n := by
  have hl := h.pl hk
  unfold hidA
  split
  · exact wH_lt h k _ (by omega) hl
  · exact wH_lt h k _ (by omega) (by omega)
theorem abv_lt {n : Nat} {w : List Nat} (h : Wok n w) {k : Nat} (hk : k < w.length) : abvA w k < n := by
  have hl := h.pl hk
  unfold abvA
  split
  · exact wH_lt h k _ (by omega) (by omega)
  · exact wH_lt h k _ (by omega) hl
theorem tU_le (w : List Nat) : ∀ (k s : Nat), tU w k s ≤ k
  | 0, s => Nat.le_refl _
  | k + 1, s => by
    have := tU_le w k s
    simp only [tU]
    split <;> omega
theorem tA_le (w : List Nat) : ∀ (k s : Nat), tA w k s ≤ k
  | 0, s => Nat.le_refl _
  | k + 1, s => by
    have := tA_le w k s
    simp only [tA]
    split <;> omega
theorem tU_mono (w : List Nat) (s : Nat) : ∀ (k m : Nat), tU w k s ≤ tU w (k + m) s
  | k, 0 => Nat.le_refl _
  | k, m + 1 => by
    have := tU_mono w s k m
    rw [← Nat.add_assoc]
    simp only [tU]
    split <;> omega
theorem tA_mono (w : List Nat) (s : Nat) : ∀ (k m : Nat), tA w k s ≤ tA w (k + m) s
  | k, 0 => Nat.le_refl _
  | k, m + 1 => by
    have := tA_mono w s k m
    rw [← Nat.add_assoc]
    simp only [tA]
    split <;> omega
/-- the walk sees no more than the crossings that it has passed -/
theorem walk_eq {w v : List Nat} : ∀ (k : Nat), (∀ i, i < k → w.getD i 0 = v.getD i 0) → wH w k = wH v k ∧ wE w k = wE v k ∧ tU w k = tU v k ∧ tA w k = tA v k
  | 0, _ => ⟨rfl, rfl, rfl, rfl⟩
  | k + 1, h => by
    obtain ⟨h1, h2, h3, h4⟩ := walk_eq k (fun i hi => h i (by omega))
    have h5 := h k (by omega)
    have h6 : hidA w k = hidA v k := by unfold hidA; rw [h1, h5]
    have h7 : abvA w k = abvA v k := by unfold abvA; rw [h1, h5]
    refine ⟨?_, ?_, ?_, ?_⟩
    · simp only [wH, h1, h5]
    · funext s
      simp only [wE, h2, h5]
    · funext s
      simp only [tU, h3, h6]
    · funext s
      simp only [tA, h4, h7]
def dgh (w : List Nat) (s : Nat) : Nat := tA w w.length s + 2 * tU w w.length s
/-- no strand uses more than its dough -/
def Dok (n : Nat) (w : List Nat) : Prop := ∀ s, s < n → dgh w s ≤ 30
theorem Dok.init {n : Nat} {w : List Nat} (h : Dok n w) (k : Nat) : Dok n (w.take k) := by
  intro s hs
  have h1 := h s hs
  unfold dgh at h1 ⊢
  by_cases c : k ≤ w.length
  · have e : (w.take k).length = k := by rw [List.length_take]; omega
    obtain ⟨-, -, h3, h4⟩ := walk_eq (w := w.take k) (v := w) k (fun i hi => getD_take hi)
    rw [e, h3, h4]
    have h5 := tU_mono w s k (w.length - k)
    have h6 := tA_mono w s k (w.length - k)
    rw [show k + (w.length - k) = w.length by omega] at h5 h6
    omega
  · rw [List.take_of_length_le (by omega)]
    exact h1
def sumN (φ : Nat → Nat) : Nat → Nat
  | 0 => 0
  | k + 1 => sumN φ k + φ k
theorem sumN_upd (φ : Nat → Nat) (t d : Nat) : ∀ n, sumN (fun s => if s = t then φ s + d else φ s) n = sumN φ n + if t < n then d else 0
  | 0 => by simp [sumN]
  | n + 1 => by
    have := sumN_upd φ t d n
    simp only [sumN, this]
    by_cases c : n = t
    · rw [if_pos c, if_neg (by omega), if_pos (by omega)]
      omega
    · rw [if_neg c]
      by_cases c2 : t < n
      · rw [if_pos c2, if_pos (by omega)]
        omega
      · rw [if_neg c2, if_neg (by omega)]
        omega
theorem sumN_congr {φ ψ : Nat → Nat} : ∀ n, (∀ s, s < n → φ s = ψ s) → sumN φ n = sumN ψ n
  | 0, _ => rfl
  | n + 1, h => by
    simp only [sumN]
    rw [sumN_congr n (fun s hs => h s (by omega)), h n (by omega)]
theorem sumN_add (φ ψ : Nat → Nat) : ∀ n, sumN (fun s => φ s + 2 * ψ s) n = sumN φ n + 2 * sumN ψ n
  | 0 => rfl
  | n + 1 => by
    have := sumN_add φ ψ n
    simp only [sumN] at this ⊢
    omega
theorem sum_tU {n : Nat} {w : List Nat} (h : Wok n w) : ∀ k, k ≤ w.length → sumN (tU w k) n = k
  | 0, _ => by
    have : ∀ n, sumN (tU w 0) n = 0 := by
      intro n
      induction n with
      | zero => rfl
      | succ n ih =>
        show sumN (tU w 0) n + 0 = 0
        rw [ih]
    exact this n
  | k + 1, hk => by
    have h1 := sum_tU h k (by omega)
    have h2 := sumN_upd (tU w k) (hidA w k) 1 n
    rw [if_pos (hid_lt h (by omega)), h1] at h2
    exact h2
theorem sum_tA {n : Nat} {w : List Nat} (h : Wok n w) : ∀ k, k ≤ w.length → sumN (tA w k) n = k
  | 0, _ => by
    have : ∀ n, sumN (tA w 0) n = 0 := by
      intro n
      induction n with
      | zero => rfl
      | succ n ih =>
        show sumN (tA w 0) n + 0 = 0
        rw [ih]
    exact this n
  | k + 1, hk => by
    have h1 := sum_tA h k (by omega)
    have h2 := sumN_upd (tA w k) (abvA w k) 1 n
    rw [if_pos (abv_lt h (by omega)), h1] at h2
    exact h2
theorem sum_dgh {n : Nat} {w : List Nat} (h : Wok n w) : sumN (dgh w) n = 3 * w.length := by
  have := sumN_add (tA w w.length) (tU w w.length) n
  rw [sum_tU h _ (Nat.le_refl _), sum_tA h _ (Nat.le_refl _)] at this
  have e : dgh w = fun s => tA w w.length s + 2 * tU w w.length s := rfl
  rw [e, this]
  omega
def mhF (u : Nat → Nat) : Nat → Nat
  | 0 => 0
  | k + 1 => if u (mhF u k) < u k then k else mhF u k
theorem mhF_lt (u : Nat → Nat) : ∀ k, 0 < k → mhF u k < k
  | k + 1, _ => by
    simp only [mhF]
    split
    · omega
    · by_cases c : k = 0
      · subst c
        simp [mhF]
      · have := mhF_lt u k (by omega)
        omega
/-- what a trace keeps -/
def TrP (f : St) (t n : Nat) (w : List Nat) (k : Nat) : Prop := f t 7 = nI n ∧ (∀ i, i < k → f (t + 1 + 1) i = nI (hidA w i)) ∧ (∀ i, i < k → f (t + 3 + 1) i = nI (abvA w i)) ∧ (∀ p, p < n → f (t + 5 + 1) p = nI (wH w k p)) ∧ (∀ s, s < n → f (t + 9 + 1) s = nI (tU w k s)) ∧ (∀ s, s < n → f (t + 11 + 1) s = nI (tA w k s))
def TraceIs (f : St) (t n : Nat) (w : List Nat) : Prop := TrP f t n w w.length ∧ ∀ s, s < n → f (t + 7 + 1) s = nI (wE w w.length s)
theorem TrP.fr {f g : St} {t n k : Nat} {w : List Nat} (h : TrP f t n w k) (h0 : g t = f t) (h1 : g (t + 1 + 1) = f (t + 1 + 1)) (h2 : g (t + 3 + 1) = f (t + 3 + 1)) (h3 : g (t + 5 + 1) = f (t + 5 + 1)) (h4 : g (t + 9 + 1) = f (t + 9 + 1)) (h5 : g (t + 11 + 1) = f (t + 11 + 1)) : TrP g t n w k := by
  unfold TrP at h ⊢
  rw [h0, h1, h2, h3, h4, h5]
  exact h
theorem TraceIs.out {f g : St} {t n lo hi : Nat} {w : List Nat} (h : TraceIs f t n w) (hf : Fr f g lo hi) (ho : t + 15 ≤ lo ∨ hi ≤ t) : TraceIs g t n w := by
  refine ⟨h.1.fr (hf _ (by omega)) (hf _ (by omega)) (hf _ (by omega)) (hf _ (by omega)) (hf _ (by omega)) (hf _ (by omega)), fun s hs => ?_⟩
  rw [hf _ (by omega)]
  exact h.2 s hs
