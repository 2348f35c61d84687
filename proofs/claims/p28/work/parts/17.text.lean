/-! the buffer, and how it is read -/
def Tok (b : List Nat) : Prop := b.length ≤ 60 ∧ ∀ c, c ∈ b → 33 ≤ c ∧ c ≤ 126
def TextIs (f : St) (t : Nat) (b : List Nat) : Prop := f t 1 = nI b.length ∧ ∀ i, i < b.length → f (t + 1 + 1) i = nI (b.getD i 0)
theorem TextIs.out {f g : St} {t lo hi : Nat} {b : List Nat} (h : TextIs f t b) (hf : Fr f g lo hi) (ho : t + 3 ≤ lo ∨ hi ≤ t) : TextIs g t b := by
  unfold TextIs at h ⊢
  rw [hf t (by omega), hf (t + 1 + 1) (by omega)]
  exact h
theorem Tok.at {b : List Nat} (h : Tok b) {i : Nat} (hi : i < b.length) : 33 ≤ b.getD i 0 ∧ b.getD i 0 ≤ 126 := h.2 _ (getD_mem hi)
def okL (b : List Nat) (i : Nat) : Prop := if i = 0 then 50 ≤ b.getD 0 0 ∧ b.getD 0 0 ≤ 55 else if i = 1 then b.getD 1 0 = 58 else if 50 ≤ i then False else if i % 2 = 0 then 97 ≤ b.getD i 0 ∧ b.getD i 0 + 50 ≤ 97 + b.getD 0 0 else (b.getD i 0 = 43 ∨ b.getD i 0 = 45)
def FeL (b : List Nat) (e : Nat) : Prop := e ≤ b.length ∧ (∀ j, j < e → okL b j) ∧ (e = b.length ∨ ¬ okL b e)
theorem FeL.uniq {b : List Nat} {e d : Nat} (h : FeL b e) (k : FeL b d) : e = d := by
  obtain ⟨h1, h2, h3⟩ := h
  obtain ⟨k1, k2, k3⟩ := k
  rcases Nat.lt_trichotomy e d with q | q | q
  · rcases h3 with h3 | h3
    · omega
    · exact absurd (k2 e q) h3
  · exact q
  · rcases k3 with k3 | k3
    · omega
    · exact absurd (h2 d q) k3
def LoafT (b : List Nat) : Prop := 2 ≤ b.length ∧ b.length % 2 = 0 ∧ ∀ j, j < b.length → okL b j
def wdT (b : List Nat) : List Nat := (List.range ((b.length - 2) / 2)).map (fun j => 2 * (b.getD (2 + 2 * j) 0 - 97) + (if b.getD (3 + 2 * j) 0 = 43 then 1 else 0))
theorem wdT_len (b : List Nat) : (wdT b).length = (b.length - 2) / 2 := by
  unfold wdT
  rw [List.length_map, List.length_range]
theorem wdT_at (b : List Nat) {j : Nat} (h : j < (b.length - 2) / 2) : (wdT b).getD j 0 = 2 * (b.getD (2 + 2 * j) 0 - 97) + (if b.getD (3 + 2 * j) 0 = 43 then 1 else 0) := by
  unfold wdT
  rw [List.getD_eq_getElem?_getD, List.getElem?_map, List.getElem?_range h]
  rfl
theorem okL_0 {b : List Nat} (h : okL b 0) : 50 ≤ b.getD 0 0 ∧ b.getD 0 0 ≤ 55 := by
  unfold okL at h
  rw [if_pos rfl] at h
  exact h
theorem okL_ev {b : List Nat} {i : Nat} (h2 : 2 ≤ i) (he : i % 2 = 0) (h : okL b i) : i < 50 ∧ 97 ≤ b.getD i 0 ∧ b.getD i 0 + 50 ≤ 97 + b.getD 0 0 := by
  unfold okL at h
  rw [if_neg (show ¬ i = 0 by omega), if_neg (show ¬ i = 1 by omega)] at h
  by_cases c : 50 ≤ i
  · rw [if_pos c] at h
    exact absurd h id
  · rw [if_neg c, if_pos he] at h
    exact ⟨by omega, h⟩
theorem LoafT.wok {b : List Nat} (h : LoafT b) : Wok (b.getD 0 0 - 48) (wdT b) ∧ b.length ≤ 50 := by
  obtain ⟨h1, h2, h3⟩ := h
  have h0 := okL_0 (h3 0 (by omega))
  have hl : b.length ≤ 50 := by
    refine Nat.not_lt.mp fun q => ?_
    have := (okL_ev (by decide) (by decide) (h3 50 q)).1
    omega
  refine ⟨⟨by omega, by omega, by rw [wdT_len]; omega, fun c hc => ?_⟩, hl⟩
  unfold wdT at hc
  obtain ⟨j, hj, e⟩ := List.mem_map.mp hc
  rw [List.mem_range] at hj
  have h4 := okL_ev (by omega) (by omega) (h3 (2 + 2 * j) (by omega))
  rw [← e]
  split <;> omega
/-- the state behind a sign of works; 8: it may not come -/
def stF (s c : Nat) : Nat :=
  if s = 0 then (if c = 106 then 5 else if c = 108 ∨ c = 109 ∨ c = 114 ∨ c = 116 ∨ c = 122 then 1 else if c = 120 then 2 else 8)
  else if s = 1 then (if 48 ≤ c ∧ c ≤ 53 then 7 else 8)
  else if s = 2 then (if 48 ≤ c ∧ c ≤ 53 then 3 else 8)
  else if s = 3 then (if 97 ≤ c ∧ c ≤ 102 then 4 else 8)
  else if s = 4 then (if c = 43 ∨ c = 45 then 7 else 8)
  else if s = 5 then (if 48 ≤ c ∧ c ≤ 53 then 6 else 8)
  else if s = 6 then (if c = 47 then 1 else 8)
  else if s = 7 then (if c = 59 then 0 else 8)
  else 8
theorem stF_le (s c : Nat) : stF s c ≤ 8 := by
  unfold stF
  repeat (first | omega | split)
def stB (b : List Nat) : Nat → Nat
  | 0 => 0
  | k + 1 => stF (stB b k) (b.getD k 0)
theorem stB_le (b : List Nat) : ∀ k, stB b k ≤ 8
  | 0 => by simp [stB]
  | k + 1 => stF_le _ _
def FeW (b : List Nat) (e : Nat) : Prop := e ≤ b.length ∧ (∀ j, j ≤ e → stB b j ≠ 8) ∧ (e = b.length ∨ stB b (e + 1) = 8)
theorem FeW.uniq {b : List Nat} {e d : Nat} (h : FeW b e) (k : FeW b d) : e = d := by
  obtain ⟨h1, h2, h3⟩ := h
  obtain ⟨k1, k2, k3⟩ := k
  rcases Nat.lt_trichotomy e d with q | q | q
  · rcases h3 with h3 | h3
    · omega
    · exact absurd h3 (k2 (e + 1) (by omega))
  · exact q
  · rcases k3 with k3 | k3
    · omega
    · exact absurd k3 (h2 (d + 1) (by omega))
def si (s : Nat) : Int32 := if s = 8 then -1 else nI s
theorem si_n {s : Nat} (h : s < 8) : si s = nI s := by
  unfold si
  rw [if_neg (by omega)]
theorem si_8 : ∀ s, s ≤ 8 → (si s = -1 ↔ s = 8) := by decide +kernel
theorem si_7 : ∀ s, s ≤ 8 → (si s = 7 ↔ s = 7) := by decide +kernel
def psz (c : Nat) : Nat := if c = 120 ∨ c = 106 then 4 else 2
def hwI (c : Nat) : Int32 := if c = 108 then 3 else if c = 109 then 0 else if c = 114 then 2 else if c = 116 then 1 else -1
theorem nI_lit {a b : Nat} (ha : a < 2 ^ 31) (hb : b < 2 ^ 31) (q : ¬ nI a = nI b) : a ≠ b := fun e => q (by rw [e])
