/-! loaves, boards and saved states in the heap; rows of numbers as a hash -/
def fm6 (x : Int32) : Int32 := if 0 ≤ x ^^^ 6 then x - x / 6 * 6 else if x - x / 6 * 6 = 0 then x - x / 6 * 6 else x - x / 6 * 6 + 6
theorem fm6_n : ∀ k, k < 16 → fm6 (nI k) = nI (k % 6) := by decide +kernel
abbrev Lf := Nat × List Nat
abbrev Bd := List Lf × Int32 × Int32 × Int32
def Lok (x : Lf) : Prop := Wok x.1 x.2 ∧ Dok x.1 x.2
def lfAt (ls : List Lf) (i : Nat) : Lf := ls.getD i (2, [])
def LoafIs (f : St) (b : Nat) (x : Lf) : Prop := WordIs f (b + 1) x.1 x.2 ∧ WordIs f (b + 4) x.1 (NF x.2) ∧ TraceIs f (b + 7) x.1 x.2
def BoardIs (f : St) (b : Nat) (bd : Bd) : Prop := f b 2 = nI bd.1.length ∧ f b 3 = bd.2.1 ∧ f b 4 = bd.2.2.1 ∧ f b 5 = bd.2.2.2 ∧ ∀ i, i < bd.1.length → LoafIs f (b + 24 + 22 * i) (lfAt bd.1 i)
def Bok (bd : Bd) : Prop := bd.1.length ≤ 6 ∧ ∀ x, x ∈ bd.1 → Lok x
def bdAt (hs : List Bd) (i : Nat) : Bd := hs.getD i ([], 0, 0, 0)
def HistIs (f : St) (h : Nat) (hs : List Bd) : Prop := ∃ o, o < 6 ∧ f h 2 = nI o ∧ f h 3 = nI hs.length ∧ ∀ i, i < hs.length → BoardIs f (h + 158 + 156 * ((o + i) % 6)) (bdAt hs i)
def Hok (hs : List Bd) : Prop := hs.length ≤ 6 ∧ ∀ b, b ∈ hs → Bok b
theorem lf_mem {ls : List Lf} {i : Nat} (h : i < ls.length) : lfAt ls i ∈ ls := by
  unfold lfAt
  rw [List.getD_eq_getElem?_getD, List.getElem?_eq_getElem h]
  exact List.getElem_mem h
theorem bd_mem {hs : List Bd} {i : Nat} (h : i < hs.length) : bdAt hs i ∈ hs := by
  unfold bdAt
  rw [List.getD_eq_getElem?_getD, List.getElem?_eq_getElem h]
  exact List.getElem_mem h
theorem Bok.at {bd : Bd} (h : Bok bd) {i : Nat} (hi : i < bd.1.length) : Lok (lfAt bd.1 i) := h.2 _ (lf_mem hi)
theorem LoafIs.out {f g : St} {b lo hi : Nat} {x : Lf} (h : LoafIs f b x) (hf : Fr f g lo hi) (ho : b + 22 ≤ lo ∨ hi ≤ b) : LoafIs g b x := ⟨h.1.out hf (by omega), h.2.1.out hf (by omega), h.2.2.out hf (by omega)⟩
theorem BoardIs.out {f g : St} {b lo hi : Nat} {x : Bd} (h : BoardIs f b x) (h6 : x.1.length ≤ 6) (hf : Fr f g lo hi) (ho : b + 156 ≤ lo ∨ hi ≤ b) : BoardIs g b x := by
  obtain ⟨h1, h2, h3, h4, h5⟩ := h
  have e := hf b (by omega)
  refine ⟨by rw [e]; exact h1, by rw [e]; exact h2, by rw [e]; exact h3, by rw [e]; exact h4, fun i hi2 => (h5 i hi2).out hf (by omega)⟩
theorem HistIs.out {f g : St} {b lo hi : Nat} {x : List Bd} (h : HistIs f b x) (hk : Hok x) (hf : Fr f g lo hi) (ho : b + 1094 ≤ lo ∨ hi ≤ b) : HistIs g b x := by
  obtain ⟨o, h0, h1, h2, h3⟩ := h
  have e := hf b (by omega)
  refine ⟨o, h0, by rw [e]; exact h1, by rw [e]; exact h2, fun i hi2 => (h3 i hi2).out (hk.2 _ (bd_mem hi2)).1 hf ?_⟩
  have := Nat.mod_lt (o + i) (show 0 < 6 by decide)
  omega
/-- a hash over the first numbers of a row; over the first rows of a table -/
def hN (φ : Nat → Int32) : Nat → Int64 → Int64
  | 0, h => h
  | k + 1, h => 31 * hN φ k h + (φ k).toInt64
def hNN (m : Nat) (φ : Nat → Nat → Int32) : Nat → Int64 → Int64
  | 0, h => h
  | k + 1, h => hN (φ k) m (hNN m φ k h)
/-- what is told of a crossing -/
def crN (w : List Nat) (i what : Nat) : Nat := if what = 0 then w.getD i 0 / 2 else if what = 1 then w.getD i 0 % 2 else if what = 2 then hidA w i else abvA w i
theorem atB_n {b i : Nat} (h : i < 6) : atB b (nI i) = b + 24 + 22 * i := by
  unfold atB
  rw [if_neg, nI_clamp (by omega)]
  rintro (q | q)
  · exact nI_nn (by omega) q
  · have q2 : nI 6 ≤ nI i := q
    rw [nI_leI (by omega) (by omega)] at q2
    omega
theorem atH_n {b i : Nat} (h : i < 6) : atH b (nI i) = b + 158 + 156 * i := by
  unfold atH
  rw [if_neg, nI_clamp (by omega)]
  rintro (q | q)
  · exact nI_nn (by omega) q
  · have q2 : nI 6 ≤ nI i := q
    rw [nI_leI (by omega) (by omega)] at q2
    omega
theorem lf_app1 (ls : List Lf) (x : Lf) {i : Nat} (h : i < ls.length) : lfAt (ls ++ [x]) i = lfAt ls i := by
  unfold lfAt
  rw [List.getD_eq_getElem?_getD, List.getD_eq_getElem?_getD, List.getElem?_append_left h]
theorem lf_app2 (ls : List Lf) (x : Lf) : lfAt (ls ++ [x]) ls.length = x := by
  unfold lfAt
  rw [List.getD_eq_getElem?_getD, List.getElem?_append_right (Nat.le_refl _)]
  simp
theorem bd_app1 (ls : List Bd) (x : Bd) {i : Nat} (h : i < ls.length) : bdAt (ls ++ [x]) i = bdAt ls i := by
  unfold bdAt
  rw [List.getD_eq_getElem?_getD, List.getD_eq_getElem?_getD, List.getElem?_append_left h]
theorem bd_app2 (ls : List Bd) (x : Bd) : bdAt (ls ++ [x]) ls.length = x := by
  unfold bdAt
  rw [List.getD_eq_getElem?_getD, List.getElem?_append_right (Nat.le_refl _)]
  simp
theorem bd_tail (ls : List Bd) (i : Nat) : bdAt ls.tail i = bdAt ls (i + 1) := by
  cases ls with
  | nil => rfl
  | cons x r =>
    unfold bdAt
    rw [List.tail_cons, List.getD_cons_succ]
theorem lf_erase (ls : List Lf) (i j : Nat) : lfAt (ls.eraseIdx i) j = if j < i then lfAt ls j else lfAt ls (j + 1) := by
  unfold lfAt
  rw [List.getD_eq_getElem?_getD, List.getElem?_eraseIdx]
  split
  · rw [List.getD_eq_getElem?_getD]
  · rw [List.getD_eq_getElem?_getD]
theorem lf_set (ls : List Lf) (i j : Nat) (x : Lf) (h : i < ls.length) : lfAt (ls.set i x) j = if j = i then x else lfAt ls j := by
  unfold lfAt
  rw [List.getD_eq_getElem?_getD, List.getElem?_set]
  by_cases c : j = i
  · rw [if_pos c, if_pos c.symm, if_pos (by omega)]
    rfl
  · rw [if_neg c, if_neg (fun q => c q.symm), List.getD_eq_getElem?_getD]
/-- a state is saved; at most 6 are -/
def svH (hs : List Bd) (b : Bd) : List Bd := if hs.length < 6 then hs ++ [b] else hs.tail ++ [b]
theorem svH_len (hs : List Bd) (b : Bd) (h : hs.length ≤ 6) : (svH hs b).length = if hs.length < 6 then hs.length + 1 else 6 := by
  unfold svH
  split
  · simp
  · rw [List.length_append, List.length_tail]
    simp only [List.length_cons, List.length_nil]
    omega
theorem Hok.sv {hs : List Bd} {b : Bd} (h : Hok hs) (hb : Bok b) : Hok (svH hs b) := by
  refine ⟨?_, fun x hx => ?_⟩
  · rw [svH_len _ _ h.1]
    split <;> omega
  · unfold svH at hx
    split at hx
    · rcases List.mem_append.mp hx with q | q
      · exact h.2 x q
      · rw [List.mem_singleton.mp q]
        exact hb
    · rcases List.mem_append.mp hx with q | q
      · exact h.2 x (List.mem_of_mem_tail q)
      · rw [List.mem_singleton.mp q]
        exact hb
