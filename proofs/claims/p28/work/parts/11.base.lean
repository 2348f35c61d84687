/-! frames, ints, rows and words in the heap -/
def Fr (f g : St) (lo hi : Nat) : Prop := ∀ q, q < lo ∨ hi ≤ q → g q = f q
theorem Fr.refl (f : St) (lo hi : Nat) : Fr f f lo hi := fun _ _ => rfl
theorem Fr.trans {f g h : St} {lo hi : Nat} (h1 : Fr f g lo hi) (h2 : Fr g h lo hi) : Fr f h lo hi := fun q hq => (h2 q hq).trans (h1 q hq)
theorem Fr.mono {f g : St} {lo hi lo' hi' : Nat} (h : Fr f g lo hi) (h1 : lo' ≤ lo) (h2 : hi ≤ hi') : Fr f g lo' hi' := fun q hq => h q (by omega)
theorem fr_setf (f : St) {a j lo hi : Nat} {v : Int32} (h1 : lo ≤ a) (h2 : a < hi) : Fr f (setf f a j v) lo hi := fun q hq => by
  funext i
  exact setf_off (Or.inl (by omega))
theorem fr_seta (f : St) {a lo hi : Nat} {r : Nat → Int32} (h1 : lo ≤ a) (h2 : a < hi) : Fr f (seta f a r) lo hi := fun q hq => by
  funext i
  have : q ≠ a := by omega
  simp [seta, this]
theorem setf_row {f : St} {a j q : Nat} {v : Int32} (h : q ≠ a) : setf f a j v q = f q := by
  funext i
  exact setf_off (Or.inl h)
theorem nI_nn {i : Nat} (h : i < 2 ^ 31) : ¬ nI i < 0 := by
  rw [show (0 : Int32) = nI 0 from rfl, nI_ltI h (by decide)]
  omega
theorem vp_nI {i N : Nat} (h : i < N) (h2 : N < 2 ^ 31) : vp_in (nI i) N := by
  rintro (q | q)
  · exact nI_nn (by omega) q
  · rw [nI_clamp (by omega)] at q
    omega
theorem nI_m1 (k : Nat) : nI (k + 1) - 1 = nI k := by
  have := pk_sub (a := k + 1) (b := 1) (by omega)
  exact this
theorem c_fl : ∀ c, c < 16 → nI c ^^^ 1 = nI (fl c) := by decide +kernel
theorem c_pl : ∀ c, c < 16 → nI c >>> (1 &&& 31) = nI (c / 2) := by decide +kernel
theorem c_ri : ∀ c, c < 16 → (nI c &&& 1 = 1 ↔ c % 2 = 1) := by decide +kernel
theorem fl_lt {n c : Nat} (h : c < 2 * n) : fl c < 2 * n := by unfold fl; split <;> omega
/-- lists by their places -/
theorem getD_ext : ∀ (a b : List Nat), a.length = b.length → (∀ i, i < a.length → a.getD i 0 = b.getD i 0) → a = b
  | [], [], _, _ => rfl
  | x :: a, y :: b, hl, h => by
    have h0 := h 0 (by simp)
    have h1 := getD_ext a b (by simpa using hl) (fun i hi => by
      have := h (i + 1) (by simpa using hi)
      simpa using this)
    rw [h1, show x = y by simpa using h0]
theorem getD_mem {w : List Nat} {i : Nat} (h : i < w.length) : w.getD i 0 ∈ w := by
  rw [List.getD_eq_getElem?_getD, List.getElem?_eq_getElem h]
  exact List.getElem_mem h
theorem getD_app1 : ∀ (a b : List Nat) (i : Nat), i < a.length → (a ++ b).getD i 0 = a.getD i 0
  | x :: a, b, 0, _ => by simp
  | x :: a, b, i + 1, h => by
    have := getD_app1 a b i (by simpa using h)
    simpa using this
theorem getD_app2 : ∀ (a b : List Nat) (i : Nat), (a ++ b).getD (a.length + i) 0 = b.getD i 0
  | [], b, i => by simp
  | x :: a, b, i => by
    have := getD_app2 a b i
    rw [List.cons_append, List.length_cons, show a.length + 1 + i = (a.length + i) + 1 by omega, List.getD_cons_succ]
    exact this
theorem getD_take {w : List Nat} {k i : Nat} (h : i < k) : (w.take k).getD i 0 = w.getD i 0 := by
  rw [List.getD_eq_getElem?_getD, List.getD_eq_getElem?_getD, List.getElem?_take, if_pos h]
theorem getD_map {w : List Nat} (φ : Nat → Nat) {i : Nat} (h : i < w.length) : (w.map φ).getD i 0 = φ (w.getD i 0) := by
  rw [List.getD_eq_getElem?_getD, List.getD_eq_getElem?_getD, List.getElem?_map, List.getElem?_eq_getElem h]
  rfl
theorem take_snoc : ∀ (w : List Nat) (k : Nat), k < w.length → w.take (k + 1) = w.take k ++ [w.getD k 0]
  | x :: w, 0, _ => by simp
  | x :: w, k + 1, h => by
    have := take_snoc w k (by simpa using h)
    rw [List.take_succ_cons, List.take_succ_cons, List.cons_append, this, List.getD_cons_succ]
def ins : List Nat → Nat → Nat → List Nat
  | w, 0, c => c :: w
  | [], _ + 1, _ => []
  | x :: w, i + 1, c => x :: ins w i c
def del : List Nat → Nat → List Nat
  | [], _ => []
  | _ :: w, 0 => w
  | x :: w, i + 1 => x :: del w i
theorem ins_len : ∀ (w : List Nat) (i c : Nat), i ≤ w.length → (ins w i c).length = w.length + 1
  | w, 0, c, _ => by simp [ins]
  | x :: w, i + 1, c, h => by
    have := ins_len w i c (by simpa using h)
    simp [ins, this]
theorem del_len : ∀ (w : List Nat) (i : Nat), i < w.length → (del w i).length = w.length - 1
  | _ :: w, 0, _ => by simp [del]
  | x :: w, i + 1, h => by
    have h2 : i < w.length := by simpa using h
    have := del_len w i h2
    simp only [del, List.length_cons, this]
    omega
theorem ins_at : ∀ (w : List Nat) (i c j : Nat), i ≤ w.length → (ins w i c).getD j 0 = if j < i then w.getD j 0 else if j = i then c else w.getD (j - 1) 0
  | w, 0, c, 0, _ => by simp [ins]
  | w, 0, c, j + 1, _ => by simp [ins]
  | x :: w, i + 1, c, 0, h => by simp [ins]
  | x :: w, i + 1, c, j + 1, h => by
    have := ins_at w i c j (by simpa using h)
    simp only [ins, List.getD_cons_succ, this]
    by_cases h1 : j < i
    · rw [if_pos h1, if_pos (show j + 1 < i + 1 by omega)]
    · rw [if_neg h1, if_neg (show ¬ j + 1 < i + 1 by omega)]
      by_cases h2 : j = i
      · rw [if_pos h2, if_pos (show j + 1 = i + 1 by omega)]
      · rw [if_neg h2, if_neg (show ¬ j + 1 = i + 1 by omega), show j + 1 - 1 = (j - 1) + 1 by omega, List.getD_cons_succ]
theorem del_at : ∀ (w : List Nat) (i j : Nat), i < w.length → (del w i).getD j 0 = if j < i then w.getD j 0 else w.getD (j + 1) 0
  | _ :: w, 0, j, _ => by simp [del]
  | x :: w, i + 1, 0, h => by simp [del]
  | x :: w, i + 1, j + 1, h => by
    have := del_at w i j (by simpa using h)
    simp only [del, List.getD_cons_succ, this]
    by_cases h1 : j < i
    · rw [if_pos h1, if_pos (show j + 1 < i + 1 by omega)]
    · rw [if_neg h1, if_neg (show ¬ j + 1 < i + 1 by omega)]
theorem ins_app : ∀ (a b : List Nat) (c : Nat), ins (a ++ b) a.length c = a ++ c :: b
  | [], b, c => by cases b <;> rfl
  | x :: a, b, c => by
    rw [List.cons_append, List.length_cons, ins, ins_app a b c, List.cons_append]
theorem del_app : ∀ (a b : List Nat) (y : Nat), del (a ++ y :: b) a.length = a ++ b
  | [], b, y => rfl
  | x :: a, b, y => by
    rw [List.cons_append, List.length_cons, del, del_app a b y, List.cons_append]
/-- a word of the document: strands and crossings -/
def Wok (n : Nat) (w : List Nat) : Prop := 2 ≤ n ∧ n ≤ 7 ∧ w.length ≤ 24 ∧ ∀ c, c ∈ w → c < 2 * (n - 1)
theorem Wok.at {n : Nat} {w : List Nat} (h : Wok n w) {i : Nat} (hi : i < w.length) : w.getD i 0 < 2 * (n - 1) := h.2.2.2 _ (getD_mem hi)
theorem Wok.lt {n : Nat} {w : List Nat} (h : Wok n w) {i : Nat} (hi : i < w.length) : w.getD i 0 < 12 := by
  have := h.at hi
  have := h.2.1
  omega
def WordIs (f : St) (a n : Nat) (w : List Nat) : Prop := f a 1 = nI n ∧ f a 2 = nI w.length ∧ ∀ i, i < w.length → f (a + 1 + 1) i = nI (w.getD i 0)
theorem WordIs.fr {f g : St} {a n : Nat} {w : List Nat} (h : WordIs f a n w) (h1 : g a = f a) (h2 : g (a + 1 + 1) = f (a + 1 + 1)) : WordIs g a n w := by
  unfold WordIs at h ⊢
  rw [h1, h2]
  exact h
theorem WordIs.out {f g : St} {a n lo hi : Nat} {w : List Nat} (h : WordIs f a n w) (hf : Fr f g lo hi) (ho : a + 3 ≤ lo ∨ hi ≤ a) : WordIs g a n w := h.fr (hf a (by omega)) (hf (a + 1 + 1) (by omega))
theorem mu_up {N k : Nat} {x : Int32} (e : x = nI (k + 1)) (h : k < N) (h2 : N < 2 ^ 31) : N - x.toNatClampNeg < N - (nI k).toNatClampNeg := by
  rw [e, nI_clamp (by omega), nI_clamp (by omega)]
  omega
theorem mu_dn {k : Nat} {x : Int32} (e : x = nI k) (h : k + 1 < 2 ^ 31) : x.toNatClampNeg < (nI (k + 1)).toNatClampNeg := by
  rw [e, nI_clamp (by omega), nI_clamp (by omega)]
  omega
theorem nI_mul (a b : Nat) : nI a * nI b = nI (a * b) := (Int32.ofNat_mul a b).symm
theorem nI_pm (x : Int32) : x + (-1) = x - 1 := (Int32.sub_eq_add_neg x 1).symm
theorem c_far : ∀ p, p < 16 → ∀ q, q < 16 → (nI p - nI q < 2 ↔ ¬ (q + 2 ≤ p)) := by decide +kernel
theorem w_split (w : List Nat) (i : Nat) (h : i < w.length) : ∃ a b, w = a ++ w.getD i 0 :: b ∧ a.length = i := by
  refine ⟨w.take i, w.drop (i + 1), ?_, by rw [List.length_take]; omega⟩
  have h1 := take_snoc w i h
  have h2 := List.take_append_drop (i + 1) w
  rw [h1, List.append_assoc] at h2
  exact h2.symm
theorem w_split2 (w : List Nat) (i : Nat) (h : i + 1 < w.length) : ∃ a b, w = a ++ w.getD i 0 :: w.getD (i + 1) 0 :: b ∧ a.length = i := by
  obtain ⟨a, b, e, hl⟩ := w_split w (i + 1) h
  obtain ⟨a2, b2, e2, hl2⟩ := w_split a i (by omega)
  have e3 : a.getD i 0 = w.getD i 0 := by
    rw [e, getD_app1 _ _ _ (by omega)]
  have hb : b2 = [] := by
    have := congrArg List.length e2
    rw [List.length_append, List.length_cons] at this
    exact List.length_eq_zero_iff.mp (by omega)
  refine ⟨a2, b, ?_, hl2⟩
  rw [hb, e3] at e2
  conv => lhs; rw [e]
  rw [e2, List.append_assoc]
  rfl
/-- the loose word by its place -/
theorem insR_app (c : Nat) : ∀ (A B : List Nat), (∀ x, x ∈ A → c / 2 + 2 ≤ x / 2) → insR (A ++ B) c = A ++ insR B c
  | [], B, _ => rfl
  | x :: A, B, h => by
    have h1 := insR_app c A B (fun y hy => h y (List.mem_cons_of_mem _ hy))
    rw [List.cons_append, insR, if_pos (h x List.mem_cons_self), h1, List.cons_append]
theorem ins_loose (v : List Nat) (c idx : Nat) (h : idx ≤ v.length) (hf : ∀ j, idx ≤ j → j < v.length → c / 2 + 2 ≤ v.getD j 0 / 2) (hs : idx = 0 ∨ ¬ (c / 2 + 2 ≤ v.getD (idx - 1) 0 / 2)) :
    insR v.reverse c = if 0 < idx ∧ v.getD (idx - 1) 0 = fl c then (del v (idx - 1)).reverse else (ins v idx c).reverse := by
  have hd : ∀ x, x ∈ (v.drop idx).reverse → c / 2 + 2 ≤ x / 2 := by
    intro x hx
    rw [List.mem_reverse] at hx
    obtain ⟨j, hj, e⟩ := List.getElem_of_mem hx
    rw [List.length_drop] at hj
    rw [List.getElem_drop] at e
    have := hf (idx + j) (by omega) (by omega)
    rw [List.getD_eq_getElem?_getD, List.getElem?_eq_getElem (by omega)] at this
    rw [← e]
    exact this
  cases idx with
  | zero =>
    rw [if_neg (by omega)]
    rw [List.drop_zero] at hd
    have := insR_app c v.reverse [] hd
    rw [List.append_nil] at this
    rw [this]
    cases v <;> simp [ins, insR]
  | succ i =>
    have hs2 : ¬ (c / 2 + 2 ≤ v.getD i 0 / 2) := by
      rcases hs with hs | hs
      · omega
      · exact hs
    rw [show i + 1 - 1 = i by omega]
    obtain ⟨a, b, e, hl⟩ := w_split v i (by omega)
    have eb : v.drop (i + 1) = b := by
      have : (a ++ v.getD i 0 :: b).drop (i + 1) = b := by
        rw [← hl, List.drop_append]
        simp
      rw [← e] at this
      exact this
    rw [eb] at hd
    generalize v.getD i 0 = y at *
    have h1 : insR v.reverse c = b.reverse ++ (if y = fl c then a.reverse else c :: y :: a.reverse) := by
      rw [e, List.reverse_append, List.reverse_cons, List.append_assoc, insR_app c _ _ hd, List.cons_append, List.nil_append, insR, if_neg hs2]
    rw [h1]
    by_cases hy : y = fl c
    · rw [if_pos hy, if_pos ⟨by omega, hy⟩, e, ← hl, del_app, List.reverse_append]
    · rw [if_neg hy, if_neg (fun q => hy q.2), e]
      have := ins_app (a ++ [y]) b c
      rw [List.append_assoc, List.length_append, List.length_cons, List.length_nil, hl] at this
      rw [show (a ++ y :: b) = a ++ ([y] ++ b) from rfl, show i + 1 = i + (0 + 1) by omega, this]
      simp
theorem nfR_snoc (w : List Nat) (c : Nat) : nfR (w ++ [c]) = insR (nfR w) c := by
  unfold nfR
  rw [List.foldl_append]
  rfl
theorem sfR_snoc (w : List Nat) (c : Nat) : sfR (w ++ [c]) = shR (sfR w) c := by
  unfold sfR
  rw [List.foldl_append]
  rfl
theorem NF_snoc (w : List Nat) (c : Nat) : NF (w ++ [c]) = (insR (NF w).reverse c).reverse := by
  unfold NF
  rw [nfR_snoc, List.reverse_reverse]
theorem SF_snoc (w : List Nat) (c : Nat) : SF (w ++ [c]) = (shR (SF w).reverse c).reverse := by
  unfold SF
  rw [sfR_snoc, List.reverse_reverse]
theorem insR_len : ∀ (L : List Nat) (c : Nat), (insR L c).length ≤ L.length + 1
  | [], c => by simp [insR]
  | x :: r, c => by
    have := insR_len r c
    simp only [insR]
    split
    · simp only [List.length_cons]
      omega
    · split
      · simp only [List.length_cons]
        omega
      · simp
theorem insR_mem : ∀ (L : List Nat) (c y : Nat), y ∈ insR L c → y = c ∨ y ∈ L
  | [], c, y, h => by
    simp [insR] at h
    exact Or.inl h
  | x :: r, c, y, h => by
    simp only [insR] at h
    split at h
    · rcases List.mem_cons.mp h with h | h
      · exact Or.inr (by simp [h])
      · rcases insR_mem r c y h with h | h
        · exact Or.inl h
        · exact Or.inr (List.mem_cons_of_mem _ h)
    · split at h
      · exact Or.inr (List.mem_cons_of_mem _ h)
      · rcases List.mem_cons.mp h with h | h
        · exact Or.inl h
        · exact Or.inr h
theorem shR_len (L : List Nat) (c : Nat) : (shR L c).length ≤ L.length + 1 := by
  cases L with
  | nil => simp [shR]
  | cons x r =>
    simp only [shR]
    split
    · simp only [List.length_cons]
      omega
    · simp
theorem shR_mem (L : List Nat) (c y : Nat) (h : y ∈ shR L c) : y = c ∨ y ∈ L := by
  cases L with
  | nil =>
    simp [shR] at h
    exact Or.inl h
  | cons x r =>
    simp only [shR] at h
    split at h
    · exact Or.inr (List.mem_cons_of_mem _ h)
    · rcases List.mem_cons.mp h with h | h
      · exact Or.inl h
      · exact Or.inr h
theorem fold_len (F : List Nat → Nat → List Nat) (h : ∀ L c, (F L c).length ≤ L.length + 1) : ∀ (w L : List Nat), (w.foldl F L).length ≤ L.length + w.length
  | [], L => by simp
  | c :: w, L => by
    have := fold_len F h w (F L c)
    have := h L c
    simp only [List.foldl_cons, List.length_cons]
    omega
theorem fold_mem (F : List Nat → Nat → List Nat) (h : ∀ L c y, y ∈ F L c → y = c ∨ y ∈ L) : ∀ (w L : List Nat) (y : Nat), y ∈ w.foldl F L → y ∈ w ∨ y ∈ L
  | [], L, y, hy => Or.inr hy
  | c :: w, L, y, hy => by
    rcases fold_mem F h w (F L c) y hy with q | q
    · exact Or.inl (List.mem_cons_of_mem _ q)
    · rcases h L c y q with q | q
      · exact Or.inl (by simp [q])
      · exact Or.inr q
theorem NF_len (w : List Nat) : (NF w).length ≤ w.length := by
  have := fold_len insR insR_len w []
  unfold NF nfR
  rw [List.length_reverse]
  simpa using this
theorem SF_len (w : List Nat) : (SF w).length ≤ w.length := by
  have := fold_len shR shR_len w []
  unfold SF sfR
  rw [List.length_reverse]
  simpa using this
theorem NF_mem {w : List Nat} {y : Nat} (h : y ∈ NF w) : y ∈ w := by
  unfold NF nfR at h
  rw [List.mem_reverse] at h
  rcases fold_mem insR insR_mem w [] y h with q | q
  · exact q
  · simp at q
theorem SF_mem {w : List Nat} {y : Nat} (h : y ∈ SF w) : y ∈ w := by
  unfold SF sfR at h
  rw [List.mem_reverse] at h
  rcases fold_mem shR shR_mem w [] y h with q | q
  · exact q
  · simp at q
theorem Wok.NF {n : Nat} {w : List Nat} (h : Wok n w) : Wok n (NF w) := ⟨h.1, h.2.1, Nat.le_trans (NF_len w) h.2.2.1, fun c hc => h.2.2.2 c (NF_mem hc)⟩
theorem Wok.SF {n : Nat} {w : List Nat} (h : Wok n w) : Wok n (SF w) := ⟨h.1, h.2.1, Nat.le_trans (SF_len w) h.2.2.1, fun c hc => h.2.2.2 c (SF_mem hc)⟩
theorem Wok.take {n : Nat} {w : List Nat} (h : Wok n w) (k : Nat) : Wok n (w.take k) := ⟨h.1, h.2.1, Nat.le_trans (by rw [List.length_take]; omega) h.2.2.1, fun c hc => h.2.2.2 c (List.mem_of_mem_take hc)⟩
theorem sf_del (v : List Nat) (i : Nat) (h : i + 1 < v.length) (h2 : v.getD (i + 1) 0 = fl (v.getD i 0)) : sfR (del (del v (i + 1)) i) = sfR v := by
  obtain ⟨a, b, e, hl⟩ := w_split2 v i h
  rw [h2] at e
  generalize v.getD i 0 = y at *
  have h3 := sf_rm a b y
  have e1 : del v (i + 1) = a ++ y :: b := by
    have := del_app (a ++ [y]) b (fl y)
    rw [List.append_assoc, List.append_assoc, List.length_append, List.length_cons, List.length_nil, hl] at this
    rw [e]
    exact this
  rw [e1, e, h3, ← hl, del_app]
def tn (n c : Nat) : Nat := 2 * (n - 2 - c / 2) + c % 2
/-- the word behind a change -/
def chg (n : Nat) (w : List Nat) (how : Nat) : List Nat := if how = 0 then w.map fl else if how = 1 then w.map (tn n) else if how = 2 then (w.map fl).reverse else NF w
theorem wok_chg {n : Nat} {w : List Nat} (h : Wok n w) (how : Nat) : Wok n (chg n w how) := by
  have h2 := h.1
  have hm : Wok n (w.map fl) := ⟨h.1, h.2.1, by rw [List.length_map]; exact h.2.2.1, fun c hc => by
    obtain ⟨x, hx, e⟩ := List.mem_map.mp hc
    rw [← e]
    exact fl_lt (h.2.2.2 x hx)⟩
  unfold chg
  split
  · exact hm
  · split
    · refine ⟨h.1, h.2.1, by rw [List.length_map]; exact h.2.2.1, fun c hc => ?_⟩
      obtain ⟨x, hx, e⟩ := List.mem_map.mp hc
      have := h.2.2.2 x hx
      rw [← e]
      unfold tn
      omega
    · split
      · exact ⟨hm.1, hm.2.1, by rw [List.length_reverse]; exact hm.2.2.1, fun c hc => hm.2.2.2 c (List.mem_reverse.mp hc)⟩
      · exact h.NF
