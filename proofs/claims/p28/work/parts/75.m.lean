/-! what the law says of words: loosened and short words, rings and the period, twice the same change -/
theorem sh_nf (L : List Nat) (c : Nat) : nfR (shR L c).reverse = insR (nfR L.reverse) c := by
  have step : ∀ (M : List Nat) (d : Nat), nfR ((d :: M).reverse) = insR (nfR M.reverse) d := fun M d => by
    unfold nfR
    rw [List.reverse_cons, List.foldl_append]
    rfl
  cases L with
  | nil => exact step [] c
  | cons x r =>
    show nfR (if x = fl c then r else c :: x :: r).reverse = _
    by_cases e : x = fl c
    · rw [if_pos e, step r x]
      have h := ins_undo (nfR r.reverse) x (irr_nf _)
      rw [e, fl_fl] at h
      rw [e]
      exact h.symm
    · rw [if_neg e]
      exact step (x :: r) c
theorem sh_fold : ∀ (w L : List Nat), nfR (w.foldl shR L).reverse = w.foldl insR (nfR L.reverse)
  | [], _ => rfl
  | c :: w, L => by
    show nfR (w.foldl shR (shR L c)).reverse = w.foldl insR (insR (nfR L.reverse) c)
    rw [sh_fold w (shR L c), sh_nf]
theorem NF_SF (w : List Nat) : NF (SF w) = NF w := by
  have h := sh_fold w []
  show (nfR (sfR w).reverse).reverse = (nfR w).reverse
  exact congrArg List.reverse h
theorem NF_le_SF (w : List Nat) : (NF w).length ≤ (SF w).length := by
  rw [← NF_SF w]
  exact NF_len (SF w)
theorem sh_par : ∀ (w L : List Nat), (w.foldl shR L).length % 2 = (L.length + w.length) % 2
  | [], _ => rfl
  | c :: w, L => by
    have h : (shR L c).length % 2 = (L.length + 1) % 2 := by
      cases L with
      | nil => rfl
      | cons x r =>
        show (if x = fl c then r else c :: x :: r).length % 2 = _
        by_cases e : x = fl c
        · rw [if_pos e, List.length_cons]
          omega
        · rw [if_neg e, List.length_cons]
    have h2 := sh_par w (shR L c)
    show (w.foldl shR (shR L c)).length % 2 = _
    rw [h2, List.length_cons]
    omega
theorem SF_par (w : List Nat) : (w.length - (SF w).length) % 2 = 0 := by
  have h := sh_par w []
  have h2 : (SF w).length = (w.foldl shR []).length := by
    show (sfR w).reverse.length = _
    rw [List.length_reverse]
    rfl
  rw [List.length_nil] at h
  omega
theorem tn_tn {n c : Nat} (h : c < 2 * (n - 1)) : tn n (tn n c) = c := by
  unfold tn
  omega
theorem chg_chg {n : Nat} {w : List Nat} (h : Wok n w) {how : Nat} (hh : how < 3) : chg n (chg n w how) how = w := by
  have c012 : how = 0 ∨ how = 1 ∨ how = 2 := by omega
  rcases c012 with rfl | rfl | rfl
  · show (w.map fl).map fl = w
    rw [List.map_map]
    exact (List.map_congr_left (g := id) (fun c _ => fl_fl c)).trans (List.map_id w)
  · show (w.map (tn n)).map (tn n) = w
    rw [List.map_map]
    exact (List.map_congr_left (g := id) (fun c hc => tn_tn (h.2.2.2 c hc))).trans (List.map_id w)
  · show ((w.map fl).reverse.map fl).reverse = w
    rw [List.map_reverse, List.reverse_reverse, List.map_map]
    exact (List.map_congr_left (g := id) (fun c _ => fl_fl c)).trans (List.map_id w)
theorem wH_inj {w : List Nat} {k p q : Nat} (e : wH w k p = wH w k q) : p = q := by
  rw [← wEH w k p, e, wEH]
theorem hid_abv (w : List Nat) (k : Nat) : hidA w k ≠ abvA w k := by
  unfold hidA abvA
  by_cases c : w.getD k 0 % 2 = 1
  · rw [if_pos c, if_pos c]
    intro e
    have := wH_inj e
    omega
  · rw [if_neg c, if_neg c]
    intro e
    have := wH_inj e
    omega
theorem roF_ge (L start : Nat) : ∀ fu p st, st ≤ roF L start fu p st
  | 0, _, _ => Nat.le_refl _
  | fu + 1, p, st => by
    rw [roF_s]
    have := roF_ge L start fu (dg L p) (st + 1)
    split <;> omega
theorem roF_1 {L k n : Nat} (hn : 0 < n) : roF L k n (dg L k) 1 = 1 ↔ dg L k = k := by
  obtain ⟨m, rfl⟩ : ∃ m, n = m + 1 := ⟨n - 1, by omega⟩
  rw [roF_s]
  have := roF_ge L k m (dg L (dg L k)) (1 + 1)
  by_cases c : dg L k = k
  · rw [if_pos c]
    exact ⟨fun _ => c, fun _ => rfl⟩
  · rw [if_neg c]
    exact ⟨fun e => by omega, fun e => absurd e c⟩
theorem dvd_lcm2 (a r : Nat) : a ∣ a / Nat.gcd a r * r := by
  have h1 := Nat.div_mul_cancel (Nat.gcd_dvd_left a r)
  obtain ⟨t, ht⟩ := Nat.gcd_dvd_right a r
  generalize Nat.gcd a r = g at *
  refine ⟨t, ?_⟩
  rw [ht, ← Nat.mul_assoc, h1]
theorem perM_dvd (L n : Nat) : ∀ m k a, a ∣ perM L n m k a ∧ ∀ j, k ≤ j → j < k + m → roF L j n (dg L j) 1 ∣ perM L n m k a
  | 0, k, a => ⟨Nat.dvd_refl a, fun j h1 h2 => by omega⟩
  | m + 1, k, a => by
    rw [perM_s]
    obtain ⟨h1, h2⟩ := perM_dvd L n m (k + 1) (a / Nat.gcd a (roF L k n (dg L k) 1) * roF L k n (dg L k) 1)
    refine ⟨Nat.dvd_trans (dvd_lcm2 _ _) h1, fun j hj1 hj2 => ?_⟩
    by_cases c : j = k
    · rw [c]
      exact Nat.dvd_trans (Nat.dvd_mul_left _ _) h1
    · exact h2 j (by omega) (by omega)
theorem perM_1 (L n : Nat) : ∀ m k, (∀ j, k ≤ j → j < k + m → roF L j n (dg L j) 1 = 1) → perM L n m k 1 = 1
  | 0, _, _ => rfl
  | m + 1, k, h => by
    rw [perM_s, h k (Nat.le_refl _) (by omega), show 1 / Nat.gcd 1 1 * 1 = 1 by decide]
    exact perM_1 L n m (k + 1) (fun j h1 h2 => h j (by omega) (by omega))
theorem plain_iff {y : Lf} (h : Wok y.1 y.2) : perV y = 1 ↔ rgV y = y.1 := by
  obtain ⟨-, -, h3, h4, -⟩ := rings_w h
  have hn := h.1
  have h7 := h.2.1
  have dH : ∀ s, s < y.1 → dg (cd (wH y.2 y.2.length) y.1) s = wH y.2 y.2.length s := fun s hs => dg_cd _ _ (fun i hi => by have := wH_lt h y.2.length i (Nat.le_refl _) hi; omega) s hs
  have dE : ∀ s, s < y.1 → dg (cd (wE y.2 y.2.length) y.1) s = wE y.2 y.2.length s := fun s hs => dg_cd _ _ (fun i hi => by have := wE_lt h y.2.length i (Nat.le_refl _) hi; omega) s hs
  rw [h4, ← h3]
  constructor
  · intro e
    refine alB_of (fun s hs => ?_)
    have hd := (perM_dvd (cd (wH y.2 y.2.length) y.1) y.1 y.1 0 1).2 s (Nat.zero_le _) (by omega)
    rw [e] at hd
    have h1 := (roF_1 (by omega)).mp (Nat.dvd_one.mp hd)
    rw [dH s hs] at h1
    have h5 := wEH y.2 y.2.length s
    rw [h1] at h5
    show Nat.beq (dg (cd (wE y.2 y.2.length) y.1) s) s = true
    rw [dE s hs, h5]
    exact Nat.beq_refl s
  · intro e
    refine perM_1 _ _ _ _ (fun j _ hj => (roF_1 (by omega)).mpr ?_)
    have hj : j < y.1 := by omega
    have h1 : dg (cd (wE y.2 y.2.length) y.1) j = j := Nat.eq_of_beq_eq_true (alB_at e j hj)
    rw [dE j hj] at h1
    have h5 := wHE y.2 y.2.length j
    rw [h1] at h5
    rw [dH j hj]
    exact h5
theorem perC_le (L n : Nat) : ∀ m k a, perC L n m k a ≤ 9 ^ m * a
  | 0, _, a => by
    show a ≤ 1 * a
    omega
  | m + 1, k, a => by
    rw [perC_s]
    have h1 := perC_le L n m (k + 1) (lcF a (roF L k n (dg L k) 1) 8 a 1)
    have h2 := (lcF_le a (roF L k n (dg L k) 1) 8 a 1).2
    refine Nat.le_trans h1 ?_
    rw [Nat.pow_succ, Nat.mul_assoc]
    exact Nat.mul_le_mul_left _ (by omega)
theorem perV_lt {y : Lf} (h : Wok y.1 y.2) : perV y < 2 ^ 31 := by
  have h1 := perC_le (cd (wE y.2 y.2.length) y.1) y.1 y.1 0 1
  have h2 : 9 ^ y.1 ≤ 9 ^ 7 := Nat.pow_le_pow_right (by decide) h.2.1
  have h3 : perV y ≤ 9 ^ y.1 * 1 := h1
  have h4 : (9 : Nat) ^ 7 = 4782969 := rfl
  omega
theorem rgO_le (L fu : Nat) : ∀ m k s f, rgO L fu m k s f ≤ f + m
  | 0, _, _, _ => Nat.le_refl _
  | m + 1, k, s, f => by
    rw [rgO_s]
    have := rgO_le L fu m (k + 1) (rgI L fu s k) (if bt s k = 0 then f + 1 else f)
    by_cases c : bt s k = 0
    · rw [if_pos c] at this ⊢
      omega
    · rw [if_neg c] at this ⊢
      omega
theorem rgV_le (y : Lf) : rgV y ≤ y.1 := by
  have := rgO_le (cd (wH y.2 y.2.length) y.1) 128 y.1 0 0 0
  unfold rgV
  omega
