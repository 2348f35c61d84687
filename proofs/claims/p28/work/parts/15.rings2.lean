theorem bifE {α : Type} (a b : Nat) (x y : α) : (bif Nat.beq a b then x else y) = if a = b then x else y := by
  cases h : Nat.beq a b with
  | true => rw [if_pos (Nat.eq_of_beq_eq_true h)]; rfl
  | false => rw [if_neg (Nat.ne_of_beq_eq_false h)]; rfl
theorem bt_2 (s p : Nat) : bt s p < 2 := Nat.mod_lt _ (by decide)
theorem rgI_s (L fu s p : Nat) : rgI L (fu + 1) s p = if bt s p = 0 then rgI L fu (s + 2 ^ p) (dg L p) else s := by
  have := bt_2 s p
  simp only [rgI, force_eq, bifE]
  by_cases h : bt s p = 0
  · rw [if_pos h, if_neg (by omega)]
    rfl
  · rw [if_neg h, if_pos (by omega)]
theorem rgO_s (L fu m k s f : Nat) : rgO L fu (m + 1) k s f = rgO L fu m (k + 1) (rgI L fu s k) (if bt s k = 0 then f + 1 else f) := by
  simp only [rgO, force_eq, bifE]
theorem rjO_s (L n m k R left : Nat) : rjO L n (m + 1) k R left = if dg R k = dg R (dg L k) then rjO L n m (k + 1) R left else rjO L n m (k + 1) (cd (fun i => if dg R i = dg R (dg L k) then dg R k else dg R i) n) (left - 1) := by
  simp only [rjO, force_eq, bifE]
  rfl
theorem roF_s (L start fu p st : Nat) : roF L start (fu + 1) p st = if p = start then st else roF L start fu (dg L p) (st + 1) := by
  simp only [roF, force_eq, bifE]
theorem rt_s (L start fu p : Nat) : rt L start (fu + 1) p = if p = start then true else rt L start fu (dg L p) := by
  simp only [rt, force_eq, bifE]
theorem lcF_s (one other fu m i : Nat) : lcF one other (fu + 1) m i = if i < other ∧ m % other ≠ 0 then lcF one other fu (m + one) (i + 1) else m := by
  simp only [lcF, force_eq, bifE]
  cases h : Nat.ble other i with
  | true =>
    have := Nat.le_of_ble_eq_true h
    have h5 : ¬ (i < other ∧ m % other ≠ 0) := fun q => by
      have := q.1
      omega
    rw [if_neg h5]
    rfl
  | false =>
    have h2 : ¬ other ≤ i := fun q => by rw [Nat.ble_eq_true_of_le q] at h; exact Bool.noConfusion h
    show (if m % other = 0 then m else _) = _
    by_cases h3 : m % other = 0
    · rw [if_pos h3, if_neg (fun q => q.2 h3)]
    · rw [if_neg h3, if_pos ⟨by omega, h3⟩]
      rfl
theorem perC_s (L n m k a : Nat) : perC L n (m + 1) k a = perC L n m (k + 1) (lcF a (roF L k n (dg L k) 1) 8 a 1) := by
  simp only [perC, force_eq]
theorem perM_s (L n m k a : Nat) : perM L n (m + 1) k a = perM L n m (k + 1) (a / Nat.gcd a (roF L k n (dg L k) 1) * roF L k n (dg L k) 1) := by
  simp only [perM, force_eq]
  rfl
theorem alB_of : ∀ {n : Nat} {p : Nat → Bool}, (∀ x, x < n → p x = true) → alB n p = true
  | 0, p, _ => rfl
  | n + 1, p, h => by
    simp only [alB]
    rw [h n (by omega)]
    exact alB_of (fun x hx => h x (by omega))
theorem fnd_at (E p j : Nat) : ∀ fu i, i ≤ j → j < i + fu → (∀ t, i ≤ t → t < j → dg E t ≠ p) → dg E j = p → fnd E p fu i = j
  | 0, i, h1, h2, _, _ => by omega
  | fu + 1, i, h1, h2, h3, h4 => by
    simp only [fnd, bifE]
    by_cases c : i = j
    · rw [c, if_pos h4]
    · rw [if_neg (h3 i (Nat.le_refl _) (by omega))]
      exact fnd_at E p j fu (i + 1) (by omega) (by omega) (fun t ht ht2 => h3 t (by omega) ht2) h4
theorem usd_no (E x : Nat) : ∀ i, (∀ j, j < i → dg E j ≠ x) → usd E x i = false
  | 0, _ => rfl
  | i + 1, h => by
    simp only [usd, bifE]
    rw [if_neg (h i (by omega))]
    exact usd_no E x i (fun j hj => h j (by omega))
theorem en_sound (n : Nat) (hn : n ≤ 8) (e : Nat → Nat) (hlt : ∀ i, i < n → e i < n) (hinj : ∀ i j, i < n → j < n → e i = e j → i = j) : ∀ k m E, en n k m E = true → m + k = n → cd e m = E → chkP n (cd e n) = true
  | 0, m, E, h, hm, hE => by
    simp only [en] at h
    rw [show n = m by omega]
    rw [show n = m by omega, ← hE] at h
    exact h
  | k + 1, m, E, h, hm, hE => by
    simp only [en] at h
    have h1 := alB_at h (e m) (hlt m (by omega))
    have h2 : usd E (e m) m = false := usd_no _ _ _ (fun j hj => by
      rw [← hE, dg_cd e m (fun i hi => by have := hlt i (by omega); omega) j hj]
      intro q
      have := hinj j m (by omega) (by omega) q
      omega)
    rw [h2, force_eq] at h1
    exact en_sound n hn e hlt hinj k (m + 1) _ h1 (by omega) (by rw [cd_succ, hE]; rfl)
theorem en_7 : en 7 7 0 0 = true := by
  have h : ∀ x, x < 7 → en 7 6 1 x = true := by
    intro x hx
    match x, hx with
    | 0, _ => exact en_70
    | 1, _ => exact en_71
    | 2, _ => exact en_72
    | 3, _ => exact en_73
    | 4, _ => exact en_74
    | 5, _ => exact en_75
    | 6, _ => exact en_76
  rw [en]
  refine alB_of (fun x hx => ?_)
  rw [force_eq]
  have e : Nat.add 0 (Nat.mul x (Nat.pow 8 0)) = x := by
    show 0 + x * 1 = x
    omega
  rw [e]
  exact h x hx
theorem en_all {n : Nat} (h1 : 2 ≤ n) (h2 : n ≤ 7) : en n n 0 0 = true := by
  match n, h1, h2 with
  | 2, _, _ => exact en_2
  | 3, _, _ => exact en_3
  | 4, _, _ => exact en_4
  | 5, _, _ => exact en_5
  | 6, _, _ => exact en_6
  | 7, _, _ => exact en_7
/-- rings told in both ways, plain or not, and the period: from the ends and from the holders -/
theorem rings_all {n : Nat} (h1 : 2 ≤ n) (h2 : n ≤ 7) {e h : Nat → Nat} (he : ∀ i, i < n → e i < n) (hh : ∀ i, i < n → h i < n) (heh : ∀ i, i < n → e (h i) = i) (hhe : ∀ i, i < n → h (e i) = i) :
    rgO (cd e n) n n 0 0 0 = rgO (cd h n) 128 n 0 0 0 ∧ rjO (cd e n) n n 0 (cd (fun i => i) n) n = rgO (cd h n) 128 n 0 0 0 ∧ ((alB n fun s => Nat.beq (dg (cd e n) s) s) = true ↔ rgO (cd h n) 128 n 0 0 0 = n) ∧ perC (cd e n) n n 0 1 = perM (cd h n) n n 0 1 ∧ ∀ k, k < n → rt (cd h n) k n (dg (cd h n) k) = true := by
  have hc := en_sound n (by omega) e he (fun i j hi hj q => by rw [← hhe i hi, ← hhe j hj, q]) n 0 0 (en_all h1 h2) (by omega) rfl
  have hH : cd (fun p => fnd (cd e n) p n 0) n = cd h n := by
    refine cd_congr n (fun p hp => ?_)
    have hd := dg_cd e n (fun i hi => by have := he i hi; omega)
    refine fnd_at _ _ _ n 0 (Nat.zero_le _) (by have := hh p hp; omega) (fun t _ ht q => ?_) ?_
    · have := hh p hp
      rw [hd t (by omega)] at q
      have h3 := hhe t (by omega)
      rw [q] at h3
      omega
    · rw [hd _ (hh p hp)]
      exact heh p hp
  simp only [chkP, force_eq, hH] at hc
  unfold chk3 at hc
  rw [bifE] at hc
  by_cases c1 : rgO (cd e n) n n 0 0 0 = rgO (cd h n) 128 n 0 0 0
  · rw [if_pos c1, bifE] at hc
    by_cases c2 : rjO (cd e n) n n 0 (cd (fun i => i) n) n = rgO (cd h n) 128 n 0 0 0
    · rw [if_pos c2] at hc
      generalize hA : (alB n fun s => Nat.beq (dg (cd e n) s) s) = A at hc
      generalize hB : Nat.beq (rgO (cd h n) 128 n 0 0 0) n = B at hc
      have c3 : A = B := by
        cases A <;> cases B <;> simp at hc ⊢
      subst c3
      have e0 : Bool.xor A A = false := by cases A <;> rfl
      rw [e0, bifE] at hc
      by_cases c4 : perC (cd e n) n n 0 1 = perM (cd h n) n n 0 1
      · rw [if_pos c4] at hc
        refine ⟨c1, c2, ⟨fun q => ?_, fun q => ?_⟩, c4, fun k hk => alB_at hc k hk⟩
        · rw [q] at hB
          exact Nat.eq_of_beq_eq_true hB
        · rw [← hB, q]
          exact Nat.beq_refl n
      · rw [if_neg c4] at hc
        exact Bool.noConfusion hc
    · rw [if_neg c2] at hc
      exact Bool.noConfusion hc
  · rw [if_neg c1] at hc
    exact Bool.noConfusion hc
theorem b_and : ∀ s, s < 128 → ∀ p, p < 7 → (nI s &&& (1 <<< (nI p &&& 31)) = 0 ↔ bt s p = 0) := by decide +kernel
theorem b_or : ∀ s, s < 128 → ∀ p, p < 7 → bt s p = 0 → nI s ||| (1 <<< (nI p &&& 31)) = nI (s + 2 ^ p) ∧ s + 2 ^ p < 128 := by decide +kernel
theorem b_sh : ∀ s, s < 128 → ∀ p, p < 7 → ((nI s >>> (nI p &&& 31)) &&& 1 = 0 ↔ bt s p = 0) := by decide +kernel
