/-! rings and periods of the places of up to 7 strands: all of them looked at; a row of places is one number, 8 to the place for each -/
def force {α : Type} (n : Nat) (k : Nat → α) : α := match n with
  | 0 => k 0
  | Nat.succ m => k (Nat.succ m)
theorem force_eq {α : Type} (n : Nat) (k : Nat → α) : force n k = k n := by cases n <;> rfl
def dg (E i : Nat) : Nat := Nat.mod (Nat.div E (Nat.pow 8 i)) 8
def cd (e : Nat → Nat) : Nat → Nat
  | 0 => 0
  | k + 1 => force (cd e k) fun c => Nat.add c (Nat.mul (e k) (Nat.pow 8 k))
theorem cd_succ (e : Nat → Nat) (k : Nat) : cd e (k + 1) = cd e k + e k * 8 ^ k := force_eq _ _
theorem cd_lt (e : Nat → Nat) : ∀ n, (∀ i, i < n → e i < 8) → cd e n < 8 ^ n
  | 0, _ => by
    show 0 < 1
    decide
  | n + 1, h => by
    have h1 := cd_lt e n (fun i hi => h i (by omega))
    have h2 := h n (by omega)
    have h3 : e n * 8 ^ n ≤ 7 * 8 ^ n := Nat.mul_le_mul_right _ (by omega)
    rw [cd_succ, Nat.pow_succ]
    omega
theorem dg_eq (E i : Nat) : dg E i = E / 8 ^ i % 8 := rfl
theorem dg_lt (E i : Nat) : dg E i < 8 := Nat.mod_lt _ (by decide)
theorem dg_cd (e : Nat → Nat) : ∀ n, (∀ i, i < n → e i < 8) → ∀ s, s < n → dg (cd e n) s = e s
  | 0, _, s, hs => absurd hs (Nat.not_lt_zero _)
  | n + 1, h, s, hs => by
    have h1 := cd_lt e n (fun i hi => h i (by omega))
    rw [dg_eq, cd_succ]
    by_cases c : s = n
    · subst c
      rw [Nat.add_mul_div_right _ _ (Nat.pow_pos (by decide)), Nat.div_eq_of_lt h1, Nat.zero_add]
      exact Nat.mod_eq_of_lt (h s hs)
    · have ih := dg_cd e n (fun i hi => h i (by omega)) s (by omega)
      have e1 : e n * 8 ^ n = (8 * (e n * 8 ^ (n - s - 1))) * 8 ^ s := by
        have : 8 ^ n = 8 * 8 ^ (n - s - 1) * 8 ^ s := by
          rw [show 8 * 8 ^ (n - s - 1) = 8 ^ (n - s - 1 + 1) by rw [Nat.pow_succ, Nat.mul_comm], ← Nat.pow_add]
          congr 1
          omega
        rw [this]
        simp only [Nat.mul_assoc, Nat.mul_left_comm, Nat.mul_comm]
      rw [e1, Nat.add_mul_div_right _ _ (Nat.pow_pos (by decide)), Nat.add_mul_mod_self_left, ← dg_eq]
      exact ih
theorem cd_congr {e e' : Nat → Nat} : ∀ n, (∀ i, i < n → e i = e' i) → cd e n = cd e' n
  | 0, _ => rfl
  | n + 1, h => by rw [cd_succ, cd_succ, cd_congr n (fun i hi => h i (by omega)), h n (by omega)]
def bt (s p : Nat) : Nat := Nat.mod (Nat.div s (Nat.pow 2 p)) 2
def rgI (L : Nat) : Nat → Nat → Nat → Nat
  | 0, seen, _ => seen
  | fu + 1, seen, place => bif Nat.beq (bt seen place) 1 then seen else force (Nat.add seen (Nat.pow 2 place)) fun s => force (dg L place) fun p => rgI L fu s p
def rgO (L fu : Nat) : Nat → Nat → Nat → Nat → Nat
  | 0, _, _, found => found
  | m + 1, k, seen, found => force (rgI L fu seen k) fun s => force (bif Nat.beq (bt seen k) 0 then Nat.succ found else found) fun f => rgO L fu m (Nat.succ k) s f
def rjO (L n : Nat) : Nat → Nat → Nat → Nat → Nat
  | 0, _, _, left => left
  | m + 1, k, R, left => force (dg R k) fun kept => force (dg R (dg L k)) fun gone => bif Nat.beq kept gone then rjO L n m (Nat.succ k) R left else force (cd (fun i => bif Nat.beq (dg R i) gone then kept else dg R i) n) fun R2 => rjO L n m (Nat.succ k) R2 (Nat.pred left)
def roF (L start : Nat) : Nat → Nat → Nat → Nat
  | 0, _, steps => steps
  | fu + 1, place, steps => bif Nat.beq place start then steps else force (dg L place) fun p => roF L start fu p (Nat.succ steps)
def rt (L start : Nat) : Nat → Nat → Bool
  | 0, place => Nat.beq place start
  | fu + 1, place => bif Nat.beq place start then true else force (dg L place) fun p => rt L start fu p
def lcF (one other : Nat) : Nat → Nat → Nat → Nat
  | 0, m, _ => m
  | fu + 1, m, i => bif Nat.ble other i then m else bif Nat.beq (Nat.mod m other) 0 then m else force (Nat.add m one) fun m2 => lcF one other fu m2 (Nat.succ i)
def perC (L n : Nat) : Nat → Nat → Nat → Nat
  | 0, _, a => a
  | m + 1, k, a => force (roF L k n (dg L k) 1) fun r => force (lcF a r 8 a 1) fun b => perC L n m (Nat.succ k) b
def perM (L n : Nat) : Nat → Nat → Nat → Nat
  | 0, _, a => a
  | m + 1, k, a => force (roF L k n (dg L k) 1) fun r => force (Nat.mul (Nat.div a (Nat.gcd a r)) r) fun b => perM L n m (Nat.succ k) b
def fnd (E p : Nat) : Nat → Nat → Nat
  | 0, i => i
  | fu + 1, i => bif Nat.beq (dg E i) p then i else fnd E p fu (Nat.succ i)
def alB : Nat → (Nat → Bool) → Bool
  | 0, _ => true
  | k + 1, p => bif p k then alB k p else false
theorem alB_at : ∀ {n : Nat} {p : Nat → Bool}, alB n p = true → ∀ x, x < n → p x = true
  | 0, p, _, x, hx => absurd hx (Nat.not_lt_zero _)
  | n + 1, p, h, x, hx => by
    simp only [alB] at h
    cases c : p n with
    | false => simp [c] at h
    | true =>
      rw [c] at h
      by_cases c2 : x = n
      · rw [c2]
        exact c
      · exact alB_at h x (by omega)
def chk3 (n L H r : Nat) : Bool := bif Nat.beq (rgO L n n 0 0 0) r then bif Nat.beq (rjO L n n 0 (cd (fun i => i) n) n) r then bif Bool.xor (alB n fun s => Nat.beq (dg L s) s) (Nat.beq r n) then false else bif Nat.beq (perC L n n 0 1) (perM H n n 0 1) then alB n fun k => rt H k n (dg H k) else false else false else false
def chkP (n L : Nat) : Bool := force (cd (fun p => fnd L p n 0) n) fun H => force (rgO H 128 n 0 0 0) fun r => chk3 n L H r
def usd (E x : Nat) : Nat → Bool
  | 0 => false
  | i + 1 => bif Nat.beq (dg E i) x then true else usd E x i
def en (n : Nat) : Nat → Nat → Nat → Bool
  | 0, _, E => chkP n E
  | k + 1, m, E => alB n fun x => bif usd E x m then true else force (Nat.add E (Nat.mul x (Nat.pow 8 m))) fun E2 => en n k (Nat.succ m) E2
theorem en_2 : en 2 2 0 0 = true := by decide +kernel
theorem en_3 : en 3 3 0 0 = true := by decide +kernel
theorem en_4 : en 4 4 0 0 = true := by decide +kernel
theorem en_5 : en 5 5 0 0 = true := by decide +kernel
theorem en_6 : en 6 6 0 0 = true := by decide +kernel
