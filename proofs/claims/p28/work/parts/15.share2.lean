/-! shares, as said for all -/
theorem nn_ok {r : UInt64} (h : nn r = true) : vf_n64 r := by
  unfold nn at h
  unfold vf_n64
  exact of_decide_eq_true h
theorem ckS_all {a b : Nat} (h : a ≤ b) (hb : b ≤ 144) : ckS a b = true := by
  have go : ∀ m, (alB 18 (fun b => alB (Nat.succ (Nat.add m b)) (fun a => ckS a (Nat.add m b))) = true) → m ≤ b → b < m + 18 → ckS a b = true := by
    intro m hm h1 h2
    have h3 := alB_at hm (b - m) (by omega)
    have e : Nat.add m (b - m) = b := by
      show m + (b - m) = b
      omega
    rw [e] at h3
    exact alB_at h3 a (Nat.lt_succ_of_le h)
  by_cases c8 : b = 144
  · rw [c8] at h ⊢
    exact alB_at sh_8 a (by omega)
  by_cases c0 : b < 18
  · exact go 0 sh_0 (by omega) (by omega)
  by_cases c1 : b < 36
  · exact go 18 sh_1 (by omega) (by omega)
  by_cases c2 : b < 54
  · exact go 36 sh_2 (by omega) (by omega)
  by_cases c3 : b < 72
  · exact go 54 sh_3 (by omega) (by omega)
  by_cases c4 : b < 90
  · exact go 72 sh_4 (by omega) (by omega)
  by_cases c5 : b < 108
  · exact go 90 sh_5 (by omega) (by omega)
  by_cases c6 : b < 126
  · exact go 108 sh_6 (by omega) (by omega)
  exact go 126 sh_7 (by omega) (by omega)
theorem shr_ok (a b : Nat) (h1 : a ≤ b) (h2 : 0 < b) (h3 : b ≤ 144) : vf_n64 (shr a b) := by
  have h := ckS_all h1 h3
  unfold ckS at h
  cases c : Nat.beq b 0 with
  | true => exact absurd (Nat.eq_of_beq_eq_true c) (by omega)
  | false =>
    rw [c] at h
    exact nn_ok (Bool.and_eq_true_iff.mp h).1
theorem shr_bits (a b : Nat) (h1 : a ≤ b) (h2 : 0 < b) (h3 : b ≤ 144) : bitsC (shr a b) = some (shr a b).toInt64 := by
  have h := ckS_all h1 h3
  unfold ckS at h
  cases c : Nat.beq b 0 with
  | true => exact absurd (Nat.eq_of_beq_eq_true c) (by omega)
  | false =>
    rw [c] at h
    exact of_decide_eq_true (Bool.and_eq_true_iff.mp h).2
