theorem rgI_id (L : Nat) : ∀ fu s p, rgI L fu s p = rgI L fu s p := fun _ _ _ => rfl
theorem rgO_le (L fu : Nat) : ∀ m k s f, rgO L fu m k s f ≤ f + m
  | 0, k, s, f => Nat.le_refl _
  | m + 1, k, s, f => by
    have := rgO_le L fu m (k + 1) (rgI L fu s k) (if bt s k = 0 then f + 1 else f)
    rw [rgO_s]
    split at this
    · rename_i c
      rw [if_pos c]
      omega
    · rename_i c
      rw [if_neg c]
      omega
theorem rgV_lt {y : Lf} (h : Wok y.1 y.2) : rgV y < 2 ^ 31 := by
  have := rgO_le (cd (wH y.2 y.2.length) y.1) 128 y.1 0 0 0
  have h7 := h.2.1
  unfold rgV
  omega
