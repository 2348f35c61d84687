theorem rsChange_v {bd : Bd} {p : Int32} {how : Nat} (h : hasB bd p) : (rsChange bd p how).1 = 0 ∨ (rsChange bd p how).1 = 2 := by
  unfold rsChange
  rw [cif_pos h]
  exact rsS_v _
theorem rsJoin_v {bd : Bd} {p q : Int32} : ((rsJoin bd p q).1 = 3 ∧ ¬ (hasB bd p ∧ hasB bd q)) ∨ ((hasB bd p ∧ hasB bd q) ∧ ((rsJoin bd p q).1 ≠ 3 ∧ (rsJoin bd p q).1 < 8)) := by
  unfold rsJoin
  by_cases c1 : hasB bd p ∧ hasB bd q
  · rw [cif_pos c1]
    refine Or.inr ⟨c1, ?_⟩
    by_cases c2 : (lfP bd p).1 = (lfP bd q).1
    · rw [cif_pos c2]
      by_cases c3 : (lfP bd p).2.length + (lfP bd q).2.length ≤ 24
      · rw [cif_pos c3]
        rcases rsS_v ((lfP bd p).1, (lfP bd p).2 ++ (lfP bd q).2) with e | e <;> omega
      · rw [cif_neg c3]
        show 1 ≠ 3 ∧ 1 < 8
        omega
    · rw [cif_neg c2]
      show 5 ≠ 3 ∧ 5 < 8
      omega
  · rw [cif_neg c1]
    exact Or.inl ⟨rfl, c1⟩
theorem u7_upTo {P : Sk} {f : St} {p : Int32} {m : Nat} {K : St → Prop} {X : String → St → Prop} (hm : m < 2 ^ 31) (hK : ¬ p < 0 → p.toNatClampNeg < m + 1 → K f) (hX : ¬ (¬ p < 0 ∧ p.toNatClampNeg < m + 1) → X "java/lang/IllegalArgumentException" f) : kX7_needUpTo P f p (nI m) K X := by
  show vX7_needUpTo P f p (nI m) K X
  unfold vX7_needUpTo jX7_needUpTo_9
  refine ⟨fun q => hX (fun h => h.1 q), fun q => ?_⟩
  obtain ⟨j, hj, rfl⟩ := nI_of q
  rw [nI_clamp hj] at hK hX
  rw [nI_leI hj hm]
  exact ⟨fun q2 => hK q (by omega), fun q2 => hX (fun h => by have := h.2; omega)⟩
theorem c_addC {P : Sk} {f : St} {x : Nat} {A : Ab} {K : St → Prop} (hC : CompIs f x A) (hK : ∀ g, Fr f g (x + 4) (x + 5) → CompIs g x (adC A.1, A.2) → K g) : kX0_addChange P f (x + 4) K := by
  show vX0_addChange P f (x + 4) K
  unfold vX0_addChange
  intro g e
  have r : Fr f g (x + 4) (x + 5) := by
    rw [e]
    exact fr_setf _ (by omega) (by omega)
  obtain ⟨h1, ⟨b1, b2, b3, b4, b5⟩, h3, h4, h5, h6, h7⟩ := hC
  refine hK g r ⟨h1.out r (by omega), ⟨?_, ?_, ?_, ?_, fun i hi => (b5 i hi).out r (by omega)⟩, h3.out h7 r (by omega), h4.out r (by omega) (by omega), h5, h6, h7⟩
  · rw [e, setf_off (Or.inr (by omega))]
    exact b1
  · rw [e, setf_same, b2]
    rfl
  · rw [e, setf_off (Or.inr (by omega))]
    exact b3
  · rw [e, setf_off (Or.inr (by omega))]
    exact b4
