/-! looks of the reference -/
def LkM (f : St) (a : Nat) (v : Int32) (K : Int32 → St → Prop) : Prop := ∀ g, Sc9 f g a → K v g
theorem FinM.lk {f g : St} {a : Nat} {v : Int32} {A : Ab} {K : Int32 → St → Prop} (hF : FinM f a (0, v, A) K) (M : MIs g a A) (z : g a 0 = 0) (r : An f g a) : LkM g a v K := fun h s => hF.ok (M.scr s.scr) (by rw [s.2 0 (by omega)]; exact z) (MF.trans r s.scr.an)
theorem LkM.fr {f g : St} {a : Nat} {v : Int32} {K : Int32 → St → Prop} (h : LkM f a v K) (r : Sc9 f g a) : LkM g a v K := fun k s => h k (MF.trans r s)
theorem Sc9.refl (f : St) (a : Nat) : Sc9 f f a := MF.refl _ _ _ _
theorem Sc9.tr {f g h : St} {a : Nat} (r : Sc9 f g a) (s : Sc9 g h a) : Sc9 f h a := MF.trans r s
theorem StM.sc9 {f g : St} {a o : Nat} {bd : Bd} (h : StM f (a + 1) o bd) (r : Sc9 f g a) : StM g (a + 1) o bd := h.row (r.1 (a + 1) (by omega) (fun i hi => by omega))
theorem sc_w {f g : St} {a : Nat} {J : Nat → Prop} (r : MF f g a (fun i => i = 5) J) (h : ∀ j, J j → j = 9 ∨ j = 10) : Sc9 f g a := r.mono (fun i hi => by omega) (fun j hj => by have := h j hj; omega)
theorem sc_k {f g : St} {a : Nat} (r : MF f g a (fun i => 6 ≤ i ∧ i ≤ 8) (fun j => j = 14 ∨ j = 15)) : Sc9 f g a := r.mono (fun i hi => by omega) (fun j hj => by omega)
theorem MO.keep {f g : St} {m : Nat} {w : List Nat} {A J : Nat → Prop} (h : MO f m w) (hf : MF f g m A J) (hA : ∀ i, A i → i ≠ 9) (hJ : ¬ J 17) : MO g m w := by
  unfold MO at h ⊢
  rw [hf.2 17 hJ, hf.1 (m + 9) (by omega) (fun i hi => by have := hA i hi; omega)]
  exact h
theorem u8_in0 {P : Sk} {f : St} {v : Int32} {m : Nat} {K : Int32 → St → Prop} (hm : m + 1 < 2 ^ 30) (hK1 : (¬ v < 0 ∧ v.toNatClampNeg < m + 1) → K 1 f) (hK0 : ¬ (¬ v < 0 ∧ v.toNatClampNeg < m + 1) → K 0 f) : kX8_in P f v 0 (nI m) K := by
  have hi := lt_iff2 (p := v) hm
  refine u8_in (fun q1 q2 => hK1 (hi.mpr ⟨q1, q2⟩)) (fun q => hK0 (fun h => ?_))
  have h4 := hi.mp h
  rcases q with q | q
  · exact h4.1 q
  · exact h4.2 q
/-- a loaf is taken to be worked on -/
theorem u8_take {P : Sk} {f : St} {a : Nat} {p : Int32} {bd : Bd} {K : St → Prop} (hS : StM f (a + 1) 0 bd) (hb : Bok bd) (hp : hasB bd p) (hK : ∀ g, MF f g a (fun i => i = 5) (fun j => j = 9 ∨ j = 10) → MW g a (lfP bd p).2 → g a 10 = nI (lfP bd p).1 → K g) : kX8_takes P f a p K := by
  have h6 := hb.1
  have h2 := hp.2
  exact ⟨p.toNatClampNeg, lfP bd p, nI_cl hp.1, by omega, hS.has hp, (hb.has hp).1, hK⟩
/-- ... and gone through -/
theorem u8_walked {P : Sk} {f : St} {a : Nat} {p : Int32} {bd : Bd} {K : St → Prop} (hS : StM f (a + 1) 0 bd) (hb : Bok bd) (hp : hasB bd p) (hK : ∀ g, Sc9 f g a → MW g a (lfP bd p).2 → g a 10 = nI (lfP bd p).1 → WkM g a (lfP bd p).2 (lfP bd p).2.length → K g) : kX8_takes P f a p (fun g2 => kX8_walks P g2 a (g2 a 9) (fun g => K g)) := by
  refine u8_take hS hb hp (fun g1 r1 m1 n1 => ?_)
  refine ⟨_, _, (lfP bd p).2.length, m1.1, Nat.le_refl _, m1, (hb.has hp).1, fun g r W _ => hK g ((sc_w r1 (fun j h => h)).tr (sc_k r)) (m1.keep r (fun i hi => by omega) (by omega)) ?_ W⟩
  rw [r.2 10 (by omega)]
  exact n1
