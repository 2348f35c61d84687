def vX7_crossing (P : Sk) (f : St) (a : Nat) (p1 : Int32) (p2 : Int32) (p3 : Int32) (K : Int32 → St → Prop) (X : String → St → Prop) : Prop :=
  kX7_needLoaf P f a p1 (fun g2 => kX7_needUpTo P g2 p2 23 (fun g8 => kX7_needUpTo P g8 p3 3 (fun g13 => kX2_numberOfCrossing P g13 (atB (a + 4) p1) p2 p3 (fun r26 g26 => K r26 g26)) X) X) X
set_option maxRecDepth 20000 in
set_option maxHeartbeats 4000000 in
theorem mX7_crossing (l : Launch) (G : Gl) (P : Sk) (f : St) (sz : Nat) (a : Nat) (ha : IsComp P a) (p1 : Int32) (p2 : Int32) (p3 : Int32) (K : Int32 → St → Prop) (h : vX7_crossing P f a p1 p2 p3 K XF)  :
  Met l yX7_crossing (wU yX7_crossing cX7_crossing 4 (some .int)) rmX7_crossing (PcW G P f sz [.ref a, .int p1, .int p2, .int p3]) (QcI G P sz K) 0 0 (frA P sz) := by
  refine v_met (own := RX7) [.ref a, .int p1, .int p2, .int p3] (by decide +kernel) rfl (Nat.le_of_ble_eq_true rfl) (fun p e s m args below meth c hsz o hr hnm => ?_)
  refine v_lv (lv2 := [(0, .ref a), (1, .int p1), (2, .int p2), (3, .int p3)]) rfl ?_
  unfold vX7_crossing at h
  refine v_aload_n o 0 dX7_crossing_0 rfl ?_
  refine v_iload_n o 1 dX7_crossing_1 rfl ?_
  refine v_cVv o [.int p1] [] (fun sz => metX7_needLoaf l G P f sz a ha p1 _ h) (cwX7_98 o.1.2.2.2.2 (by decide)) ⟨_, _, rfl⟩ (by decide) (wfComp_o ha) rfl (Nat.le_of_ble_eq_true rfl) ⟨Nat.le_of_ble_eq_true rfl, Nat.le_of_ble_eq_true rfl⟩ dX7_crossing_2 rfl (fun g2 h => ?_)
  refine v_iload_n o 2 dX7_crossing_5 rfl ?_
  refine v_bipush o (v := 23) dX7_crossing_6 (by decide) ?_
  refine v_cSv o [.int p2, .int 23] [] (fun sz => metX7_needUpTo l G P g2 sz p2 23 _ h) (cwX7_137 o.1.2.2.2.2 (by decide)) rfl (Nat.le_of_ble_eq_true rfl) ⟨Nat.le_of_ble_eq_true rfl, Nat.le_of_ble_eq_true rfl⟩ dX7_crossing_8 rfl (fun g8 h => ?_)
  refine v_iload_n o 3 dX7_crossing_11 rfl ?_
  refine v_iconst o (v := 3) dX7_crossing_12 (by decide) ?_
  refine v_cSv o [.int p3, .int 3] [] (fun sz => metX7_needUpTo l G P g8 sz p3 3 _ h) (cwX7_137 o.1.2.2.2.2 (by decide)) rfl (Nat.le_of_ble_eq_true rfl) ⟨Nat.le_of_ble_eq_true rfl, Nat.le_of_ble_eq_true rfl⟩ dX7_crossing_13 rfl (fun g13 h => ?_)
  refine v_aload_n o 0 dX7_crossing_16 rfl ?_
  refine v_gfR o lkX7_19 (by decide) (wfComp_o ha) (wfComp_r1 ha) dX7_crossing_17 ?_
  refine v_iload_n o 1 dX7_crossing_20 rfl ?_
  refine v_cVr o [.int p1] [] (fun sz => metX0_at l G P g13 sz (a + 4) (wfComp_t1 ha) p1) (cwX7_102 o.1.2.2.2.2 (by decide)) ⟨_, _, rfl⟩ (by decide) (wfBoard_o (wfComp_t1 ha)) rfl (Nat.le_of_ble_eq_true rfl) ⟨Nat.le_of_ble_eq_true rfl, Nat.le_of_ble_eq_true rfl⟩ dX7_crossing_21 rfl (fun r21 g21 h21 => ?_)
  obtain ⟨rfl, rfl⟩ := h21
  refine v_iload_n o 2 dX7_crossing_24 rfl ?_
  refine v_iload_n o 3 dX7_crossing_25 rfl ?_
  refine v_cVi o [.int p2, .int p3] [] (fun sz => metX2_numberOfCrossing l G P g13 sz (atB (a + 4) p1) (is_atB (wfComp_t1 ha) p1) p2 p3 _ h) (cwX7_200 o.1.2.2.2.2 (by decide)) ⟨_, _, rfl⟩ (by decide) (wfLoaf_o (is_atB (wfComp_t1 ha) p1)) rfl (Nat.le_of_ble_eq_true rfl) ⟨Nat.le_of_ble_eq_true rfl, Nat.le_of_ble_eq_true rfl⟩ dX7_crossing_26 rfl (fun r26 g26 h => ?_)
  exact v_iret o rfl hr dX7_crossing_29 h
abbrev kX7_crossing := @vX7_crossing
abbrev metX7_crossing := @mX7_crossing
/-- a look: nothing of the state has changed -/
def Look (f : St) (x : Nat) (A : Ab) (v : Int32) (K : Int32 → St → Prop) : Prop := ∀ g, Fr f g x (x + 1438) → CompIs g x A → K v g
theorem TraceIs.out2 {f g : St} {t n lo hi : Nat} {w : List Nat} (h : TraceIs f t n w) (hf : Fr f g lo hi) (ho : t + 13 ≤ lo ∨ hi ≤ t) : TraceIs g t n w := by
  refine ⟨h.1.fr (hf _ (by omega)) (hf _ (by omega)) (hf _ (by omega)) (hf _ (by omega)) (hf _ (by omega)) (hf _ (by omega)), fun s hs => ?_⟩
  rw [hf _ (by omega)]
  exact h.2 s hs
theorem CompIs.rings {f g : St} {x : Nat} {A : Ab} {p : Int32} (h : CompIs f x A) (hp : hasB A.1 p) (hf : ∀ q, q ≠ atB (x + 4) p + 7 + 13 + 1 → g q = f q) : CompIs g x A := by
  obtain ⟨h1, h2, h3, h4, h5, h6, h7⟩ := h
  have hin := atB_in (b := x + 4) h6 hp
  have e := atB_p (b := x + 4) h6 hp
  have r : Fr f g (atB (x + 4) p + 21) (atB (x + 4) p + 22) := fun q hq => hf q (by omega)
  refine ⟨h1.out r (by omega), ?_, h3.out h7 r (by omega), h4.out r (by omega) (by omega), h5, h6, h7⟩
  obtain ⟨b1, b2, b3, b4, b5⟩ := h2
  have ea := r (x + 4) (by omega)
  refine ⟨by rw [ea]; exact b1, by rw [ea]; exact b2, by rw [ea]; exact b3, by rw [ea]; exact b4, fun i hi => ?_⟩
  obtain ⟨l1, l2, l3⟩ := b5 i hi
  have hl6 := h6.1
  exact ⟨l1.out r (by omega), l2.out r (by omega), l3.out2 r (by omega)⟩
noncomputable def opCrossing (A : Ab) (p q w : Int32) : Re := cif (hasB A.1 p) (cif ((¬ q < 0 ∧ q.toNatClampNeg < 24) ∧ (¬ w < 0 ∧ w.toNatClampNeg < 4)) (0, if q.toNatClampNeg < (lfP A.1 p).2.length then nI (crN (lfP A.1 p).2 q.toNatClampNeg w.toNatClampNeg) else -1, A) (2, 0, A)) (1, 0, A)
theorem u7_crossing {P : Sk} {f : St} {x : Nat} {A : Ab} {p q w : Int32} {K : Int32 → St → Prop} {X : String → St → Prop} (hx : IsComp P x) (hC : CompIs f x A) (hK : Fin f x (opCrossing A p q w) K X "java/lang/IndexOutOfBoundsException" "java/lang/IllegalArgumentException" "") : kX7_crossing P f x p q w K X := by
  show vX7_crossing P f x p q w K X
  unfold vX7_crossing
  have h6 := hC.2.2.2.2.2.1
  unfold opCrossing at hK
  refine u7_needLoaf hC (fun h => ?_) (fun h => ?_)
  · rw [cif_pos h] at hK
    have no : ¬ ((¬ q < 0 ∧ q.toNatClampNeg < 24) ∧ (¬ w < 0 ∧ w.toNatClampNeg < 4)) → X "java/lang/IllegalArgumentException" f := by
      intro h
      rw [cif_neg h] at hK
      exact (hK f (Fr.refl _ _ _) hC).2.2.1 rfl
    refine u7_upTo (m := 23) (by decide) (fun c1 c2 => ?_) (fun c => no (fun k => c k.1))
    refine u7_upTo (m := 3) (by decide) (fun d1 d2 => ?_) (fun c => no (fun k => c k.2))
    rw [cif_pos ⟨⟨c1, c2⟩, ⟨d1, d2⟩⟩] at hK
    have h4 : K (if q.toNatClampNeg < (lfP A.1 p).2.length then nI (crN (lfP A.1 p).2 q.toNatClampNeg w.toNatClampNeg) else -1) f := (hK f (Fr.refl _ _ _) hC).1 rfl
    rw [nI_cl c1, nI_cl d1]
    refine u2_numberOfCrossing (is_atB (wfComp_t1 hx) p) (h6.has h).1 (hC.2.1.atP h6 h) c2 d2 (fun e => ?_) (fun e => ?_)
    · rw [if_pos e] at h4
      exact h4
    · rw [if_neg e] at h4
      exact h4
  · rw [cif_neg h] at hK
    exact (hK f (Fr.refl _ _ _) hC).2.1 rfl

def vX7_strand (P : Sk) (f : St) (a : Nat) (p1 : Int32) (p2 : Int32) (p3 : Int32) (K : Int32 → St → Prop) (X : String → St → Prop) : Prop :=
  kX7_needLoaf P f a p1 (fun g2 => kX7_needUpTo P g2 p2 6 (fun g8 => kX7_needUpTo P g8 p3 4 (fun g13 => kX5_numberOfStrand P g13 ((atB (a + 4) p1) + 7) p2 p3 (fun r29 g29 => K r29 g29)) X) X) X
set_option maxRecDepth 20000 in
set_option maxHeartbeats 4000000 in
theorem mX7_strand (l : Launch) (G : Gl) (P : Sk) (f : St) (sz : Nat) (a : Nat) (ha : IsComp P a) (p1 : Int32) (p2 : Int32) (p3 : Int32) (K : Int32 → St → Prop) (h : vX7_strand P f a p1 p2 p3 K XF)  :
  Met l yX7_strand (wU yX7_strand cX7_strand 4 (some .int)) rmX7_strand (PcW G P f sz [.ref a, .int p1, .int p2, .int p3]) (QcI G P sz K) 0 0 (frA P sz) := by
  refine v_met (own := RX7) [.ref a, .int p1, .int p2, .int p3] (by decide +kernel) rfl (Nat.le_of_ble_eq_true rfl) (fun p e s m args below meth c hsz o hr hnm => ?_)
  refine v_lv (lv2 := [(0, .ref a), (1, .int p1), (2, .int p2), (3, .int p3)]) rfl ?_
  unfold vX7_strand at h
  refine v_aload_n o 0 dX7_strand_0 rfl ?_
  refine v_iload_n o 1 dX7_strand_1 rfl ?_
  refine v_cVv o [.int p1] [] (fun sz => metX7_needLoaf l G P f sz a ha p1 _ h) (cwX7_98 o.1.2.2.2.2 (by decide)) ⟨_, _, rfl⟩ (by decide) (wfComp_o ha) rfl (Nat.le_of_ble_eq_true rfl) ⟨Nat.le_of_ble_eq_true rfl, Nat.le_of_ble_eq_true rfl⟩ dX7_strand_2 rfl (fun g2 h => ?_)
  refine v_iload_n o 2 dX7_strand_5 rfl ?_
  refine v_bipush o (v := 6) dX7_strand_6 (by decide) ?_
  refine v_cSv o [.int p2, .int 6] [] (fun sz => metX7_needUpTo l G P g2 sz p2 6 _ h) (cwX7_137 o.1.2.2.2.2 (by decide)) rfl (Nat.le_of_ble_eq_true rfl) ⟨Nat.le_of_ble_eq_true rfl, Nat.le_of_ble_eq_true rfl⟩ dX7_strand_8 rfl (fun g8 h => ?_)
  refine v_iload_n o 3 dX7_strand_11 rfl ?_
  refine v_iconst o (v := 4) dX7_strand_12 (by decide) ?_
  refine v_cSv o [.int p3, .int 4] [] (fun sz => metX7_needUpTo l G P g8 sz p3 4 _ h) (cwX7_137 o.1.2.2.2.2 (by decide)) rfl (Nat.le_of_ble_eq_true rfl) ⟨Nat.le_of_ble_eq_true rfl, Nat.le_of_ble_eq_true rfl⟩ dX7_strand_13 rfl (fun g13 h => ?_)
  refine v_aload_n o 0 dX7_strand_16 rfl ?_
  refine v_gfR o lkX7_19 (by decide) (wfComp_o ha) (wfComp_r1 ha) dX7_strand_17 ?_
  refine v_iload_n o 1 dX7_strand_20 rfl ?_
  refine v_cVr o [.int p1] [] (fun sz => metX0_at l G P g13 sz (a + 4) (wfComp_t1 ha) p1) (cwX7_102 o.1.2.2.2.2 (by decide)) ⟨_, _, rfl⟩ (by decide) (wfBoard_o (wfComp_t1 ha)) rfl (Nat.le_of_ble_eq_true rfl) ⟨Nat.le_of_ble_eq_true rfl, Nat.le_of_ble_eq_true rfl⟩ dX7_strand_21 rfl (fun r21 g21 h21 => ?_)
  obtain ⟨rfl, rfl⟩ := h21
  refine v_cVr o [] [] (fun sz => metX2_trace l G P g13 sz (atB (a + 4) p1) (is_atB (wfComp_t1 ha) p1)) (cwX7_124 o.1.2.2.2.2 (by decide)) ⟨_, _, rfl⟩ (by decide) (wfLoaf_o (is_atB (wfComp_t1 ha) p1)) rfl (Nat.le_of_ble_eq_true rfl) ⟨Nat.le_of_ble_eq_true rfl, Nat.le_of_ble_eq_true rfl⟩ dX7_strand_24 rfl (fun r24 g24 h24 => ?_)
  obtain ⟨rfl, rfl⟩ := h24
  refine v_iload_n o 2 dX7_strand_27 rfl ?_
  refine v_iload_n o 3 dX7_strand_28 rfl ?_
  refine v_cVi o [.int p2, .int p3] [] (fun sz => metX5_numberOfStrand l G P g13 sz ((atB (a + 4) p1) + 7) (wfLoaf_t2 (is_atB (wfComp_t1 ha) p1)) p2 p3 _ h) (cwX7_203 o.1.2.2.2.2 (by decide)) ⟨_, _, rfl⟩ (by decide) (wfTrace_o (wfLoaf_t2 (is_atB (wfComp_t1 ha) p1))) rfl (Nat.le_of_ble_eq_true rfl) ⟨Nat.le_of_ble_eq_true rfl, Nat.le_of_ble_eq_true rfl⟩ dX7_strand_29 rfl (fun r29 g29 h => ?_)
  exact v_iret o rfl hr dX7_strand_32 h
abbrev kX7_strand := @vX7_strand
abbrev metX7_strand := @mX7_strand
noncomputable def opStrand (A : Ab) (p q w : Int32) : Re := cif (hasB A.1 p) (cif ((¬ q < 0 ∧ q.toNatClampNeg < 7) ∧ (¬ w < 0 ∧ w.toNatClampNeg < 5)) (0, if q.toNatClampNeg < (lfP A.1 p).1 then nI (stN (lfP A.1 p).1 (lfP A.1 p).2 q.toNatClampNeg w.toNatClampNeg) else -1, A) (2, 0, A)) (1, 0, A)
theorem u7_strand {P : Sk} {f : St} {x : Nat} {A : Ab} {p q w : Int32} {K : Int32 → St → Prop} {X : String → St → Prop} (hx : IsComp P x) (hC : CompIs f x A) (hK : Fin f x (opStrand A p q w) K X "java/lang/IndexOutOfBoundsException" "java/lang/IllegalArgumentException" "") : kX7_strand P f x p q w K X := by
  show vX7_strand P f x p q w K X
  unfold vX7_strand
  have h6 := hC.2.2.2.2.2.1
  unfold opStrand at hK
  refine u7_needLoaf hC (fun h => ?_) (fun h => ?_)
  · rw [cif_pos h] at hK
    have no : ¬ ((¬ q < 0 ∧ q.toNatClampNeg < 7) ∧ (¬ w < 0 ∧ w.toNatClampNeg < 5)) → X "java/lang/IllegalArgumentException" f := by
      intro h
      rw [cif_neg h] at hK
      exact (hK f (Fr.refl _ _ _) hC).2.2.1 rfl
    refine u7_upTo (m := 6) (by decide) (fun c1 c2 => ?_) (fun c => no (fun k => c k.1))
    refine u7_upTo (m := 4) (by decide) (fun d1 d2 => ?_) (fun c => no (fun k => c k.2))
    rw [cif_pos ⟨⟨c1, c2⟩, ⟨d1, d2⟩⟩] at hK
    have h4 : K (if q.toNatClampNeg < (lfP A.1 p).1 then nI (stN (lfP A.1 p).1 (lfP A.1 p).2 q.toNatClampNeg w.toNatClampNeg) else -1) f := (hK f (Fr.refl _ _ _) hC).1 rfl
    rw [nI_cl c1, nI_cl d1]
    refine u5_numberOfStrand (wfLoaf_t2 (is_atB (wfComp_t1 hx) p)) (h6.has h).1 (h6.has h).2 (hC.2.1.atP h6 h).2.2 c2 d2 (fun e => ?_) (fun e => ?_)
    · rw [if_pos e] at h4
      exact h4
    · rw [if_neg e] at h4
      exact h4
  · rw [cif_neg h] at hK
    exact (hK f (Fr.refl _ _ _) hC).2.1 rfl

def vX7_whyNot (P : Sk) (f : St) (a : Nat) (p1 : Int32) (p2 : Int32) (p3 : Int32) (K : Int32 → St → Prop) (X : String → St → Prop) : Prop :=
  kX7_needPlace P f a p1 p2 (fun g3 => kX7_tryCrossing P g3 a p1 p2 p3 (fun r10 g10 => K r10 g10)) X
set_option maxRecDepth 20000 in
set_option maxHeartbeats 4000000 in
theorem mX7_whyNot (l : Launch) (G : Gl) (P : Sk) (f : St) (sz : Nat) (a : Nat) (ha : IsComp P a) (p1 : Int32) (p2 : Int32) (p3 : Int32) (K : Int32 → St → Prop) (h : vX7_whyNot P f a p1 p2 p3 K XF)  :
  Met l yX7_whyNot (wU yX7_whyNot cX7_whyNot 4 (some .int)) rmX7_whyNot (PcW G P f sz [.ref a, .int p1, .int p2, .int p3]) (QcI G P sz K) 0 0 (frA P sz) := by
  refine v_met (own := RX7) [.ref a, .int p1, .int p2, .int p3] (by decide +kernel) rfl (Nat.le_of_ble_eq_true rfl) (fun p e s m args below meth c hsz o hr hnm => ?_)
  refine v_lv (lv2 := [(0, .ref a), (1, .int p1), (2, .int p2), (3, .int p3)]) rfl ?_
  unfold vX7_whyNot at h
  refine v_aload_n o 0 dX7_whyNot_0 rfl ?_
  refine v_iload_n o 1 dX7_whyNot_1 rfl ?_
  refine v_iload_n o 2 dX7_whyNot_2 rfl ?_
  refine v_cVv o [.int p1, .int p2] [] (fun sz => metX7_needPlace l G P f sz a ha p1 p2 _ h) (cwX7_110 o.1.2.2.2.2 (by decide)) ⟨_, _, rfl⟩ (by decide) (wfComp_o ha) rfl (Nat.le_of_ble_eq_true rfl) ⟨Nat.le_of_ble_eq_true rfl, Nat.le_of_ble_eq_true rfl⟩ dX7_whyNot_3 rfl (fun g3 h => ?_)
  refine v_aload_n o 0 dX7_whyNot_6 rfl ?_
  refine v_iload_n o 1 dX7_whyNot_7 rfl ?_
  refine v_iload_n o 2 dX7_whyNot_8 rfl ?_
  refine v_iload_n o 3 dX7_whyNot_9 rfl ?_
  refine v_cVi o [.int p1, .int p2, .int p3] [] (fun sz => metX7_tryCrossing l G P g3 sz a ha p1 p2 p3 _ h) (cwX7_114 o.1.2.2.2.2 (by decide)) ⟨_, _, rfl⟩ (by decide) (wfComp_o ha) rfl (Nat.le_of_ble_eq_true rfl) ⟨Nat.le_of_ble_eq_true rfl, Nat.le_of_ble_eq_true rfl⟩ dX7_whyNot_10 rfl (fun r10 g10 h => ?_)
  exact v_iret o rfl hr dX7_whyNot_13 h
abbrev kX7_whyNot := @vX7_whyNot
abbrev metX7_whyNot := @mX7_whyNot
noncomputable def opWhy (A : Ab) (p q : Int32) (r : Nat) : Re := if (rsCross A.1 p q r).1 < 3 then (0, nI (rsCross A.1 p q r).1, A) else (1, 0, A)
theorem u7_whyNot {P : Sk} {f : St} {x r : Nat} {A : Ab} {p q : Int32} {K : Int32 → St → Prop} {X : String → St → Prop} (hx : IsComp P x) (hC : CompIs f x A) (hr : r < 2) (hK : Fin f x (opWhy A p q r) K X "java/lang/IndexOutOfBoundsException" "" "") : kX7_whyNot P f x p q (nI r) K X := by
  show vX7_whyNot P f x p q (nI r) K X
  unfold vX7_whyNot
  unfold opWhy at hK
  refine u7_needPlace hC (fun h1 h2 => ?_) (fun h => ?_)
  · rw [if_pos (rsCross_v h1 h2)] at hK
    exact u7_tryCrossing hx hC hr (fun g1 r1 q1 => (hK g1 (r1.mono (by omega) (by omega)) (hC.out r1 (by omega))).1 rfl)
  · have hn := rsCross_n (r := r) h
    rw [if_neg (by omega)] at hK
    exact (hK f (Fr.refl _ _ _) hC).2.1 rfl

def bX7_likeness_35 (P : Sk) (a : Nat) (p1 : Int32) (p2 : Int32) (L35 : St → Nat → Int32 → Prop) (K : Int32 → St → Prop) (f : St) (x3 : Nat) (x4 : Int32) : Prop :=
  (2 < x4 → K 0 f) ∧ (¬ 2 < x4 → kX6_makeChanged P f (a + 1432) ((atB (a + 4) p1) + 1) x4 (fun g58 => kX6_makeLoose P g58 (a + 1435) (a + 1432) (fun g69 => kX6_isSame P g69 (a + 1435) x3 (fun r77 g77 => (r77 = 0 → ∀ x4_88 : Int32, x4_88 = x4 + 1 → L35 g77 x3 x4_88) ∧ (¬ r77 = 0 → K (2 + x4) g77)))))
def vX7_likeness (P : Sk) (f : St) (a : Nat) (p1 : Int32) (p2 : Int32) (L35 : St → Nat → Int32 → Prop) (K : Int32 → St → Prop) : Prop :=
  kX6_isSame P f ((atB (a + 4) p1) + 4) ((atB (a + 4) p2) + 4) (fun r24 g24 => (r24 = 0 → L35 g24 ((atB (a + 4) p2) + 4) 0) ∧ (¬ r24 = 0 → K 1 g24))
set_option maxRecDepth 20000 in
set_option maxHeartbeats 4000000 in
theorem mX7_likeness (l : Launch) (G : Gl) (P : Sk) (f : St) (sz : Nat) (a : Nat) (ha : IsComp P a) (p1 : Int32) (p2 : Int32) (K : Int32 → St → Prop) (I35 : St → Nat → Int32 → Prop) (μ35 : St → Nat → Int32 → Nat) 
  (h : vX7_likeness P f a p1 p2 I35 K)
  (h35 : ∀ (g : St) (x3 : Nat) (x4 : Int32) , I35 g x3 x4 → bX7_likeness_35 P a p1 p2 (fun g' z0 z1 => I35 g' z0 z1 ∧ μ35 g' z0 z1 < μ35 g x3 x4) K g x3 x4) :
  Met l yX7_likeness (wU yX7_likeness cX7_likeness 5 (some .int)) rmX7_likeness (PcW G P f sz [.ref a, .int p1, .int p2]) (QcI G P sz K) 0 0 (frA P sz) := by
  refine v_met (own := RX7) [.ref a, .int p1, .int p2] (by decide +kernel) rfl (Nat.le_of_ble_eq_true rfl) (fun p e s m args below meth c hsz o hr hnm => ?_)
  refine v_lv (lv2 := [(0, .ref a), (1, .int p1), (2, .int p2)]) rfl ?_
  have main : ∀ n : Nat, (∀ (g : St) (x3 : Nat) (x4 : Int32) , IsWord P x3 → I35 g x3 x4 → μ35 g x3 x4 < n → V p l e rmX7_likeness s m args below meth c 5 G (frA P sz) (MQ below (QcI G P sz K) args s 0 0 (frA P sz)) 0 0 P [(0, .ref a), (1, .int p1), (2, .int p2), (3, .ref x3), (4, .int x4)] [] 35 g) := by
    intro n
    induction n with
    | zero => exact fun g x3 x4 hx3 hI hm => absurd hm (Nat.not_lt_zero _)
    | succ n ih =>
      intro g x3 x4 hx3 hI hm
      have h := h35 g x3 x4 hI
      clear hI
      unfold bX7_likeness_35 at h
      refine v_iload o 4 dX7_likeness_35 rfl ?_
      refine v_iconst o (v := 2) dX7_likeness_37 (by decide) ?_
      refine v_icmp_gt o (tgt := 94) dX7_likeness_38 (by decide) (fun c38 => ?_) (fun c38 => ?_)
      · replace h := h.1 c38
        refine v_iconst o (v := 0) dX7_likeness_94 (by decide) ?_
        exact v_iret o rfl hr dX7_likeness_95 h
      · replace h := h.2 c38
        refine v_aload_n o 0 dX7_likeness_41 rfl ?_
        refine v_gfR o lkX7_47 (by decide) (wfComp_o ha) (wfComp_r6 ha) dX7_likeness_42 ?_
        refine v_aload_n o 0 dX7_likeness_45 rfl ?_
        refine v_gfR o lkX7_19 (by decide) (wfComp_o ha) (wfComp_r1 ha) dX7_likeness_46 ?_
        refine v_iload_n o 1 dX7_likeness_49 rfl ?_
        refine v_cVr o [.int p1] [.ref (a + 1432)] (fun sz => metX0_at l G P g sz (a + 4) (wfComp_t1 ha) p1) (cwX7_102 o.1.2.2.2.2 (by decide)) ⟨_, _, rfl⟩ (by decide) (wfBoard_o (wfComp_t1 ha)) rfl (Nat.le_of_ble_eq_true rfl) ⟨Nat.le_of_ble_eq_true rfl, Nat.le_of_ble_eq_true rfl⟩ dX7_likeness_50 rfl (fun r50 g50 h50 => ?_)
        obtain ⟨rfl, rfl⟩ := h50
        refine v_cVr o [] [.ref (a + 1432)] (fun sz => metX2_word l G P g sz (atB (a + 4) p1) (is_atB (wfComp_t1 ha) p1)) (cwX7_74 o.1.2.2.2.2 (by decide)) ⟨_, _, rfl⟩ (by decide) (wfLoaf_o (is_atB (wfComp_t1 ha) p1)) rfl (Nat.le_of_ble_eq_true rfl) ⟨Nat.le_of_ble_eq_true rfl, Nat.le_of_ble_eq_true rfl⟩ dX7_likeness_53 rfl (fun r53 g53 h53 => ?_)
        obtain ⟨rfl, rfl⟩ := h53
        refine v_iload o 4 dX7_likeness_56 rfl ?_
        refine v_cVv o [.ref ((atB (a + 4) p1) + 1), .int x4] [] (fun sz => metX6_makeChanged l G P g sz (a + 1432) (wfComp_t6 ha) ((atB (a + 4) p1) + 1) (wfLoaf_t0 (is_atB (wfComp_t1 ha) p1)) x4 _ h) (cwX7_279 o.1.2.2.2.2 (by decide)) ⟨_, _, rfl⟩ (by decide) (wfWord_o (wfComp_t6 ha)) rfl (Nat.le_of_ble_eq_true rfl) ⟨Nat.le_of_ble_eq_true rfl, Nat.le_of_ble_eq_true rfl⟩ dX7_likeness_58 rfl (fun g58 h => ?_)
        refine v_aload_n o 0 dX7_likeness_61 rfl ?_
        refine v_gfR o lkX7_51 (by decide) (wfComp_o ha) (wfComp_r7 ha) dX7_likeness_62 ?_
        refine v_aload_n o 0 dX7_likeness_65 rfl ?_
        refine v_gfR o lkX7_47 (by decide) (wfComp_o ha) (wfComp_r6 ha) dX7_likeness_66 ?_
        refine v_cVv o [.ref (a + 1432)] [] (fun sz => metX6_makeLoose l G P g58 sz (a + 1435) (wfComp_t7 ha) (a + 1432) (wfComp_t6 ha) _ h) (cwX7_338 o.1.2.2.2.2 (by decide)) ⟨_, _, rfl⟩ (by decide) (wfWord_o (wfComp_t7 ha)) rfl (Nat.le_of_ble_eq_true rfl) ⟨Nat.le_of_ble_eq_true rfl, Nat.le_of_ble_eq_true rfl⟩ dX7_likeness_69 rfl (fun g69 h => ?_)
        refine v_aload_n o 0 dX7_likeness_72 rfl ?_
        refine v_gfR o lkX7_51 (by decide) (wfComp_o ha) (wfComp_r7 ha) dX7_likeness_73 ?_
        refine v_aload_n o 3 dX7_likeness_76 rfl ?_
        refine v_cVi o [.ref x3] [] (fun sz => metX6_isSame l G P g69 sz (a + 1435) (wfComp_t7 ha) x3 hx3 _ h) (cwX7_334 o.1.2.2.2.2 (by decide)) ⟨_, _, rfl⟩ (by decide) (wfWord_o (wfComp_t7 ha)) rfl (Nat.le_of_ble_eq_true rfl) ⟨Nat.le_of_ble_eq_true rfl, Nat.le_of_ble_eq_true rfl⟩ dX7_likeness_77 rfl (fun r77 g77 h => ?_)
        refine v_if_eq o (tgt := 88) dX7_likeness_80 (by decide) (fun c80 => ?_) (fun c80 => ?_)
        · replace h := h.1 c80
          obtain ⟨x4_88, ex4_88⟩ : ∃ y : Int32, y = x4 + 1 := ⟨_, rfl⟩
          replace h := h x4_88 ex4_88
          refine v_iinc o (v := x4_88) (lv' := [(4, .int x4_88), (0, .ref a), (1, .int p1), (2, .int p2), (3, .ref x3)]) 4 dX7_likeness_88 rfl (by rw [ex4_88]; rfl) (by decide) rfl ?_
          refine v_goto o (tgt := 35) dX7_likeness_91 (by decide) ?_
          refine v_sub [1, 2, 3, 4, 0] (lv2 := [(0, .ref a), (1, .int p1), (2, .int p2), (3, .ref x3), (4, .int x4_88)]) rfl ?_
          exact ih g77 x3 x4_88 hx3 h.1 (by have := h.2; omega)
        · replace h := h.2 c80
          refine v_iconst o (v := 2) dX7_likeness_83 (by decide) ?_
          refine v_iload o 4 dX7_likeness_84 rfl ?_
          refine v_iadd o dX7_likeness_86 ?_
          exact v_iret o rfl hr dX7_likeness_87 h
  unfold vX7_likeness at h
  refine v_aload_n o 0 dX7_likeness_0 rfl ?_
  refine v_gfR o lkX7_19 (by decide) (wfComp_o ha) (wfComp_r1 ha) dX7_likeness_1 ?_
  refine v_iload_n o 2 dX7_likeness_4 rfl ?_
  refine v_cVr o [.int p2] [] (fun sz => metX0_at l G P f sz (a + 4) (wfComp_t1 ha) p2) (cwX7_102 o.1.2.2.2.2 (by decide)) ⟨_, _, rfl⟩ (by decide) (wfBoard_o (wfComp_t1 ha)) rfl (Nat.le_of_ble_eq_true rfl) ⟨Nat.le_of_ble_eq_true rfl, Nat.le_of_ble_eq_true rfl⟩ dX7_likeness_5 rfl (fun r5 g5 h5 => ?_)
  obtain ⟨rfl, rfl⟩ := h5
  refine v_cVr o [] [] (fun sz => metX2_looseWord l G P f sz (atB (a + 4) p2) (is_atB (wfComp_t1 ha) p2)) (cwX7_209 o.1.2.2.2.2 (by decide)) ⟨_, _, rfl⟩ (by decide) (wfLoaf_o (is_atB (wfComp_t1 ha) p2)) rfl (Nat.le_of_ble_eq_true rfl) ⟨Nat.le_of_ble_eq_true rfl, Nat.le_of_ble_eq_true rfl⟩ dX7_likeness_8 rfl (fun r8 g8 h8 => ?_)
  obtain ⟨rfl, rfl⟩ := h8
  refine v_astore_n o (lv' := [(3, .ref ((atB (a + 4) p2) + 4)), (0, .ref a), (1, .int p1), (2, .int p2)]) dX7_likeness_11 rfl (by decide) rfl ?_
  refine v_aload_n o 1 dX7_likeness_12 rfl ?_
  refine v_gfR o lkX7_19 (by decide) (wfComp_o ha) (wfComp_r1 ha) dX7_likeness_13 ?_
  refine v_iload_n o 2 dX7_likeness_16 rfl ?_
  refine v_cVr o [.int p1] [] (fun sz => metX0_at l G P f sz (a + 4) (wfComp_t1 ha) p1) (cwX7_102 o.1.2.2.2.2 (by decide)) ⟨_, _, rfl⟩ (by decide) (wfBoard_o (wfComp_t1 ha)) rfl (Nat.le_of_ble_eq_true rfl) ⟨Nat.le_of_ble_eq_true rfl, Nat.le_of_ble_eq_true rfl⟩ dX7_likeness_17 rfl (fun r17 g17 h17 => ?_)
  obtain ⟨rfl, rfl⟩ := h17
  refine v_cVr o [] [] (fun sz => metX2_looseWord l G P f sz (atB (a + 4) p1) (is_atB (wfComp_t1 ha) p1)) (cwX7_209 o.1.2.2.2.2 (by decide)) ⟨_, _, rfl⟩ (by decide) (wfLoaf_o (is_atB (wfComp_t1 ha) p1)) rfl (Nat.le_of_ble_eq_true rfl) ⟨Nat.le_of_ble_eq_true rfl, Nat.le_of_ble_eq_true rfl⟩ dX7_likeness_20 rfl (fun r20 g20 h20 => ?_)
  obtain ⟨rfl, rfl⟩ := h20
  refine v_aload_n o 0 dX7_likeness_23 rfl ?_
  refine v_cVi o [.ref ((atB (a + 4) p2) + 4)] [] (fun sz => metX6_isSame l G P f sz ((atB (a + 4) p1) + 4) (wfLoaf_t1 (is_atB (wfComp_t1 ha) p1)) ((atB (a + 4) p2) + 4) (wfLoaf_t1 (is_atB (wfComp_t1 ha) p2)) _ h) (cwX7_334 o.1.2.2.2.2 (by decide)) ⟨_, _, rfl⟩ (by decide) (wfWord_o (wfLoaf_t1 (is_atB (wfComp_t1 ha) p1))) rfl (Nat.le_of_ble_eq_true rfl) ⟨Nat.le_of_ble_eq_true rfl, Nat.le_of_ble_eq_true rfl⟩ dX7_likeness_24 rfl (fun r24 g24 h => ?_)
  refine v_if_eq o (tgt := 32) dX7_likeness_27 (by decide) (fun c27 => ?_) (fun c27 => ?_)
  · replace h := h.1 c27
    refine v_iconst o (v := 0) dX7_likeness_32 (by decide) ?_
    refine v_istore o (lv' := [(4, .int 0), (3, .ref ((atB (a + 4) p2) + 4)), (0, .ref a), (1, .int p1), (2, .int p2)]) dX7_likeness_33 (by decide) rfl ?_
    refine v_sub [2, 3, 4, 1, 0] (lv2 := [(0, .ref a), (1, .int p1), (2, .int p2), (3, .ref ((atB (a + 4) p2) + 4)), (4, .int 0)]) rfl ?_
    exact (main (μ35 g24 ((atB (a + 4) p2) + 4) 0 + 1)) g24 ((atB (a + 4) p2) + 4) 0 (wfLoaf_t1 (is_atB (wfComp_t1 ha) p2)) h (Nat.lt_succ_self _)
  · replace h := h.2 c27
    refine v_iconst o (v := 1) dX7_likeness_30 (by decide) ?_
    exact v_iret o rfl hr dX7_likeness_31 h
def WX7_likeness (P : Sk) (f : St) (a : Nat) (p1 : Int32) (p2 : Int32) (K : Int32 → St → Prop) : Prop := ∃ (I35 : St → Nat → Int32 → Prop) (μ35 : St → Nat → Int32 → Nat), (vX7_likeness P f a p1 p2 I35 K) ∧ (∀ (g : St) (x3 : Nat) (x4 : Int32) , I35 g x3 x4 → bX7_likeness_35 P a p1 p2 (fun g' z0 z1 => I35 g' z0 z1 ∧ μ35 g' z0 z1 < μ35 g x3 x4) K g x3 x4)
def sm (y z : Lf) : Prop := y.1 = z.1 ∧ NF y.2 = NF z.2
def lkC (y : Lf) (how : Nat) : Lf := (y.1, chg y.1 y.2 how)
noncomputable def lkF (y z : Lf) : Nat → Nat → Nat
  | 0, _ => 0
  | fu + 1, how => cif (sm (lkC y how) z) (2 + how) (lkF y z fu (how + 1))
noncomputable def lk (y z : Lf) : Nat := cif (sm y z) 1 (lkF y z 3 0)
def kX7_likeness (P : Sk) (f : St) (a : Nat) (p1 : Int32) (p2 : Int32) (K : Int32 → St → Prop) : Prop := ∃ A, CompIs f a A ∧ hasB A.1 p1 ∧ hasB A.1 p2 ∧ Look f a A (nI (lk (lfP A.1 p1) (lfP A.1 p2))) K
theorem wX7_likeness (P : Sk) (f : St) (a : Nat) (ha : IsComp P a) (p1 : Int32) (p2 : Int32) (K : Int32 → St → Prop) (h : kX7_likeness P f a p1 p2 K) : WX7_likeness P f a p1 p2 K := by
  obtain ⟨A, hC, h1, h2, hK⟩ := h
  have h6 := hC.2.2.2.2.2.1
  have hk1 := h6.has h1
  have hk2 := h6.has h2
  have hin1 := atB_in (b := a + 4) h6 h1
  have hin2 := atB_in (b := a + 4) h6 h2
  refine ⟨fun g x3 x4 => ∃ k, x3 = atB (a + 4) p2 + 4 ∧ x4 = nI k ∧ k ≤ 3 ∧ Fr f g a (a + 1438) ∧ CompIs g a A ∧ lk (lfP A.1 p1) (lfP A.1 p2) = lkF (lfP A.1 p1) (lfP A.1 p2) (3 - k) k, fun g x3 x4 => 3 - x4.toNatClampNeg, ?_, ?_⟩
  · unfold vX7_likeness
    refine ⟨_, _, _, _, (hC.2.1.atP h6 h1).2.1, (hC.2.1.atP h6 h2).2.1, hk1.1.NF, hk2.1.NF, ?_⟩
    have hK0 := hK f (Fr.refl _ _ _) hC
    by_cases c : (lfP A.1 p1).1 = (lfP A.1 p2).1 ∧ NF (lfP A.1 p1).2 = NF (lfP A.1 p2).2
    · rw [if_pos c]
      refine ⟨fun q => absurd q (by decide), fun _ => ?_⟩
      unfold lk at hK0
      rw [cif_pos (show sm _ _ from c)] at hK0
      exact hK0
    · rw [if_neg c]
      refine ⟨fun _ => ⟨0, rfl, rfl, by omega, Fr.refl _ _ _, hC, ?_⟩, fun q => absurd rfl q⟩
      unfold lk
      rw [cif_neg (show ¬ sm _ _ from c)]
  · rintro g x3 x4 ⟨k, rfl, rfl, hk, hfr, hCg, hR⟩
    unfold bX7_likeness_35
    have hKg := hK g hfr hCg
    rw [hR] at hKg
    rw [show (2 : Int32) = nI 2 from rfl, nI_ltI (by omega) (by omega)]
    refine ⟨fun q => ?_, fun q => ?_⟩
    · rw [show 3 - k = 0 by omega] at hKg
      exact hKg
    · refine ⟨_, _, k, rfl, by omega, (hCg.2.1.atP h6 h1).1, hk1.1, by omega, fun g1 r1 w1 => ?_⟩
      have hwc := wok_chg hk1.1 k
      refine ⟨_, _, w1, hwc, by omega, fun g2 r2 w2 => ?_⟩
      have hC2 := (hCg.out r1 (by omega)).out r2 (by omega)
      have r12 := (r1.mono (lo' := a) (hi' := a + 1438) (by omega) (by omega)).trans (r2.mono (by omega) (by omega))
      refine ⟨_, _, _, _, w2, (hC2.2.1.atP h6 h2).2.1, hwc.NF, hk2.1.NF, ?_⟩
      have hK2 := hK g2 (hfr.trans r12) hC2
      rw [hR, show 3 - k = (2 - k) + 1 by omega, lkF] at hK2
      rw [show 3 - k = (2 - k) + 1 by omega, lkF] at hR
      by_cases c : (lfP A.1 p1).1 = (lfP A.1 p2).1 ∧ NF (chg (lfP A.1 p1).1 (lfP A.1 p1).2 k) = NF (lfP A.1 p2).2
      · rw [if_pos c]
        rw [cif_pos (show sm (lkC _ _) _ from c)] at hK2
        refine ⟨fun q => absurd q (by decide), fun _ => ?_⟩
        rw [nI_add]
        exact hK2
      · rw [if_neg c]
        rw [cif_neg (show ¬ sm (lkC _ _) _ from c)] at hR
        rw [nI_1]
        refine ⟨fun _ x e => ⟨⟨k + 1, rfl, e, by omega, hfr.trans r12, hC2, by rw [show 3 - (k + 1) = 2 - k by omega]; exact hR⟩, mu_up e (by omega) (by omega)⟩, fun q => absurd rfl q⟩

theorem metX7_likeness (l : Launch) (G : Gl) (P : Sk) (f : St) (sz : Nat) (a : Nat) (ha : IsComp P a) (p1 : Int32) (p2 : Int32) (K : Int32 → St → Prop) (h : kX7_likeness P f a p1 p2 K) : Met l yX7_likeness (wU yX7_likeness cX7_likeness 5 (some .int)) rmX7_likeness (PcW G P f sz [.ref a, .int p1, .int p2]) (QcI G P sz K) 0 0 (frA P sz) := by
  obtain ⟨I35, μ35, qh, qh35⟩ := wX7_likeness P f a ha p1 p2 K h
  exact mX7_likeness l G P f sz a ha p1 p2 K I35 μ35 qh qh35

def vX7_alike (P : Sk) (f : St) (a : Nat) (p1 : Int32) (p2 : Int32) (K : Int32 → St → Prop) (X : String → St → Prop) : Prop :=
  kX7_needLoaf P f a p1 (fun g2 => kX7_needLoaf P g2 a p2 (fun g7 => kX7_likeness P g7 a p1 p2 (fun r13 g13 => K r13 g13)) X) X
set_option maxRecDepth 20000 in
set_option maxHeartbeats 4000000 in
theorem mX7_alike (l : Launch) (G : Gl) (P : Sk) (f : St) (sz : Nat) (a : Nat) (ha : IsComp P a) (p1 : Int32) (p2 : Int32) (K : Int32 → St → Prop) (h : vX7_alike P f a p1 p2 K XF)  :
  Met l yX7_alike (wU yX7_alike cX7_alike 3 (some .int)) rmX7_alike (PcW G P f sz [.ref a, .int p1, .int p2]) (QcI G P sz K) 0 0 (frA P sz) := by
  refine v_met (own := RX7) [.ref a, .int p1, .int p2] (by decide +kernel) rfl (Nat.le_of_ble_eq_true rfl) (fun p e s m args below meth c hsz o hr hnm => ?_)
  refine v_lv (lv2 := [(0, .ref a), (1, .int p1), (2, .int p2)]) rfl ?_
  unfold vX7_alike at h
  refine v_aload_n o 0 dX7_alike_0 rfl ?_
  refine v_iload_n o 1 dX7_alike_1 rfl ?_
  refine v_cVv o [.int p1] [] (fun sz => metX7_needLoaf l G P f sz a ha p1 _ h) (cwX7_98 o.1.2.2.2.2 (by decide)) ⟨_, _, rfl⟩ (by decide) (wfComp_o ha) rfl (Nat.le_of_ble_eq_true rfl) ⟨Nat.le_of_ble_eq_true rfl, Nat.le_of_ble_eq_true rfl⟩ dX7_alike_2 rfl (fun g2 h => ?_)
  refine v_aload_n o 0 dX7_alike_5 rfl ?_
  refine v_iload_n o 2 dX7_alike_6 rfl ?_
  refine v_cVv o [.int p2] [] (fun sz => metX7_needLoaf l G P g2 sz a ha p2 _ h) (cwX7_98 o.1.2.2.2.2 (by decide)) ⟨_, _, rfl⟩ (by decide) (wfComp_o ha) rfl (Nat.le_of_ble_eq_true rfl) ⟨Nat.le_of_ble_eq_true rfl, Nat.le_of_ble_eq_true rfl⟩ dX7_alike_7 rfl (fun g7 h => ?_)
  refine v_aload_n o 0 dX7_alike_10 rfl ?_
  refine v_iload_n o 1 dX7_alike_11 rfl ?_
  refine v_iload_n o 2 dX7_alike_12 rfl ?_
  refine v_cVi o [.int p1, .int p2] [] (fun sz => metX7_likeness l G P g7 sz a ha p1 p2 _ h) (cwX7_221 o.1.2.2.2.2 (by decide)) ⟨_, _, rfl⟩ (by decide) (wfComp_o ha) rfl (Nat.le_of_ble_eq_true rfl) ⟨Nat.le_of_ble_eq_true rfl, Nat.le_of_ble_eq_true rfl⟩ dX7_alike_13 rfl (fun r13 g13 h => ?_)
  exact v_iret o rfl hr dX7_alike_16 h
abbrev kX7_alike := @vX7_alike
abbrev metX7_alike := @mX7_alike
noncomputable def opAlike (A : Ab) (p q : Int32) : Re := cif (hasB A.1 p ∧ hasB A.1 q) (0, nI (lk (lfP A.1 p) (lfP A.1 q)), A) (1, 0, A)
theorem u7_alike {P : Sk} {f : St} {x : Nat} {A : Ab} {p q : Int32} {K : Int32 → St → Prop} {X : String → St → Prop} (hC : CompIs f x A) (hK : Fin f x (opAlike A p q) K X "java/lang/IndexOutOfBoundsException" "" "") : kX7_alike P f x p q K X := by
  show vX7_alike P f x p q K X
  unfold vX7_alike
  unfold opAlike at hK
  have no : ¬ (hasB A.1 p ∧ hasB A.1 q) → X "java/lang/IndexOutOfBoundsException" f := by
    intro h
    rw [cif_neg h] at hK
    exact (hK f (Fr.refl _ _ _) hC).2.1 rfl
  refine u7_needLoaf hC (fun h1 => ?_) (fun h => no (fun k => h k.1))
  refine u7_needLoaf hC (fun h2 => ?_) (fun h => no (fun k => h k.2))
  rw [cif_pos ⟨h1, h2⟩] at hK
  exact ⟨A, hC, h1, h2, fun g r hC2 => (hK g r hC2).1 rfl⟩

def vX7_period (P : Sk) (f : St) (a : Nat) (p1 : Int32) (K : Int32 → St → Prop) (X : String → St → Prop) : Prop :=
  kX7_needLoaf P f a p1 (fun g2 => kX5_timesUntilHome P g2 ((atB (a + 4) p1) + 7) (fun r16 g16 => K r16 g16)) X
set_option maxRecDepth 20000 in
set_option maxHeartbeats 4000000 in
theorem mX7_period (l : Launch) (G : Gl) (P : Sk) (f : St) (sz : Nat) (a : Nat) (ha : IsComp P a) (p1 : Int32) (K : Int32 → St → Prop) (h : vX7_period P f a p1 K XF)  :
  Met l yX7_period (wU yX7_period cX7_period 2 (some .int)) rmX7_period (PcW G P f sz [.ref a, .int p1]) (QcI G P sz K) 0 0 (frA P sz) := by
  refine v_met (own := RX7) [.ref a, .int p1] (by decide +kernel) rfl (Nat.le_of_ble_eq_true rfl) (fun p e s m args below meth c hsz o hr hnm => ?_)
  refine v_lv (lv2 := [(0, .ref a), (1, .int p1)]) rfl ?_
  unfold vX7_period at h
  refine v_aload_n o 0 dX7_period_0 rfl ?_
  refine v_iload_n o 1 dX7_period_1 rfl ?_
  refine v_cVv o [.int p1] [] (fun sz => metX7_needLoaf l G P f sz a ha p1 _ h) (cwX7_98 o.1.2.2.2.2 (by decide)) ⟨_, _, rfl⟩ (by decide) (wfComp_o ha) rfl (Nat.le_of_ble_eq_true rfl) ⟨Nat.le_of_ble_eq_true rfl, Nat.le_of_ble_eq_true rfl⟩ dX7_period_2 rfl (fun g2 h => ?_)
  refine v_aload_n o 0 dX7_period_5 rfl ?_
  refine v_gfR o lkX7_19 (by decide) (wfComp_o ha) (wfComp_r1 ha) dX7_period_6 ?_
  refine v_iload_n o 1 dX7_period_9 rfl ?_
  refine v_cVr o [.int p1] [] (fun sz => metX0_at l G P g2 sz (a + 4) (wfComp_t1 ha) p1) (cwX7_102 o.1.2.2.2.2 (by decide)) ⟨_, _, rfl⟩ (by decide) (wfBoard_o (wfComp_t1 ha)) rfl (Nat.le_of_ble_eq_true rfl) ⟨Nat.le_of_ble_eq_true rfl, Nat.le_of_ble_eq_true rfl⟩ dX7_period_10 rfl (fun r10 g10 h10 => ?_)
  obtain ⟨rfl, rfl⟩ := h10
  refine v_cVr o [] [] (fun sz => metX2_trace l G P g2 sz (atB (a + 4) p1) (is_atB (wfComp_t1 ha) p1)) (cwX7_124 o.1.2.2.2.2 (by decide)) ⟨_, _, rfl⟩ (by decide) (wfLoaf_o (is_atB (wfComp_t1 ha) p1)) rfl (Nat.le_of_ble_eq_true rfl) ⟨Nat.le_of_ble_eq_true rfl, Nat.le_of_ble_eq_true rfl⟩ dX7_period_13 rfl (fun r13 g13 h13 => ?_)
  obtain ⟨rfl, rfl⟩ := h13
  refine v_cVi o [] [] (fun sz => metX5_timesUntilHome l G P g2 sz ((atB (a + 4) p1) + 7) (wfLoaf_t2 (is_atB (wfComp_t1 ha) p1)) _ h) (cwX7_224 o.1.2.2.2.2 (by decide)) ⟨_, _, rfl⟩ (by decide) (wfTrace_o (wfLoaf_t2 (is_atB (wfComp_t1 ha) p1))) rfl (Nat.le_of_ble_eq_true rfl) ⟨Nat.le_of_ble_eq_true rfl, Nat.le_of_ble_eq_true rfl⟩ dX7_period_16 rfl (fun r16 g16 h => ?_)
  exact v_iret o rfl hr dX7_period_19 h
abbrev kX7_period := @vX7_period
abbrev metX7_period := @mX7_period
def perV (y : Lf) : Nat := perC (cd (wE y.2 y.2.length) y.1) y.1 y.1 0 1
noncomputable def opPeriod (A : Ab) (p : Int32) : Re := cif (hasB A.1 p) (0, nI (perV (lfP A.1 p)), A) (1, 0, A)
theorem u7_period {P : Sk} {f : St} {x : Nat} {A : Ab} {p : Int32} {K : Int32 → St → Prop} {X : String → St → Prop} (hC : CompIs f x A) (hK : Fin f x (opPeriod A p) K X "java/lang/IndexOutOfBoundsException" "" "") : kX7_period P f x p K X := by
  show vX7_period P f x p K X
  unfold vX7_period
  have h6 := hC.2.2.2.2.2.1
  unfold opPeriod at hK
  refine u7_needLoaf hC (fun h => ?_) (fun h => ?_)
  · rw [cif_pos h] at hK
    refine ⟨_, _, (hC.2.1.atP h6 h).2.2.ends (h6.has h).1, ?_⟩
    exact (hK f (Fr.refl _ _ _) hC).1 rfl
  · rw [cif_neg h] at hK
    exact (hK f (Fr.refl _ _ _) hC).2.1 rfl

