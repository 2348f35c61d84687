def vX7_needCan (P : Sk) (f : St) (p0 : Int32) (K : St → Prop) (X : String → St → Prop) : Prop :=
  (p0 = 0 → K f) ∧ (¬ p0 = 0 → X "java/lang/IllegalStateException" f)
set_option maxRecDepth 20000 in
set_option maxHeartbeats 4000000 in
theorem mX7_needCan (l : Launch) (G : Gl) (P : Sk) (f : St) (sz : Nat) (p0 : Int32) (K : St → Prop) (h : vX7_needCan P f p0 K XF)  :
  Met l yX7_needCan (wU yX7_needCan cX7_needCan 1 none) rmX7_needCan (PcW G P f sz [.int p0]) (QcV G P sz K) 0 0 (frA P sz) := by
  refine v_met (own := RX7) [.int p0] (by decide +kernel) rfl (Nat.le_of_ble_eq_true rfl) (fun p e s m args below meth c hsz o hr hnm => ?_)
  refine v_lv (lv2 := [(0, .int p0)]) rfl ?_
  unfold vX7_needCan at h
  refine v_iload_n o 0 dX7_needCan_0 rfl ?_
  refine v_if_eq o (tgt := 15) dX7_needCan_1 (by decide) (fun c1 => ?_) (fun c1 => ?_)
  · replace h := h.1 c1
    exact v_vret o rfl hr dX7_needCan_15 h
  · replace h := h.2 c1
    exact False.elim h
abbrev kX7_needCan := @vX7_needCan
abbrev metX7_needCan := @mX7_needCan
theorem u6_strands {P : Sk} {f : St} {a : Nat} {v : Int32} {K : Int32 → St → Prop} (hv : f a 1 = v) (hK : K v f) : kX6_strands P f a K := by
  show vX6_strands P f a K
  unfold vX6_strands
  rw [hv]
  exact hK
theorem u6_size {P : Sk} {f : St} {a : Nat} {v : Int32} {K : Int32 → St → Prop} (hv : f a 2 = v) (hK : K v f) : kX6_size P f a K := by
  show vX6_size P f a K
  unfold vX6_size
  rw [hv]
  exact hK

def vX7_needLoaf (P : Sk) (f : St) (a : Nat) (p1 : Int32) (K : St → Prop) (X : String → St → Prop) : Prop :=
  kX0_has P f (a + 4) p1 (fun r5 g5 => (¬ r5 = 0 → K g5) ∧ (r5 = 0 → X "java/lang/IndexOutOfBoundsException" g5))
set_option maxRecDepth 20000 in
set_option maxHeartbeats 4000000 in
theorem mX7_needLoaf (l : Launch) (G : Gl) (P : Sk) (f : St) (sz : Nat) (a : Nat) (ha : IsComp P a) (p1 : Int32) (K : St → Prop) (h : vX7_needLoaf P f a p1 K XF)  :
  Met l yX7_needLoaf (wU yX7_needLoaf cX7_needLoaf 2 none) rmX7_needLoaf (PcW G P f sz [.ref a, .int p1]) (QcV G P sz K) 0 0 (frA P sz) := by
  refine v_met (own := RX7) [.ref a, .int p1] (by decide +kernel) rfl (Nat.le_of_ble_eq_true rfl) (fun p e s m args below meth c hsz o hr hnm => ?_)
  refine v_lv (lv2 := [(0, .ref a), (1, .int p1)]) rfl ?_
  unfold vX7_needLoaf at h
  refine v_aload_n o 0 dX7_needLoaf_0 rfl ?_
  refine v_gfR o lkX7_19 (by decide) (wfComp_o ha) (wfComp_r1 ha) dX7_needLoaf_1 ?_
  refine v_iload_n o 1 dX7_needLoaf_4 rfl ?_
  refine v_cVi o [.int p1] [] (fun sz => metX0_has l G P f sz (a + 4) (wfComp_t1 ha) p1 _ h) (cwX7_249 o.1.2.2.2.2 (by decide)) ⟨_, _, rfl⟩ (by decide) (wfBoard_o (wfComp_t1 ha)) rfl (Nat.le_of_ble_eq_true rfl) ⟨Nat.le_of_ble_eq_true rfl, Nat.le_of_ble_eq_true rfl⟩ dX7_needLoaf_5 rfl (fun r5 g5 h => ?_)
  refine v_if_ne o (tgt := 21) dX7_needLoaf_8 (by decide) (fun c8 => ?_) (fun c8 => ?_)
  · replace h := h.1 c8
    exact v_vret o rfl hr dX7_needLoaf_21 h
  · replace h := h.2 c8
    exact False.elim h
abbrev kX7_needLoaf := @vX7_needLoaf
abbrev metX7_needLoaf := @mX7_needLoaf
theorem u0_hasB {P : Sk} {f : St} {a : Nat} {bd : Bd} {p : Int32} {K : Int32 → St → Prop} (hB : BoardIs f a bd) (ho : Bok bd) (hK1 : hasB bd p → K 1 f) (hK0 : ¬ hasB bd p → K 0 f) : kX0_has P f a p K := by
  show vX0_has P f a p K
  unfold vX0_has
  have h6 := ho.1
  rw [hB.1]
  refine ⟨fun q => hK0 (fun h => h.1 q), fun q => ?_⟩
  have e := nI_cl q
  obtain ⟨j, hj, rfl⟩ := nI_of q
  rw [nI_leI (by omega) (by omega)]
  refine ⟨fun q2 => hK0 (fun h => ?_), fun q2 => hK1 ⟨q, ?_⟩⟩
  · have := h.2
    rw [nI_clamp hj] at this
    omega
  · rw [nI_clamp hj]
    omega
theorem atB_p {b : Nat} {bd : Bd} {p : Int32} (ho : Bok bd) (h : hasB bd p) : atB b p = b + 24 + 22 * p.toNatClampNeg := by
  have e := nI_cl h.1
  have := h.2
  have := ho.1
  conv => lhs; rw [e]
  exact atB_n (by omega)
theorem BoardIs.atP {f : St} {b : Nat} {bd : Bd} {p : Int32} (hB : BoardIs f b bd) (ho : Bok bd) (h : hasB bd p) : LoafIs f (atB b p) (lfP bd p) := by
  rw [atB_p ho h]
  exact hB.2.2.2.2 _ h.2
theorem atB_in {b : Nat} {bd : Bd} {p : Int32} (ho : Bok bd) (h : hasB bd p) : b + 24 ≤ atB b p ∧ atB b p + 22 ≤ b + 156 := by
  rw [atB_p ho h]
  have := h.2
  have := ho.1
  omega
theorem u7_needLoaf {P : Sk} {f : St} {x : Nat} {A : Ab} {p : Int32} {K : St → Prop} {X : String → St → Prop} (hC : CompIs f x A) (hK : hasB A.1 p → K f) (hX : ¬ hasB A.1 p → X "java/lang/IndexOutOfBoundsException" f) : kX7_needLoaf P f x p K X := by
  show vX7_needLoaf P f x p K X
  unfold vX7_needLoaf
  exact u0_hasB hC.2.1 hC.2.2.2.2.2.1 (fun h => ⟨fun _ => hK h, fun q => absurd q (by decide)⟩) (fun h => ⟨fun q => absurd rfl q, fun _ => hX h⟩)

def vX7_needPlace (P : Sk) (f : St) (a : Nat) (p1 : Int32) (p2 : Int32) (K : St → Prop) (X : String → St → Prop) : Prop :=
  kX7_needLoaf P f a p1 (fun g2 => kX6_hasPlace P g2 ((atB (a + 4) p1) + 1) p2 (fun r17 g17 => (¬ r17 = 0 → K g17) ∧ (r17 = 0 → X "java/lang/IndexOutOfBoundsException" g17))) X
set_option maxRecDepth 20000 in
set_option maxHeartbeats 4000000 in
theorem mX7_needPlace (l : Launch) (G : Gl) (P : Sk) (f : St) (sz : Nat) (a : Nat) (ha : IsComp P a) (p1 : Int32) (p2 : Int32) (K : St → Prop) (h : vX7_needPlace P f a p1 p2 K XF)  :
  Met l yX7_needPlace (wU yX7_needPlace cX7_needPlace 3 none) rmX7_needPlace (PcW G P f sz [.ref a, .int p1, .int p2]) (QcV G P sz K) 0 0 (frA P sz) := by
  refine v_met (own := RX7) [.ref a, .int p1, .int p2] (by decide +kernel) rfl (Nat.le_of_ble_eq_true rfl) (fun p e s m args below meth c hsz o hr hnm => ?_)
  refine v_lv (lv2 := [(0, .ref a), (1, .int p1), (2, .int p2)]) rfl ?_
  unfold vX7_needPlace at h
  refine v_aload_n o 0 dX7_needPlace_0 rfl ?_
  refine v_iload_n o 1 dX7_needPlace_1 rfl ?_
  refine v_cVv o [.int p1] [] (fun sz => metX7_needLoaf l G P f sz a ha p1 _ h) (cwX7_98 o.1.2.2.2.2 (by decide)) ⟨_, _, rfl⟩ (by decide) (wfComp_o ha) rfl (Nat.le_of_ble_eq_true rfl) ⟨Nat.le_of_ble_eq_true rfl, Nat.le_of_ble_eq_true rfl⟩ dX7_needPlace_2 rfl (fun g2 h => ?_)
  refine v_aload_n o 0 dX7_needPlace_5 rfl ?_
  refine v_gfR o lkX7_19 (by decide) (wfComp_o ha) (wfComp_r1 ha) dX7_needPlace_6 ?_
  refine v_iload_n o 1 dX7_needPlace_9 rfl ?_
  refine v_cVr o [.int p1] [] (fun sz => metX0_at l G P g2 sz (a + 4) (wfComp_t1 ha) p1) (cwX7_102 o.1.2.2.2.2 (by decide)) ⟨_, _, rfl⟩ (by decide) (wfBoard_o (wfComp_t1 ha)) rfl (Nat.le_of_ble_eq_true rfl) ⟨Nat.le_of_ble_eq_true rfl, Nat.le_of_ble_eq_true rfl⟩ dX7_needPlace_10 rfl (fun r10 g10 h10 => ?_)
  obtain ⟨rfl, rfl⟩ := h10
  refine v_cVr o [] [] (fun sz => metX2_word l G P g2 sz (atB (a + 4) p1) (is_atB (wfComp_t1 ha) p1)) (cwX7_74 o.1.2.2.2.2 (by decide)) ⟨_, _, rfl⟩ (by decide) (wfLoaf_o (is_atB (wfComp_t1 ha) p1)) rfl (Nat.le_of_ble_eq_true rfl) ⟨Nat.le_of_ble_eq_true rfl, Nat.le_of_ble_eq_true rfl⟩ dX7_needPlace_13 rfl (fun r13 g13 h13 => ?_)
  obtain ⟨rfl, rfl⟩ := h13
  refine v_iload_n o 2 dX7_needPlace_16 rfl ?_
  refine v_cVi o [.int p2] [] (fun sz => metX6_hasPlace l G P g2 sz ((atB (a + 4) p1) + 1) (wfLoaf_t0 (is_atB (wfComp_t1 ha) p1)) p2 _ h) (cwX7_258 o.1.2.2.2.2 (by decide)) ⟨_, _, rfl⟩ (by decide) (wfWord_o (wfLoaf_t0 (is_atB (wfComp_t1 ha) p1))) rfl (Nat.le_of_ble_eq_true rfl) ⟨Nat.le_of_ble_eq_true rfl, Nat.le_of_ble_eq_true rfl⟩ dX7_needPlace_17 rfl (fun r17 g17 h => ?_)
  refine v_if_ne o (tgt := 34) dX7_needPlace_20 (by decide) (fun c20 => ?_) (fun c20 => ?_)
  · replace h := h.1 c20
    exact v_vret o rfl hr dX7_needPlace_34 h
  · replace h := h.2 c20
    exact False.elim h
abbrev kX7_needPlace := @vX7_needPlace
abbrev metX7_needPlace := @mX7_needPlace
theorem u6_plB {P : Sk} {f : St} {a : Nat} {y : Lf} {p : Int32} {K : Int32 → St → Prop} (hw : WordIs f a y.1 y.2) (ho : Wok y.1 y.2) (hK1 : plB y p → K 1 f) (hK0 : ¬ plB y p → K 0 f) : kX6_hasPlace P f a p K := by
  have h7 := ho.2.1
  refine u6_hasPlace hw.1 ho.1 ho.2.1 (fun j e hj => hK1 ?_) (fun h => hK0 (fun hp => h p.toNatClampNeg (nI_cl hp.1) (by have := hp.2; omega) hp.2))
  refine ⟨?_, ?_⟩
  · rw [e]
    exact nI_nn (by omega)
  · rw [e, nI_clamp (by omega)]
    exact hj
theorem u7_needPlace {P : Sk} {f : St} {x : Nat} {A : Ab} {p q : Int32} {K : St → Prop} {X : String → St → Prop} (hC : CompIs f x A) (hK : hasB A.1 p → plB (lfP A.1 p) q → K f) (hX : ¬ (hasB A.1 p ∧ plB (lfP A.1 p) q) → X "java/lang/IndexOutOfBoundsException" f) : kX7_needPlace P f x p q K X := by
  show vX7_needPlace P f x p q K X
  unfold vX7_needPlace
  have ho := hC.2.2.2.2.2.1
  refine u7_needLoaf hC (fun h => ?_) (fun h => hX (fun h2 => h h2.1))
  exact u6_plB (hC.2.1.atP ho h).1 (ho.has h).1 (fun h2 => ⟨fun _ => hK h h2, fun q => absurd q (by decide)⟩) (fun h2 => ⟨fun q => absurd rfl q, fun _ => hX (fun h3 => h2 h3.2)⟩)

def jX7_needUpTo_9 (P : Sk) (p0 : Int32) (p1 : Int32) (K : St → Prop) (X : String → St → Prop) (f : St) : Prop :=
  X "java/lang/IllegalArgumentException" f
def vX7_needUpTo (P : Sk) (f : St) (p0 : Int32) (p1 : Int32) (K : St → Prop) (X : String → St → Prop) : Prop :=
  (p0 < 0 → jX7_needUpTo_9 P p0 p1 K X  f) ∧ (¬ p0 < 0 → (p0 ≤ p1 → K f) ∧ (¬ p0 ≤ p1 → jX7_needUpTo_9 P p0 p1 K X  f))
set_option maxRecDepth 20000 in
set_option maxHeartbeats 4000000 in
theorem mX7_needUpTo (l : Launch) (G : Gl) (P : Sk) (f : St) (sz : Nat) (p0 : Int32) (p1 : Int32) (K : St → Prop) (h : vX7_needUpTo P f p0 p1 K XF)  :
  Met l yX7_needUpTo (wU yX7_needUpTo cX7_needUpTo 2 none) rmX7_needUpTo (PcW G P f sz [.int p0, .int p1]) (QcV G P sz K) 0 0 (frA P sz) := by
  refine v_met (own := RX7) [.int p0, .int p1] (by decide +kernel) rfl (Nat.le_of_ble_eq_true rfl) (fun p e s m args below meth c hsz o hr hnm => ?_)
  refine v_lv (lv2 := [(0, .int p0), (1, .int p1)]) rfl ?_
  have J9 : ∀ (g9 : St), jX7_needUpTo_9 P p0 p1 K XF  g9 → V p l e rmX7_needUpTo s m args below meth c 2 G (frA P sz) (MQ below (QcV G P sz K) args s 0 0 (frA P sz)) 0 0 P [(0, .int p0), (1, .int p1)] [] 9 g9 := by
    intro  g9  h
    unfold jX7_needUpTo_9 at h
    exact False.elim h
  unfold vX7_needUpTo at h
  refine v_iload_n o 0 dX7_needUpTo_0 rfl ?_
  refine v_if_lt o (tgt := 9) dX7_needUpTo_1 (by decide) (fun c1 => ?_) (fun c1 => ?_)
  · replace h := h.1 c1
    refine v_sub [0, 1] (lv2 := [(0, .int p0), (1, .int p1)]) rfl ?_
    exact J9  f  h
  · replace h := h.2 c1
    refine v_iload_n o 0 dX7_needUpTo_4 rfl ?_
    refine v_iload_n o 1 dX7_needUpTo_5 rfl ?_
    refine v_icmp_le o (tgt := 20) dX7_needUpTo_6 (by decide) (fun c6 => ?_) (fun c6 => ?_)
    · replace h := h.1 c6
      exact v_vret o rfl hr dX7_needUpTo_20 h
    · replace h := h.2 c6
      refine v_sub [0, 1] (lv2 := [(0, .int p0), (1, .int p1)]) rfl ?_
      exact J9  f  h
abbrev kX7_needUpTo := @vX7_needUpTo
abbrev metX7_needUpTo := @mX7_needUpTo

def vX7_tryCrossing (P : Sk) (f : St) (a : Nat) (p1 : Int32) (p2 : Int32) (p3 : Int32) (K : Int32 → St → Prop) : Prop :=
  kX0_has P f (a + 4) p1 (fun r5 g5 => (¬ r5 = 0 → kX6_hasPlace P g5 ((atB (a + 4) p1) + 1) p2 (fun r29 g29 => (¬ r29 = 0 → kX6_size P g29 ((atB (a + 4) p1) + 1) (fun r39 g39 => (r39 < 24 → kX6_copyFrom P g39 ((a + 1410) + 1) ((atB (a + 4) p1) + 1) (fun g58 => kX6_codeOf P g58 p2 p3 (fun r70 g70 => kX6_add P g70 ((a + 1410) + 1) r70 (fun g73 => kX2_settle P g73 (a + 1410) (fun r80 g80 => K r80 g80))))) ∧ (¬ r39 < 24 → K 1 g39))) ∧ (r29 = 0 → K 4 g29))) ∧ (r5 = 0 → K 3 g5))
set_option maxRecDepth 20000 in
set_option maxHeartbeats 4000000 in
theorem mX7_tryCrossing (l : Launch) (G : Gl) (P : Sk) (f : St) (sz : Nat) (a : Nat) (ha : IsComp P a) (p1 : Int32) (p2 : Int32) (p3 : Int32) (K : Int32 → St → Prop) (h : vX7_tryCrossing P f a p1 p2 p3 K)  :
  Met l yX7_tryCrossing (wU yX7_tryCrossing cX7_tryCrossing 5 (some .int)) rmX7_tryCrossing (PcW G P f sz [.ref a, .int p1, .int p2, .int p3]) (QcI G P sz K) 0 0 (frA P sz) := by
  refine v_met (own := RX7) [.ref a, .int p1, .int p2, .int p3] (by decide +kernel) rfl (Nat.le_of_ble_eq_true rfl) (fun p e s m args below meth c hsz o hr hnm => ?_)
  refine v_lv (lv2 := [(0, .ref a), (1, .int p1), (2, .int p2), (3, .int p3)]) rfl ?_
  unfold vX7_tryCrossing at h
  refine v_aload_n o 0 dX7_tryCrossing_0 rfl ?_
  refine v_gfR o lkX7_19 (by decide) (wfComp_o ha) (wfComp_r1 ha) dX7_tryCrossing_1 ?_
  refine v_iload_n o 1 dX7_tryCrossing_4 rfl ?_
  refine v_cVi o [.int p1] [] (fun sz => metX0_has l G P f sz (a + 4) (wfComp_t1 ha) p1 _ h) (cwX7_249 o.1.2.2.2.2 (by decide)) ⟨_, _, rfl⟩ (by decide) (wfBoard_o (wfComp_t1 ha)) rfl (Nat.le_of_ble_eq_true rfl) ⟨Nat.le_of_ble_eq_true rfl, Nat.le_of_ble_eq_true rfl⟩ dX7_tryCrossing_5 rfl (fun r5 g5 h => ?_)
  refine v_if_ne o (tgt := 13) dX7_tryCrossing_8 (by decide) (fun c8 => ?_) (fun c8 => ?_)
  · replace h := h.1 c8
    refine v_aload_n o 0 dX7_tryCrossing_13 rfl ?_
    refine v_gfR o lkX7_19 (by decide) (wfComp_o ha) (wfComp_r1 ha) dX7_tryCrossing_14 ?_
    refine v_iload_n o 1 dX7_tryCrossing_17 rfl ?_
    refine v_cVr o [.int p1] [] (fun sz => metX0_at l G P g5 sz (a + 4) (wfComp_t1 ha) p1) (cwX7_102 o.1.2.2.2.2 (by decide)) ⟨_, _, rfl⟩ (by decide) (wfBoard_o (wfComp_t1 ha)) rfl (Nat.le_of_ble_eq_true rfl) ⟨Nat.le_of_ble_eq_true rfl, Nat.le_of_ble_eq_true rfl⟩ dX7_tryCrossing_18 rfl (fun r18 g18 h18 => ?_)
    obtain ⟨rfl, rfl⟩ := h18
    refine v_cVr o [] [] (fun sz => metX2_word l G P g5 sz (atB (a + 4) p1) (is_atB (wfComp_t1 ha) p1)) (cwX7_74 o.1.2.2.2.2 (by decide)) ⟨_, _, rfl⟩ (by decide) (wfLoaf_o (is_atB (wfComp_t1 ha) p1)) rfl (Nat.le_of_ble_eq_true rfl) ⟨Nat.le_of_ble_eq_true rfl, Nat.le_of_ble_eq_true rfl⟩ dX7_tryCrossing_21 rfl (fun r21 g21 h21 => ?_)
    obtain ⟨rfl, rfl⟩ := h21
    refine v_astore o (lv' := [(4, .ref ((atB (a + 4) p1) + 1)), (0, .ref a), (1, .int p1), (2, .int p2), (3, .int p3)]) dX7_tryCrossing_24 (by decide) rfl ?_
    refine v_aload o 0 dX7_tryCrossing_26 rfl ?_
    refine v_iload_n o 3 dX7_tryCrossing_28 rfl ?_
    refine v_cVi o [.int p2] [] (fun sz => metX6_hasPlace l G P g5 sz ((atB (a + 4) p1) + 1) (wfLoaf_t0 (is_atB (wfComp_t1 ha) p1)) p2 _ h) (cwX7_258 o.1.2.2.2.2 (by decide)) ⟨_, _, rfl⟩ (by decide) (wfWord_o (wfLoaf_t0 (is_atB (wfComp_t1 ha) p1))) rfl (Nat.le_of_ble_eq_true rfl) ⟨Nat.le_of_ble_eq_true rfl, Nat.le_of_ble_eq_true rfl⟩ dX7_tryCrossing_29 rfl (fun r29 g29 h => ?_)
    refine v_if_ne o (tgt := 37) dX7_tryCrossing_32 (by decide) (fun c32 => ?_) (fun c32 => ?_)
    · replace h := h.1 c32
      refine v_aload o 0 dX7_tryCrossing_37 rfl ?_
      refine v_cVi o [] [] (fun sz => metX6_size l G P g29 sz ((atB (a + 4) p1) + 1) (wfLoaf_t0 (is_atB (wfComp_t1 ha) p1)) _ h) (cwX7_106 o.1.2.2.2.2 (by decide)) ⟨_, _, rfl⟩ (by decide) (wfWord_o (wfLoaf_t0 (is_atB (wfComp_t1 ha) p1))) rfl (Nat.le_of_ble_eq_true rfl) ⟨Nat.le_of_ble_eq_true rfl, Nat.le_of_ble_eq_true rfl⟩ dX7_tryCrossing_39 rfl (fun r39 g39 h => ?_)
      refine v_bipush o (v := 24) dX7_tryCrossing_42 (by decide) ?_
      refine v_icmp_lt o (tgt := 49) dX7_tryCrossing_44 (by decide) (fun c44 => ?_) (fun c44 => ?_)
      · replace h := h.1 c44
        refine v_aload_n o 1 dX7_tryCrossing_49 rfl ?_
        refine v_gfR o lkX7_40 (by decide) (wfComp_o ha) (wfComp_r5 ha) dX7_tryCrossing_50 ?_
        refine v_cVr o [] [] (fun sz => metX2_word l G P g39 sz (a + 1410) (wfComp_t5 ha)) (cwX7_74 o.1.2.2.2.2 (by decide)) ⟨_, _, rfl⟩ (by decide) (wfLoaf_o (wfComp_t5 ha)) rfl (Nat.le_of_ble_eq_true rfl) ⟨Nat.le_of_ble_eq_true rfl, Nat.le_of_ble_eq_true rfl⟩ dX7_tryCrossing_53 rfl (fun r53 g53 h53 => ?_)
        obtain ⟨rfl, rfl⟩ := h53
        refine v_aload o 0 dX7_tryCrossing_56 rfl ?_
        refine v_cVv o [.ref ((atB (a + 4) p1) + 1)] [] (fun sz => metX6_copyFrom l G P g39 sz ((a + 1410) + 1) (wfLoaf_t0 (wfComp_t5 ha)) ((atB (a + 4) p1) + 1) (wfLoaf_t0 (is_atB (wfComp_t1 ha) p1)) _ h) (cwX7_267 o.1.2.2.2.2 (by decide)) ⟨_, _, rfl⟩ (by decide) (wfWord_o (wfLoaf_t0 (wfComp_t5 ha))) rfl (Nat.le_of_ble_eq_true rfl) ⟨Nat.le_of_ble_eq_true rfl, Nat.le_of_ble_eq_true rfl⟩ dX7_tryCrossing_58 rfl (fun g58 h => ?_)
        refine v_aload_n o 1 dX7_tryCrossing_61 rfl ?_
        refine v_gfR o lkX7_40 (by decide) (wfComp_o ha) (wfComp_r5 ha) dX7_tryCrossing_62 ?_
        refine v_cVr o [] [] (fun sz => metX2_word l G P g58 sz (a + 1410) (wfComp_t5 ha)) (cwX7_74 o.1.2.2.2.2 (by decide)) ⟨_, _, rfl⟩ (by decide) (wfLoaf_o (wfComp_t5 ha)) rfl (Nat.le_of_ble_eq_true rfl) ⟨Nat.le_of_ble_eq_true rfl, Nat.le_of_ble_eq_true rfl⟩ dX7_tryCrossing_65 rfl (fun r65 g65 h65 => ?_)
        obtain ⟨rfl, rfl⟩ := h65
        refine v_iload_n o 3 dX7_tryCrossing_68 rfl ?_
        refine v_iload_n o 4 dX7_tryCrossing_69 rfl ?_
        refine v_cSi o [.int p2, .int p3] [.ref ((a + 1410) + 1)] (fun sz => metX6_codeOf l G P g58 sz p2 p3 _ h) (cwX7_269 o.1.2.2.2.2 (by decide)) rfl (Nat.le_of_ble_eq_true rfl) ⟨Nat.le_of_ble_eq_true rfl, Nat.le_of_ble_eq_true rfl⟩ dX7_tryCrossing_70 rfl (fun r70 g70 h => ?_)
        refine v_cVv o [.int r70] [] (fun sz => metX6_add l G P g70 sz ((a + 1410) + 1) (wfLoaf_t0 (wfComp_t5 ha)) r70 _ h) (cwX7_273 o.1.2.2.2.2 (by decide)) ⟨_, _, rfl⟩ (by decide) (wfWord_o (wfLoaf_t0 (wfComp_t5 ha))) rfl (Nat.le_of_ble_eq_true rfl) ⟨Nat.le_of_ble_eq_true rfl, Nat.le_of_ble_eq_true rfl⟩ dX7_tryCrossing_73 rfl (fun g73 h => ?_)
        refine v_aload_n o 1 dX7_tryCrossing_76 rfl ?_
        refine v_gfR o lkX7_40 (by decide) (wfComp_o ha) (wfComp_r5 ha) dX7_tryCrossing_77 ?_
        refine v_cVi o [] [] (fun sz => metX2_settle l G P g73 sz (a + 1410) (wfComp_t5 ha) _ h) (cwX7_82 o.1.2.2.2.2 (by decide)) ⟨_, _, rfl⟩ (by decide) (wfLoaf_o (wfComp_t5 ha)) rfl (Nat.le_of_ble_eq_true rfl) ⟨Nat.le_of_ble_eq_true rfl, Nat.le_of_ble_eq_true rfl⟩ dX7_tryCrossing_80 rfl (fun r80 g80 h => ?_)
        exact v_iret o rfl hr dX7_tryCrossing_83 h
      · replace h := h.2 c44
        refine v_iconst o (v := 1) dX7_tryCrossing_47 (by decide) ?_
        exact v_iret o rfl hr dX7_tryCrossing_48 h
    · replace h := h.2 c32
      refine v_iconst o (v := 4) dX7_tryCrossing_35 (by decide) ?_
      exact v_iret o rfl hr dX7_tryCrossing_36 h
  · replace h := h.2 c8
    refine v_iconst o (v := 3) dX7_tryCrossing_11 (by decide) ?_
    exact v_iret o rfl hr dX7_tryCrossing_12 h
abbrev kX7_tryCrossing := @vX7_tryCrossing
abbrev metX7_tryCrossing := @mX7_tryCrossing
/-- behind a trial -/
def TryK (f : St) (x : Nat) (K : Int32 → St → Prop) (rs : Nat × Lf) : Prop := ∀ g, Fr f g (x + 1410) (x + 1432) → (rs.1 = 0 → LoafIs g (x + 1410) rs.2) → K (nI rs.1) g
theorem u7_settle {P : Sk} {f g : St} {x : Nat} {y : Lf} {K : Int32 → St → Prop} (hw : WordIs g (x + 1410 + 1) y.1 y.2) (ho : Wok y.1 y.2) (hr : Fr f g (x + 1410) (x + 1432)) (hK : TryK f x K (rsS y)) : kX2_settle P g (x + 1410) K := by
  refine u2_settle hw ho (fun hd g2 r2 q2 => ?_) (fun hd g2 r2 => ?_)
  · have := hK g2 (hr.trans r2) (fun _ => q2)
    rw [show (rsS y).1 = 0 from cif_pos hd] at this
    exact this
  · have := hK g2 (hr.trans r2) (fun h => absurd (rsS_0 h) hd)
    rw [show (rsS y).1 = 2 from cif_neg hd] at this
    exact this
theorem u7_tryCrossing {P : Sk} {f : St} {x r : Nat} {A : Ab} {p q : Int32} {K : Int32 → St → Prop} (hx : IsComp P x) (hC : CompIs f x A) (hr : r < 2) (hK : TryK f x K (rsCross A.1 p q r)) : kX7_tryCrossing P f x p q (nI r) K := by
  show vX7_tryCrossing P f x p q (nI r) K
  unfold vX7_tryCrossing
  have ho := hC.2.2.2.2.2.1
  unfold rsCross at hK
  refine u0_hasB hC.2.1 ho (fun h => ⟨fun _ => ?_, fun q => absurd q (by decide)⟩) (fun h => ⟨fun q => absurd rfl q, fun _ => ?_⟩)
  · rw [cif_pos h] at hK
    have hL := hC.2.1.atP ho h
    have hk := ho.has h
    have hin := atB_in (b := x + 4) ho h
    refine u6_plB hL.1 hk.1 (fun h2 => ⟨fun _ => ?_, fun q => absurd q (by decide)⟩) (fun h2 => ⟨fun q => absurd rfl q, fun _ => ?_⟩)
    · rw [cif_pos h2] at hK
      show vX6_size P f _ _
      unfold vX6_size
      have hl := hk.1.2.2.1
      rw [hL.1.2.1]
      change _ ∧ _
      rw [show (24 : Int32) = nI 24 from rfl, nI_ltI (by omega) (by omega)]
      refine ⟨fun q3 => ?_, fun q3 => ?_⟩
      · rw [cif_pos q3] at hK
        refine u6_copyFrom (wfLoaf_t0 (wfComp_t5 hx)) (wfLoaf_t0 (is_atB (wfComp_t1 hx) p)) (by omega) hL.1 hl (fun g1 r1 w1 => ?_)
        rw [nI_cl h2.1]
        refine u6_codeOf hr ?_
        show vX6_add P g1 _ _ _
        unfold vX6_add
        refine u6_add w1 q3 (fun g2 r2 w2 => ?_)
        have := h2.2
        refine u7_settle (y := ((lfP A.1 p).1, (lfP A.1 p).2 ++ [2 * q.toNatClampNeg + r])) w2 (wok_snoc hk.1 q3 (by omega)) ((r1.mono (by omega) (by omega)).trans (r2.mono (by omega) (by omega))) hK
      · rw [cif_neg q3] at hK
        exact hK f (Fr.refl _ _ _) (fun q => absurd q (Nat.succ_ne_zero _))
    · rw [cif_neg h2] at hK
      exact hK f (Fr.refl _ _ _) (fun q => absurd q (Nat.succ_ne_zero _))
  · rw [cif_neg h] at hK
    exact hK f (Fr.refl _ _ _) (fun q => absurd q (Nat.succ_ne_zero _))

def vX7_tryTakingBack (P : Sk) (f : St) (a : Nat) (p1 : Int32) (K : Int32 → St → Prop) : Prop :=
  kX0_has P f (a + 4) p1 (fun r5 g5 => (¬ r5 = 0 → kX6_size P g5 ((atB (a + 4) p1) + 1) (fun r26 g26 => (¬ r26 = 0 → kX6_copyFrom P g26 ((a + 1410) + 1) ((atB (a + 4) p1) + 1) (fun g43 => kX6_size P g43 ((atB (a + 4) p1) + 1) (fun r54 g54 => kX6_removeAt P g54 ((a + 1410) + 1) (r54 - 1) (fun g59 => kX2_settle P g59 (a + 1410) (fun r66 g66 => K r66 g66))))) ∧ (r26 = 0 → K 6 g26))) ∧ (r5 = 0 → K 3 g5))
set_option maxRecDepth 20000 in
set_option maxHeartbeats 4000000 in
theorem mX7_tryTakingBack (l : Launch) (G : Gl) (P : Sk) (f : St) (sz : Nat) (a : Nat) (ha : IsComp P a) (p1 : Int32) (K : Int32 → St → Prop) (h : vX7_tryTakingBack P f a p1 K)  :
  Met l yX7_tryTakingBack (wU yX7_tryTakingBack cX7_tryTakingBack 3 (some .int)) rmX7_tryTakingBack (PcW G P f sz [.ref a, .int p1]) (QcI G P sz K) 0 0 (frA P sz) := by
  refine v_met (own := RX7) [.ref a, .int p1] (by decide +kernel) rfl (Nat.le_of_ble_eq_true rfl) (fun p e s m args below meth c hsz o hr hnm => ?_)
  refine v_lv (lv2 := [(0, .ref a), (1, .int p1)]) rfl ?_
  unfold vX7_tryTakingBack at h
  refine v_aload_n o 0 dX7_tryTakingBack_0 rfl ?_
  refine v_gfR o lkX7_19 (by decide) (wfComp_o ha) (wfComp_r1 ha) dX7_tryTakingBack_1 ?_
  refine v_iload_n o 1 dX7_tryTakingBack_4 rfl ?_
  refine v_cVi o [.int p1] [] (fun sz => metX0_has l G P f sz (a + 4) (wfComp_t1 ha) p1 _ h) (cwX7_249 o.1.2.2.2.2 (by decide)) ⟨_, _, rfl⟩ (by decide) (wfBoard_o (wfComp_t1 ha)) rfl (Nat.le_of_ble_eq_true rfl) ⟨Nat.le_of_ble_eq_true rfl, Nat.le_of_ble_eq_true rfl⟩ dX7_tryTakingBack_5 rfl (fun r5 g5 h => ?_)
  refine v_if_ne o (tgt := 13) dX7_tryTakingBack_8 (by decide) (fun c8 => ?_) (fun c8 => ?_)
  · replace h := h.1 c8
    refine v_aload_n o 0 dX7_tryTakingBack_13 rfl ?_
    refine v_gfR o lkX7_19 (by decide) (wfComp_o ha) (wfComp_r1 ha) dX7_tryTakingBack_14 ?_
    refine v_iload_n o 1 dX7_tryTakingBack_17 rfl ?_
    refine v_cVr o [.int p1] [] (fun sz => metX0_at l G P g5 sz (a + 4) (wfComp_t1 ha) p1) (cwX7_102 o.1.2.2.2.2 (by decide)) ⟨_, _, rfl⟩ (by decide) (wfBoard_o (wfComp_t1 ha)) rfl (Nat.le_of_ble_eq_true rfl) ⟨Nat.le_of_ble_eq_true rfl, Nat.le_of_ble_eq_true rfl⟩ dX7_tryTakingBack_18 rfl (fun r18 g18 h18 => ?_)
    obtain ⟨rfl, rfl⟩ := h18
    refine v_cVr o [] [] (fun sz => metX2_word l G P g5 sz (atB (a + 4) p1) (is_atB (wfComp_t1 ha) p1)) (cwX7_74 o.1.2.2.2.2 (by decide)) ⟨_, _, rfl⟩ (by decide) (wfLoaf_o (is_atB (wfComp_t1 ha) p1)) rfl (Nat.le_of_ble_eq_true rfl) ⟨Nat.le_of_ble_eq_true rfl, Nat.le_of_ble_eq_true rfl⟩ dX7_tryTakingBack_21 rfl (fun r21 g21 h21 => ?_)
    obtain ⟨rfl, rfl⟩ := h21
    refine v_astore_n o (lv' := [(2, .ref ((atB (a + 4) p1) + 1)), (0, .ref a), (1, .int p1)]) dX7_tryTakingBack_24 rfl (by decide) rfl ?_
    refine v_aload_n o 0 dX7_tryTakingBack_25 rfl ?_
    refine v_cVi o [] [] (fun sz => metX6_size l G P g5 sz ((atB (a + 4) p1) + 1) (wfLoaf_t0 (is_atB (wfComp_t1 ha) p1)) _ h) (cwX7_106 o.1.2.2.2.2 (by decide)) ⟨_, _, rfl⟩ (by decide) (wfWord_o (wfLoaf_t0 (is_atB (wfComp_t1 ha) p1))) rfl (Nat.le_of_ble_eq_true rfl) ⟨Nat.le_of_ble_eq_true rfl, Nat.le_of_ble_eq_true rfl⟩ dX7_tryTakingBack_26 rfl (fun r26 g26 h => ?_)
    refine v_if_ne o (tgt := 35) dX7_tryTakingBack_29 (by decide) (fun c29 => ?_) (fun c29 => ?_)
    · replace h := h.1 c29
      refine v_aload_n o 1 dX7_tryTakingBack_35 rfl ?_
      refine v_gfR o lkX7_40 (by decide) (wfComp_o ha) (wfComp_r5 ha) dX7_tryTakingBack_36 ?_
      refine v_cVr o [] [] (fun sz => metX2_word l G P g26 sz (a + 1410) (wfComp_t5 ha)) (cwX7_74 o.1.2.2.2.2 (by decide)) ⟨_, _, rfl⟩ (by decide) (wfLoaf_o (wfComp_t5 ha)) rfl (Nat.le_of_ble_eq_true rfl) ⟨Nat.le_of_ble_eq_true rfl, Nat.le_of_ble_eq_true rfl⟩ dX7_tryTakingBack_39 rfl (fun r39 g39 h39 => ?_)
      obtain ⟨rfl, rfl⟩ := h39
      refine v_aload_n o 0 dX7_tryTakingBack_42 rfl ?_
      refine v_cVv o [.ref ((atB (a + 4) p1) + 1)] [] (fun sz => metX6_copyFrom l G P g26 sz ((a + 1410) + 1) (wfLoaf_t0 (wfComp_t5 ha)) ((atB (a + 4) p1) + 1) (wfLoaf_t0 (is_atB (wfComp_t1 ha) p1)) _ h) (cwX7_267 o.1.2.2.2.2 (by decide)) ⟨_, _, rfl⟩ (by decide) (wfWord_o (wfLoaf_t0 (wfComp_t5 ha))) rfl (Nat.le_of_ble_eq_true rfl) ⟨Nat.le_of_ble_eq_true rfl, Nat.le_of_ble_eq_true rfl⟩ dX7_tryTakingBack_43 rfl (fun g43 h => ?_)
      refine v_aload_n o 1 dX7_tryTakingBack_46 rfl ?_
      refine v_gfR o lkX7_40 (by decide) (wfComp_o ha) (wfComp_r5 ha) dX7_tryTakingBack_47 ?_
      refine v_cVr o [] [] (fun sz => metX2_word l G P g43 sz (a + 1410) (wfComp_t5 ha)) (cwX7_74 o.1.2.2.2.2 (by decide)) ⟨_, _, rfl⟩ (by decide) (wfLoaf_o (wfComp_t5 ha)) rfl (Nat.le_of_ble_eq_true rfl) ⟨Nat.le_of_ble_eq_true rfl, Nat.le_of_ble_eq_true rfl⟩ dX7_tryTakingBack_50 rfl (fun r50 g50 h50 => ?_)
      obtain ⟨rfl, rfl⟩ := h50
      refine v_aload_n o 0 dX7_tryTakingBack_53 rfl ?_
      refine v_cVi o [] [.ref ((a + 1410) + 1)] (fun sz => metX6_size l G P g43 sz ((atB (a + 4) p1) + 1) (wfLoaf_t0 (is_atB (wfComp_t1 ha) p1)) _ h) (cwX7_106 o.1.2.2.2.2 (by decide)) ⟨_, _, rfl⟩ (by decide) (wfWord_o (wfLoaf_t0 (is_atB (wfComp_t1 ha) p1))) rfl (Nat.le_of_ble_eq_true rfl) ⟨Nat.le_of_ble_eq_true rfl, Nat.le_of_ble_eq_true rfl⟩ dX7_tryTakingBack_54 rfl (fun r54 g54 h => ?_)
      refine v_iconst o (v := 1) dX7_tryTakingBack_57 (by decide) ?_
      refine v_isub o dX7_tryTakingBack_58 ?_
      refine v_cVv o [.int (r54 - 1)] [] (fun sz => metX6_removeAt l G P g54 sz ((a + 1410) + 1) (wfLoaf_t0 (wfComp_t5 ha)) (r54 - 1) _ h) (cwX7_276 o.1.2.2.2.2 (by decide)) ⟨_, _, rfl⟩ (by decide) (wfWord_o (wfLoaf_t0 (wfComp_t5 ha))) rfl (Nat.le_of_ble_eq_true rfl) ⟨Nat.le_of_ble_eq_true rfl, Nat.le_of_ble_eq_true rfl⟩ dX7_tryTakingBack_59 rfl (fun g59 h => ?_)
      refine v_aload_n o 1 dX7_tryTakingBack_62 rfl ?_
      refine v_gfR o lkX7_40 (by decide) (wfComp_o ha) (wfComp_r5 ha) dX7_tryTakingBack_63 ?_
      refine v_cVi o [] [] (fun sz => metX2_settle l G P g59 sz (a + 1410) (wfComp_t5 ha) _ h) (cwX7_82 o.1.2.2.2.2 (by decide)) ⟨_, _, rfl⟩ (by decide) (wfLoaf_o (wfComp_t5 ha)) rfl (Nat.le_of_ble_eq_true rfl) ⟨Nat.le_of_ble_eq_true rfl, Nat.le_of_ble_eq_true rfl⟩ dX7_tryTakingBack_66 rfl (fun r66 g66 h => ?_)
      exact v_iret o rfl hr dX7_tryTakingBack_69 h
    · replace h := h.2 c29
      refine v_bipush o (v := 6) dX7_tryTakingBack_32 (by decide) ?_
      exact v_iret o rfl hr dX7_tryTakingBack_34 h
  · replace h := h.2 c8
    refine v_iconst o (v := 3) dX7_tryTakingBack_11 (by decide) ?_
    exact v_iret o rfl hr dX7_tryTakingBack_12 h
abbrev kX7_tryTakingBack := @vX7_tryTakingBack
abbrev metX7_tryTakingBack := @mX7_tryTakingBack
theorem del_last : ∀ (w : List Nat), w.length ≠ 0 → del w (w.length - 1) = w.take (w.length - 1)
  | [], h => absurd rfl h
  | [_], _ => rfl
  | x :: y :: r, _ => by
    have := del_last (y :: r) (by simp)
    simp only [List.length_cons, Nat.add_sub_cancel] at this ⊢
    rw [del, this, List.take_succ_cons]
theorem u7_tryTakingBack {P : Sk} {f : St} {x : Nat} {A : Ab} {p : Int32} {K : Int32 → St → Prop} (hx : IsComp P x) (hC : CompIs f x A) (hK : TryK f x K (rsBack A.1 p)) : kX7_tryTakingBack P f x p K := by
  show vX7_tryTakingBack P f x p K
  unfold vX7_tryTakingBack
  have ho := hC.2.2.2.2.2.1
  unfold rsBack at hK
  refine u0_hasB hC.2.1 ho (fun h => ⟨fun _ => ?_, fun q => absurd q (by decide)⟩) (fun h => ⟨fun q => absurd rfl q, fun _ => ?_⟩)
  · rw [cif_pos h] at hK
    have hL := hC.2.1.atP ho h
    have hk := ho.has h
    have hin := atB_in (b := x + 4) ho h
    have hl := hk.1.2.2.1
    show vX6_size P f _ _
    unfold vX6_size
    rw [hL.1.2.1]
    change _ ∧ _
    rw [show (0 : Int32) = nI 0 from rfl, nI_eq (by omega) (by omega)]
    refine ⟨fun q3 => ?_, fun q3 => ?_⟩
    · rw [cif_neg q3] at hK
      refine u6_copyFrom (wfLoaf_t0 (wfComp_t5 hx)) (wfLoaf_t0 (is_atB (wfComp_t1 hx) p)) (by omega) hL.1 hl (fun g1 r1 w1 => ?_)
      have hL1 := hL.out r1 (by omega)
      show vX6_size P g1 _ _
      unfold vX6_size
      rw [hL1.1.2.1]
      have hp : nI (lfP A.1 p).2.length - 1 = nI ((lfP A.1 p).2.length - 1) := by
        conv => lhs; rw [show (lfP A.1 p).2.length = ((lfP A.1 p).2.length - 1) + 1 by omega]
        exact nI_m1 _
      change kX6_removeAt P g1 _ (nI (lfP A.1 p).2.length - 1) _
      rw [hp]
      refine ⟨_, _, _, rfl, by omega, hl, w1, fun g2 r2 w2 => ?_⟩
      rw [del_last _ q3] at w2
      refine u7_settle (f := f) (y := ((lfP A.1 p).1, (lfP A.1 p).2.take ((lfP A.1 p).2.length - 1))) w2 (hk.1.take _) ((r1.mono (by omega) (by omega)).trans (r2.mono (by omega) (by omega))) ?_
      unfold rsS
      rw [cif_pos (hk.2.init _)]
      exact hK
    · rw [cif_pos q3] at hK
      exact hK f (Fr.refl _ _ _) (fun q => absurd q (Nat.succ_ne_zero _))
  · rw [cif_neg h] at hK
    exact hK f (Fr.refl _ _ _) (fun q => absurd q (Nat.succ_ne_zero _))

def vX7_tryChange (P : Sk) (f : St) (a : Nat) (p1 : Int32) (p2 : Int32) (K : Int32 → St → Prop) : Prop :=
  kX0_has P f (a + 4) p1 (fun r5 g5 => (¬ r5 = 0 → kX6_makeChanged P g5 ((a + 1410) + 1) ((atB (a + 4) p1) + 1) p2 (fun g32 => kX2_settle P g32 (a + 1410) (fun r39 g39 => K r39 g39))) ∧ (r5 = 0 → K 3 g5))
set_option maxRecDepth 20000 in
set_option maxHeartbeats 4000000 in
theorem mX7_tryChange (l : Launch) (G : Gl) (P : Sk) (f : St) (sz : Nat) (a : Nat) (ha : IsComp P a) (p1 : Int32) (p2 : Int32) (K : Int32 → St → Prop) (h : vX7_tryChange P f a p1 p2 K)  :
  Met l yX7_tryChange (wU yX7_tryChange cX7_tryChange 3 (some .int)) rmX7_tryChange (PcW G P f sz [.ref a, .int p1, .int p2]) (QcI G P sz K) 0 0 (frA P sz) := by
  refine v_met (own := RX7) [.ref a, .int p1, .int p2] (by decide +kernel) rfl (Nat.le_of_ble_eq_true rfl) (fun p e s m args below meth c hsz o hr hnm => ?_)
  refine v_lv (lv2 := [(0, .ref a), (1, .int p1), (2, .int p2)]) rfl ?_
  unfold vX7_tryChange at h
  refine v_aload_n o 0 dX7_tryChange_0 rfl ?_
  refine v_gfR o lkX7_19 (by decide) (wfComp_o ha) (wfComp_r1 ha) dX7_tryChange_1 ?_
  refine v_iload_n o 1 dX7_tryChange_4 rfl ?_
  refine v_cVi o [.int p1] [] (fun sz => metX0_has l G P f sz (a + 4) (wfComp_t1 ha) p1 _ h) (cwX7_249 o.1.2.2.2.2 (by decide)) ⟨_, _, rfl⟩ (by decide) (wfBoard_o (wfComp_t1 ha)) rfl (Nat.le_of_ble_eq_true rfl) ⟨Nat.le_of_ble_eq_true rfl, Nat.le_of_ble_eq_true rfl⟩ dX7_tryChange_5 rfl (fun r5 g5 h => ?_)
  refine v_if_ne o (tgt := 13) dX7_tryChange_8 (by decide) (fun c8 => ?_) (fun c8 => ?_)
  · replace h := h.1 c8
    refine v_aload_n o 0 dX7_tryChange_13 rfl ?_
    refine v_gfR o lkX7_40 (by decide) (wfComp_o ha) (wfComp_r5 ha) dX7_tryChange_14 ?_
    refine v_cVr o [] [] (fun sz => metX2_word l G P g5 sz (a + 1410) (wfComp_t5 ha)) (cwX7_74 o.1.2.2.2.2 (by decide)) ⟨_, _, rfl⟩ (by decide) (wfLoaf_o (wfComp_t5 ha)) rfl (Nat.le_of_ble_eq_true rfl) ⟨Nat.le_of_ble_eq_true rfl, Nat.le_of_ble_eq_true rfl⟩ dX7_tryChange_17 rfl (fun r17 g17 h17 => ?_)
    obtain ⟨rfl, rfl⟩ := h17
    refine v_aload_n o 0 dX7_tryChange_20 rfl ?_
    refine v_gfR o lkX7_19 (by decide) (wfComp_o ha) (wfComp_r1 ha) dX7_tryChange_21 ?_
    refine v_iload_n o 1 dX7_tryChange_24 rfl ?_
    refine v_cVr o [.int p1] [.ref ((a + 1410) + 1)] (fun sz => metX0_at l G P g5 sz (a + 4) (wfComp_t1 ha) p1) (cwX7_102 o.1.2.2.2.2 (by decide)) ⟨_, _, rfl⟩ (by decide) (wfBoard_o (wfComp_t1 ha)) rfl (Nat.le_of_ble_eq_true rfl) ⟨Nat.le_of_ble_eq_true rfl, Nat.le_of_ble_eq_true rfl⟩ dX7_tryChange_25 rfl (fun r25 g25 h25 => ?_)
    obtain ⟨rfl, rfl⟩ := h25
    refine v_cVr o [] [.ref ((a + 1410) + 1)] (fun sz => metX2_word l G P g5 sz (atB (a + 4) p1) (is_atB (wfComp_t1 ha) p1)) (cwX7_74 o.1.2.2.2.2 (by decide)) ⟨_, _, rfl⟩ (by decide) (wfLoaf_o (is_atB (wfComp_t1 ha) p1)) rfl (Nat.le_of_ble_eq_true rfl) ⟨Nat.le_of_ble_eq_true rfl, Nat.le_of_ble_eq_true rfl⟩ dX7_tryChange_28 rfl (fun r28 g28 h28 => ?_)
    obtain ⟨rfl, rfl⟩ := h28
    refine v_iload_n o 2 dX7_tryChange_31 rfl ?_
    refine v_cVv o [.ref ((atB (a + 4) p1) + 1), .int p2] [] (fun sz => metX6_makeChanged l G P g5 sz ((a + 1410) + 1) (wfLoaf_t0 (wfComp_t5 ha)) ((atB (a + 4) p1) + 1) (wfLoaf_t0 (is_atB (wfComp_t1 ha) p1)) p2 _ h) (cwX7_279 o.1.2.2.2.2 (by decide)) ⟨_, _, rfl⟩ (by decide) (wfWord_o (wfLoaf_t0 (wfComp_t5 ha))) rfl (Nat.le_of_ble_eq_true rfl) ⟨Nat.le_of_ble_eq_true rfl, Nat.le_of_ble_eq_true rfl⟩ dX7_tryChange_32 rfl (fun g32 h => ?_)
    refine v_aload_n o 0 dX7_tryChange_35 rfl ?_
    refine v_gfR o lkX7_40 (by decide) (wfComp_o ha) (wfComp_r5 ha) dX7_tryChange_36 ?_
    refine v_cVi o [] [] (fun sz => metX2_settle l G P g32 sz (a + 1410) (wfComp_t5 ha) _ h) (cwX7_82 o.1.2.2.2.2 (by decide)) ⟨_, _, rfl⟩ (by decide) (wfLoaf_o (wfComp_t5 ha)) rfl (Nat.le_of_ble_eq_true rfl) ⟨Nat.le_of_ble_eq_true rfl, Nat.le_of_ble_eq_true rfl⟩ dX7_tryChange_39 rfl (fun r39 g39 h => ?_)
    exact v_iret o rfl hr dX7_tryChange_42 h
  · replace h := h.2 c8
    refine v_iconst o (v := 3) dX7_tryChange_11 (by decide) ?_
    exact v_iret o rfl hr dX7_tryChange_12 h
abbrev kX7_tryChange := @vX7_tryChange
abbrev metX7_tryChange := @mX7_tryChange
theorem u7_tryChange {P : Sk} {f : St} {x how : Nat} {A : Ab} {p : Int32} {K : Int32 → St → Prop} (hx : IsComp P x) (hC : CompIs f x A) (hh : how < 4) (hK : TryK f x K (rsChange A.1 p how)) : kX7_tryChange P f x p (nI how) K := by
  show vX7_tryChange P f x p (nI how) K
  unfold vX7_tryChange
  have ho := hC.2.2.2.2.2.1
  unfold rsChange at hK
  refine u0_hasB hC.2.1 ho (fun h => ⟨fun _ => ?_, fun q => absurd q (by decide)⟩) (fun h => ⟨fun q => absurd rfl q, fun _ => ?_⟩)
  · rw [cif_pos h] at hK
    have hL := hC.2.1.atP ho h
    have hk := ho.has h
    have hin := atB_in (b := x + 4) ho h
    refine ⟨_, _, how, rfl, hh, hL.1, hk.1, by omega, fun g1 r1 w1 => ?_⟩
    exact u7_settle (y := ((lfP A.1 p).1, chg (lfP A.1 p).1 (lfP A.1 p).2 how)) w1 (wok_chg hk.1 how) (r1.mono (by omega) (by omega)) hK
  · rw [cif_neg h] at hK
    exact hK f (Fr.refl _ _ _) (fun q => absurd q (Nat.succ_ne_zero _))

def vX7_tryJoining (P : Sk) (f : St) (a : Nat) (p1 : Int32) (p2 : Int32) (K : Int32 → St → Prop) : Prop :=
  kX0_has P f (a + 4) p1 (fun r5 g5 => (r5 = 0 → K 3 g5) ∧ (¬ r5 = 0 → kX0_has P g5 (a + 4) p2 (fun r16 g16 => (¬ r16 = 0 → kX6_strands P g16 ((atB (a + 4) p1) + 1) (fun r50 g50 => kX6_strands P g50 ((atB (a + 4) p2) + 1) (fun r55 g55 => (r50 = r55 → kX6_size P g55 ((atB (a + 4) p1) + 1) (fun r64 g64 => kX6_size P g64 ((atB (a + 4) p2) + 1) (fun r69 g69 => (r64 + r69 ≤ 24 → kX6_copyFrom P g69 ((a + 1410) + 1) ((atB (a + 4) p1) + 1) (fun g88 => kX6_addAll P g88 ((a + 1410) + 1) ((atB (a + 4) p2) + 1) (fun g100 => kX2_settle P g100 (a + 1410) (fun r107 g107 => K r107 g107)))) ∧ (¬ r64 + r69 ≤ 24 → K 1 g69)))) ∧ (¬ r50 = r55 → K 5 g55)))) ∧ (r16 = 0 → K 3 g16))))
set_option maxRecDepth 20000 in
set_option maxHeartbeats 4000000 in
theorem mX7_tryJoining (l : Launch) (G : Gl) (P : Sk) (f : St) (sz : Nat) (a : Nat) (ha : IsComp P a) (p1 : Int32) (p2 : Int32) (K : Int32 → St → Prop) (h : vX7_tryJoining P f a p1 p2 K)  :
  Met l yX7_tryJoining (wU yX7_tryJoining cX7_tryJoining 5 (some .int)) rmX7_tryJoining (PcW G P f sz [.ref a, .int p1, .int p2]) (QcI G P sz K) 0 0 (frA P sz) := by
  refine v_met (own := RX7) [.ref a, .int p1, .int p2] (by decide +kernel) rfl (Nat.le_of_ble_eq_true rfl) (fun p e s m args below meth c hsz o hr hnm => ?_)
  refine v_lv (lv2 := [(0, .ref a), (1, .int p1), (2, .int p2)]) rfl ?_
  unfold vX7_tryJoining at h
  refine v_aload_n o 0 dX7_tryJoining_0 rfl ?_
  refine v_gfR o lkX7_19 (by decide) (wfComp_o ha) (wfComp_r1 ha) dX7_tryJoining_1 ?_
  refine v_iload_n o 1 dX7_tryJoining_4 rfl ?_
  refine v_cVi o [.int p1] [] (fun sz => metX0_has l G P f sz (a + 4) (wfComp_t1 ha) p1 _ h) (cwX7_249 o.1.2.2.2.2 (by decide)) ⟨_, _, rfl⟩ (by decide) (wfBoard_o (wfComp_t1 ha)) rfl (Nat.le_of_ble_eq_true rfl) ⟨Nat.le_of_ble_eq_true rfl, Nat.le_of_ble_eq_true rfl⟩ dX7_tryJoining_5 rfl (fun r5 g5 h => ?_)
  refine v_if_eq o (tgt := 22) dX7_tryJoining_8 (by decide) (fun c8 => ?_) (fun c8 => ?_)
  · replace h := h.1 c8
    refine v_iconst o (v := 3) dX7_tryJoining_22 (by decide) ?_
    exact v_iret o rfl hr dX7_tryJoining_23 h
  · replace h := h.2 c8
    refine v_aload_n o 0 dX7_tryJoining_11 rfl ?_
    refine v_gfR o lkX7_19 (by decide) (wfComp_o ha) (wfComp_r1 ha) dX7_tryJoining_12 ?_
    refine v_iload_n o 2 dX7_tryJoining_15 rfl ?_
    refine v_cVi o [.int p2] [] (fun sz => metX0_has l G P g5 sz (a + 4) (wfComp_t1 ha) p2 _ h) (cwX7_249 o.1.2.2.2.2 (by decide)) ⟨_, _, rfl⟩ (by decide) (wfBoard_o (wfComp_t1 ha)) rfl (Nat.le_of_ble_eq_true rfl) ⟨Nat.le_of_ble_eq_true rfl, Nat.le_of_ble_eq_true rfl⟩ dX7_tryJoining_16 rfl (fun r16 g16 h => ?_)
    refine v_if_ne o (tgt := 24) dX7_tryJoining_19 (by decide) (fun c19 => ?_) (fun c19 => ?_)
    · replace h := h.1 c19
      refine v_aload_n o 0 dX7_tryJoining_24 rfl ?_
      refine v_gfR o lkX7_19 (by decide) (wfComp_o ha) (wfComp_r1 ha) dX7_tryJoining_25 ?_
      refine v_iload_n o 1 dX7_tryJoining_28 rfl ?_
      refine v_cVr o [.int p1] [] (fun sz => metX0_at l G P g16 sz (a + 4) (wfComp_t1 ha) p1) (cwX7_102 o.1.2.2.2.2 (by decide)) ⟨_, _, rfl⟩ (by decide) (wfBoard_o (wfComp_t1 ha)) rfl (Nat.le_of_ble_eq_true rfl) ⟨Nat.le_of_ble_eq_true rfl, Nat.le_of_ble_eq_true rfl⟩ dX7_tryJoining_29 rfl (fun r29 g29 h29 => ?_)
      obtain ⟨rfl, rfl⟩ := h29
      refine v_cVr o [] [] (fun sz => metX2_word l G P g16 sz (atB (a + 4) p1) (is_atB (wfComp_t1 ha) p1)) (cwX7_74 o.1.2.2.2.2 (by decide)) ⟨_, _, rfl⟩ (by decide) (wfLoaf_o (is_atB (wfComp_t1 ha) p1)) rfl (Nat.le_of_ble_eq_true rfl) ⟨Nat.le_of_ble_eq_true rfl, Nat.le_of_ble_eq_true rfl⟩ dX7_tryJoining_32 rfl (fun r32 g32 h32 => ?_)
      obtain ⟨rfl, rfl⟩ := h32
      refine v_astore_n o (lv' := [(3, .ref ((atB (a + 4) p1) + 1)), (0, .ref a), (1, .int p1), (2, .int p2)]) dX7_tryJoining_35 rfl (by decide) rfl ?_
      refine v_aload_n o 1 dX7_tryJoining_36 rfl ?_
      refine v_gfR o lkX7_19 (by decide) (wfComp_o ha) (wfComp_r1 ha) dX7_tryJoining_37 ?_
      refine v_iload_n o 3 dX7_tryJoining_40 rfl ?_
      refine v_cVr o [.int p2] [] (fun sz => metX0_at l G P g16 sz (a + 4) (wfComp_t1 ha) p2) (cwX7_102 o.1.2.2.2.2 (by decide)) ⟨_, _, rfl⟩ (by decide) (wfBoard_o (wfComp_t1 ha)) rfl (Nat.le_of_ble_eq_true rfl) ⟨Nat.le_of_ble_eq_true rfl, Nat.le_of_ble_eq_true rfl⟩ dX7_tryJoining_41 rfl (fun r41 g41 h41 => ?_)
      obtain ⟨rfl, rfl⟩ := h41
      refine v_cVr o [] [] (fun sz => metX2_word l G P g16 sz (atB (a + 4) p2) (is_atB (wfComp_t1 ha) p2)) (cwX7_74 o.1.2.2.2.2 (by decide)) ⟨_, _, rfl⟩ (by decide) (wfLoaf_o (is_atB (wfComp_t1 ha) p2)) rfl (Nat.le_of_ble_eq_true rfl) ⟨Nat.le_of_ble_eq_true rfl, Nat.le_of_ble_eq_true rfl⟩ dX7_tryJoining_44 rfl (fun r44 g44 h44 => ?_)
      obtain ⟨rfl, rfl⟩ := h44
      refine v_astore o (lv' := [(4, .ref ((atB (a + 4) p2) + 1)), (3, .ref ((atB (a + 4) p1) + 1)), (0, .ref a), (1, .int p1), (2, .int p2)]) dX7_tryJoining_47 (by decide) rfl ?_
      refine v_aload_n o 1 dX7_tryJoining_49 rfl ?_
      refine v_cVi o [] [] (fun sz => metX6_strands l G P g16 sz ((atB (a + 4) p1) + 1) (wfLoaf_t0 (is_atB (wfComp_t1 ha) p1)) _ h) (cwX7_283 o.1.2.2.2.2 (by decide)) ⟨_, _, rfl⟩ (by decide) (wfWord_o (wfLoaf_t0 (is_atB (wfComp_t1 ha) p1))) rfl (Nat.le_of_ble_eq_true rfl) ⟨Nat.le_of_ble_eq_true rfl, Nat.le_of_ble_eq_true rfl⟩ dX7_tryJoining_50 rfl (fun r50 g50 h => ?_)
      refine v_aload o 0 dX7_tryJoining_53 rfl ?_
      refine v_cVi o [] [.int r50] (fun sz => metX6_strands l G P g50 sz ((atB (a + 4) p2) + 1) (wfLoaf_t0 (is_atB (wfComp_t1 ha) p2)) _ h) (cwX7_283 o.1.2.2.2.2 (by decide)) ⟨_, _, rfl⟩ (by decide) (wfWord_o (wfLoaf_t0 (is_atB (wfComp_t1 ha) p2))) rfl (Nat.le_of_ble_eq_true rfl) ⟨Nat.le_of_ble_eq_true rfl, Nat.le_of_ble_eq_true rfl⟩ dX7_tryJoining_55 rfl (fun r55 g55 h => ?_)
      refine v_icmp_eq o (tgt := 63) dX7_tryJoining_58 (by decide) (fun c58 => ?_) (fun c58 => ?_)
      · replace h := h.1 c58
        refine v_aload_n o 1 dX7_tryJoining_63 rfl ?_
        refine v_cVi o [] [] (fun sz => metX6_size l G P g55 sz ((atB (a + 4) p1) + 1) (wfLoaf_t0 (is_atB (wfComp_t1 ha) p1)) _ h) (cwX7_106 o.1.2.2.2.2 (by decide)) ⟨_, _, rfl⟩ (by decide) (wfWord_o (wfLoaf_t0 (is_atB (wfComp_t1 ha) p1))) rfl (Nat.le_of_ble_eq_true rfl) ⟨Nat.le_of_ble_eq_true rfl, Nat.le_of_ble_eq_true rfl⟩ dX7_tryJoining_64 rfl (fun r64 g64 h => ?_)
        refine v_aload o 0 dX7_tryJoining_67 rfl ?_
        refine v_cVi o [] [.int r64] (fun sz => metX6_size l G P g64 sz ((atB (a + 4) p2) + 1) (wfLoaf_t0 (is_atB (wfComp_t1 ha) p2)) _ h) (cwX7_106 o.1.2.2.2.2 (by decide)) ⟨_, _, rfl⟩ (by decide) (wfWord_o (wfLoaf_t0 (is_atB (wfComp_t1 ha) p2))) rfl (Nat.le_of_ble_eq_true rfl) ⟨Nat.le_of_ble_eq_true rfl, Nat.le_of_ble_eq_true rfl⟩ dX7_tryJoining_69 rfl (fun r69 g69 h => ?_)
        refine v_iadd o dX7_tryJoining_72 ?_
        refine v_bipush o (v := 24) dX7_tryJoining_73 (by decide) ?_
        refine v_icmp_le o (tgt := 80) dX7_tryJoining_75 (by decide) (fun c75 => ?_) (fun c75 => ?_)
        · replace h := h.1 c75
          refine v_aload_n o 2 dX7_tryJoining_80 rfl ?_
          refine v_gfR o lkX7_40 (by decide) (wfComp_o ha) (wfComp_r5 ha) dX7_tryJoining_81 ?_
          refine v_cVr o [] [] (fun sz => metX2_word l G P g69 sz (a + 1410) (wfComp_t5 ha)) (cwX7_74 o.1.2.2.2.2 (by decide)) ⟨_, _, rfl⟩ (by decide) (wfLoaf_o (wfComp_t5 ha)) rfl (Nat.le_of_ble_eq_true rfl) ⟨Nat.le_of_ble_eq_true rfl, Nat.le_of_ble_eq_true rfl⟩ dX7_tryJoining_84 rfl (fun r84 g84 h84 => ?_)
          obtain ⟨rfl, rfl⟩ := h84
          refine v_aload_n o 1 dX7_tryJoining_87 rfl ?_
          refine v_cVv o [.ref ((atB (a + 4) p1) + 1)] [] (fun sz => metX6_copyFrom l G P g69 sz ((a + 1410) + 1) (wfLoaf_t0 (wfComp_t5 ha)) ((atB (a + 4) p1) + 1) (wfLoaf_t0 (is_atB (wfComp_t1 ha) p1)) _ h) (cwX7_267 o.1.2.2.2.2 (by decide)) ⟨_, _, rfl⟩ (by decide) (wfWord_o (wfLoaf_t0 (wfComp_t5 ha))) rfl (Nat.le_of_ble_eq_true rfl) ⟨Nat.le_of_ble_eq_true rfl, Nat.le_of_ble_eq_true rfl⟩ dX7_tryJoining_88 rfl (fun g88 h => ?_)
          refine v_aload_n o 2 dX7_tryJoining_91 rfl ?_
          refine v_gfR o lkX7_40 (by decide) (wfComp_o ha) (wfComp_r5 ha) dX7_tryJoining_92 ?_
          refine v_cVr o [] [] (fun sz => metX2_word l G P g88 sz (a + 1410) (wfComp_t5 ha)) (cwX7_74 o.1.2.2.2.2 (by decide)) ⟨_, _, rfl⟩ (by decide) (wfLoaf_o (wfComp_t5 ha)) rfl (Nat.le_of_ble_eq_true rfl) ⟨Nat.le_of_ble_eq_true rfl, Nat.le_of_ble_eq_true rfl⟩ dX7_tryJoining_95 rfl (fun r95 g95 h95 => ?_)
          obtain ⟨rfl, rfl⟩ := h95
          refine v_aload o 0 dX7_tryJoining_98 rfl ?_
          refine v_cVv o [.ref ((atB (a + 4) p2) + 1)] [] (fun sz => metX6_addAll l G P g88 sz ((a + 1410) + 1) (wfLoaf_t0 (wfComp_t5 ha)) ((atB (a + 4) p2) + 1) (wfLoaf_t0 (is_atB (wfComp_t1 ha) p2)) _ h) (cwX7_286 o.1.2.2.2.2 (by decide)) ⟨_, _, rfl⟩ (by decide) (wfWord_o (wfLoaf_t0 (wfComp_t5 ha))) rfl (Nat.le_of_ble_eq_true rfl) ⟨Nat.le_of_ble_eq_true rfl, Nat.le_of_ble_eq_true rfl⟩ dX7_tryJoining_100 rfl (fun g100 h => ?_)
          refine v_aload_n o 2 dX7_tryJoining_103 rfl ?_
          refine v_gfR o lkX7_40 (by decide) (wfComp_o ha) (wfComp_r5 ha) dX7_tryJoining_104 ?_
          refine v_cVi o [] [] (fun sz => metX2_settle l G P g100 sz (a + 1410) (wfComp_t5 ha) _ h) (cwX7_82 o.1.2.2.2.2 (by decide)) ⟨_, _, rfl⟩ (by decide) (wfLoaf_o (wfComp_t5 ha)) rfl (Nat.le_of_ble_eq_true rfl) ⟨Nat.le_of_ble_eq_true rfl, Nat.le_of_ble_eq_true rfl⟩ dX7_tryJoining_107 rfl (fun r107 g107 h => ?_)
          exact v_iret o rfl hr dX7_tryJoining_110 h
        · replace h := h.2 c75
          refine v_iconst o (v := 1) dX7_tryJoining_78 (by decide) ?_
          exact v_iret o rfl hr dX7_tryJoining_79 h
      · replace h := h.2 c58
        refine v_iconst o (v := 5) dX7_tryJoining_61 (by decide) ?_
        exact v_iret o rfl hr dX7_tryJoining_62 h
    · replace h := h.2 c19
      refine v_iconst o (v := 3) dX7_tryJoining_22 (by decide) ?_
      exact v_iret o rfl hr dX7_tryJoining_23 h
abbrev kX7_tryJoining := @vX7_tryJoining
abbrev metX7_tryJoining := @mX7_tryJoining
theorem u7_tryJoining {P : Sk} {f : St} {x : Nat} {A : Ab} {p q : Int32} {K : Int32 → St → Prop} (hx : IsComp P x) (hC : CompIs f x A) (hK : TryK f x K (rsJoin A.1 p q)) : kX7_tryJoining P f x p q K := by
  show vX7_tryJoining P f x p q K
  unfold vX7_tryJoining
  have ho := hC.2.2.2.2.2.1
  unfold rsJoin at hK
  have no : ¬ (hasB A.1 p ∧ hasB A.1 q) → K 3 f := by
    intro h
    rw [cif_neg h] at hK
    exact hK f (Fr.refl _ _ _) (fun q => absurd q (Nat.succ_ne_zero _))
  refine u0_hasB hC.2.1 ho (fun h => ⟨fun q => absurd q (by decide), fun _ => ?_⟩) (fun h => ⟨fun _ => no (fun h2 => h h2.1), fun q => absurd rfl q⟩)
  refine u0_hasB hC.2.1 ho (fun h' => ⟨fun _ => ?_, fun q => absurd q (by decide)⟩) (fun h' => ⟨fun q => absurd rfl q, fun _ => no (fun h2 => h' h2.2)⟩)
  rw [cif_pos ⟨h, h'⟩] at hK
  have hL := hC.2.1.atP ho h
  have hk := ho.has h
  have hin := atB_in (b := x + 4) ho h
  have hl := hk.1.2.2.1
  have h7 := hk.1.2.1
  have hL' := hC.2.1.atP ho h'
  have hk' := ho.has h'
  have hin' := atB_in (b := x + 4) ho h'
  have hl' := hk'.1.2.2.1
  have h7' := hk'.1.2.1
  refine u6_strands hL.1.1 ?_
  refine u6_strands hL'.1.1 ?_
  rw [nI_eq (by omega) (by omega)]
  refine ⟨fun q1 => ?_, fun q1 => ?_⟩
  · rw [cif_pos q1] at hK
    refine u6_size hL.1.2.1 ?_
    refine u6_size hL'.1.2.1 ?_
    rw [nI_add, show (24 : Int32) = nI 24 from rfl, nI_leI (by omega) (by omega)]
    refine ⟨fun q2 => ?_, fun q2 => ?_⟩
    · rw [cif_pos q2] at hK
      refine u6_copyFrom (wfLoaf_t0 (wfComp_t5 hx)) (wfLoaf_t0 (is_atB (wfComp_t1 hx) p)) (by omega) hL.1 hl (fun g1 r1 w1 => ?_)
      have hL1 := hL'.out r1 (by omega)
      refine ⟨_, _, _, _, w1, hL1.1, by omega, q2, fun g2 r2 w2 => ?_⟩
      have k := hk'.1
      rw [← q1] at k
      exact u7_settle (y := ((lfP A.1 p).1, (lfP A.1 p).2 ++ (lfP A.1 q).2)) w2 (wok_app hk.1 k q2) ((r1.mono (by omega) (by omega)).trans (r2.mono (by omega) (by omega))) hK
    · rw [cif_neg q2] at hK
      exact hK f (Fr.refl _ _ _) (fun q => absurd q (Nat.succ_ne_zero _))
  · rw [cif_neg q1] at hK
    exact hK f (Fr.refl _ _ _) (fun q => absurd q (Nat.succ_ne_zero _))

