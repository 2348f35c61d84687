def jX7_append_12 (P : Sk) (a : Nat) (p1 : Int32) (K : Int32 → St → Prop) (X : String → St → Prop) (f : St) : Prop :=
  X "java/lang/IllegalArgumentException" f
def vX7_append (P : Sk) (f : St) (a : Nat) (p1 : Int32) (K : Int32 → St → Prop) (X : String → St → Prop) : Prop :=
  (p1 < 33 → jX7_append_12 P a p1 K X  f) ∧ (¬ p1 < 33 → (p1 ≤ 126 → kX4_size P f (a + 1) (fun r26 g26 => (r26 < 60 → kX4_addSign P g26 (a + 1) p1 (fun g49 => kX4_size P g49 (a + 1) (fun r56 g56 => K r56 g56))) ∧ (¬ r26 < 60 → X "java/lang/IllegalStateException" g26))) ∧ (¬ p1 ≤ 126 → jX7_append_12 P a p1 K X  f))
set_option maxRecDepth 20000 in
set_option maxHeartbeats 4000000 in
theorem mX7_append (l : Launch) (G : Gl) (P : Sk) (f : St) (sz : Nat) (a : Nat) (ha : IsComp P a) (p1 : Int32) (K : Int32 → St → Prop) (h : vX7_append P f a p1 K XF)  :
  Met l yX7_append (wU yX7_append cX7_append 2 (some .int)) rmX7_append (PcW G P f sz [.ref a, .int p1]) (QcI G P sz K) 0 0 (frA P sz) := by
  refine v_met (own := RX7) [.ref a, .int p1] (by decide +kernel) rfl (Nat.le_of_ble_eq_true rfl) (fun p e s m args below meth c hsz o hr hnm => ?_)
  refine v_lv (lv2 := [(0, .ref a), (1, .int p1)]) rfl ?_
  have J12 : ∀ (g12 : St), jX7_append_12 P a p1 K XF  g12 → V p l e rmX7_append s m args below meth c 2 G (frA P sz) (MQ below (QcI G P sz K) args s 0 0 (frA P sz)) 0 0 P [(0, .ref a), (1, .int p1)] [] 12 g12 := by
    intro  g12  h
    unfold jX7_append_12 at h
    exact False.elim h
  unfold vX7_append at h
  refine v_iload_n o 1 dX7_append_0 rfl ?_
  refine v_bipush o (v := 33) dX7_append_1 (by decide) ?_
  refine v_icmp_lt o (tgt := 12) dX7_append_3 (by decide) (fun c3 => ?_) (fun c3 => ?_)
  · replace h := h.1 c3
    refine v_sub [0, 1] (lv2 := [(0, .ref a), (1, .int p1)]) rfl ?_
    exact J12  f  h
  · replace h := h.2 c3
    refine v_iload_n o 1 dX7_append_6 rfl ?_
    refine v_bipush o (v := 126) dX7_append_7 (by decide) ?_
    refine v_icmp_le o (tgt := 22) dX7_append_9 (by decide) (fun c9 => ?_) (fun c9 => ?_)
    · replace h := h.1 c9
      refine v_aload_n o 0 dX7_append_22 rfl ?_
      refine v_gfR o lkX7_10 (by decide) (wfComp_o ha) (wfComp_r0 ha) dX7_append_23 ?_
      refine v_cVi o [] [] (fun sz => metX4_size l G P f sz (a + 1) (wfComp_t0 ha) _ h) (cwX7_152 o.1.2.2.2.2 (by decide)) ⟨_, _, rfl⟩ (by decide) (wfText_o (wfComp_t0 ha)) rfl (Nat.le_of_ble_eq_true rfl) ⟨Nat.le_of_ble_eq_true rfl, Nat.le_of_ble_eq_true rfl⟩ dX7_append_26 rfl (fun r26 g26 h => ?_)
      refine v_bipush o (v := 60) dX7_append_29 (by decide) ?_
      refine v_icmp_lt o (tgt := 44) dX7_append_31 (by decide) (fun c31 => ?_) (fun c31 => ?_)
      · replace h := h.1 c31
        refine v_aload_n o 0 dX7_append_44 rfl ?_
        refine v_gfR o lkX7_10 (by decide) (wfComp_o ha) (wfComp_r0 ha) dX7_append_45 ?_
        refine v_iload_n o 1 dX7_append_48 rfl ?_
        refine v_cVv o [.int p1] [] (fun sz => metX4_addSign l G P g26 sz (a + 1) (wfComp_t0 ha) p1 _ h) (cwX7_155 o.1.2.2.2.2 (by decide)) ⟨_, _, rfl⟩ (by decide) (wfText_o (wfComp_t0 ha)) rfl (Nat.le_of_ble_eq_true rfl) ⟨Nat.le_of_ble_eq_true rfl, Nat.le_of_ble_eq_true rfl⟩ dX7_append_49 rfl (fun g49 h => ?_)
        refine v_aload_n o 0 dX7_append_52 rfl ?_
        refine v_gfR o lkX7_10 (by decide) (wfComp_o ha) (wfComp_r0 ha) dX7_append_53 ?_
        refine v_cVi o [] [] (fun sz => metX4_size l G P g49 sz (a + 1) (wfComp_t0 ha) _ h) (cwX7_152 o.1.2.2.2.2 (by decide)) ⟨_, _, rfl⟩ (by decide) (wfText_o (wfComp_t0 ha)) rfl (Nat.le_of_ble_eq_true rfl) ⟨Nat.le_of_ble_eq_true rfl, Nat.le_of_ble_eq_true rfl⟩ dX7_append_56 rfl (fun r56 g56 h => ?_)
        exact v_iret o rfl hr dX7_append_59 h
      · replace h := h.2 c31
        exact False.elim h
    · replace h := h.2 c9
      refine v_sub [0, 1] (lv2 := [(0, .ref a), (1, .int p1)]) rfl ?_
      exact J12  f  h
abbrev kX7_append := @vX7_append
abbrev metX7_append := @mX7_append
noncomputable def opAppend (A : Ab) (p : Int32) : Re := cif (¬ p < 0 ∧ 33 ≤ p.toNatClampNeg ∧ p.toNatClampNeg ≤ 126) (cif (A.2.2.2.length < 60) (0, nI (A.2.2.2.length + 1), (A.1, A.2.1, A.2.2.1, A.2.2.2 ++ [p.toNatClampNeg])) (2, 0, A)) (1, 0, A)
theorem u4_size {P : Sk} {f : St} {a : Nat} {v : Int32} {K : Int32 → St → Prop} (hv : f a 1 = v) (hK : K v f) : kX4_size P f a K := by
  show vX4_size P f a K
  unfold vX4_size
  rw [hv]
  exact hK
theorem Tok.snoc {b : List Nat} {c : Nat} (h : Tok b) (hl : b.length < 60) (h1 : 33 ≤ c) (h2 : c ≤ 126) : Tok (b ++ [c]) := ⟨by rw [List.length_append]; simp only [List.length_cons, List.length_nil]; omega, fun d hd => by
  rcases List.mem_append.mp hd with q | q
  · exact h.2 d q
  · rw [List.mem_singleton.mp q]
    exact ⟨h1, h2⟩⟩
theorem u7_append {P : Sk} {f : St} {x : Nat} {A : Ab} {p : Int32} {K : Int32 → St → Prop} {X : String → St → Prop} (hx : IsComp P x) (hC : CompIs f x A) (hK : Fin f x (opAppend A p) K X "java/lang/IllegalArgumentException" "java/lang/IllegalStateException" "") : kX7_append P f x p K X := by
  show vX7_append P f x p K X
  unfold vX7_append jX7_append_12
  have hb := hC.2.2.2.2.1
  have hl := hb.1
  unfold opAppend at hK
  have no : ¬ (¬ p < 0 ∧ 33 ≤ p.toNatClampNeg ∧ p.toNatClampNeg ≤ 126) → X "java/lang/IllegalArgumentException" f := by
    intro h
    rw [cif_neg h] at hK
    exact (hK f (Fr.refl _ _ _) hC).2.1 rfl
  by_cases c0 : p < 0
  · have c1 : p < 33 := Int32.lt_trans c0 (by decide)
    exact ⟨fun _ => no (fun h => h.1 c0), fun q => absurd c1 q⟩
  · obtain ⟨j, hj, rfl⟩ := nI_of c0
    rw [nI_clamp hj] at hK no
    rw [show (33 : Int32) = nI 33 from rfl, show (126 : Int32) = nI 126 from rfl, nI_ltI hj (by decide), nI_leI hj (by decide)]
    refine ⟨fun q => no (fun h => by have := h.2.1; omega), fun q => ⟨fun q2 => ?_, fun q2 => no (fun h => q2 h.2.2)⟩⟩
    rw [cif_pos ⟨c0, by omega, q2⟩] at hK
    refine u4_size hC.1.1 ?_
    rw [show (60 : Int32) = nI 60 from rfl, nI_ltI (by omega) (by omega)]
    refine ⟨fun q3 => ?_, fun q3 => ?_⟩
    · rw [cif_pos q3] at hK
      obtain ⟨h1, h2, h3, h4, h5, h6, h7⟩ := hC
      refine u4_addSign (wfComp_t0 hx) h1 q3 (fun g r q4 => ?_)
      refine u4_size q4.1 ?_
      have := (hK g (r.mono (by omega) (by omega)) ⟨q4, h2.out h6.1 r (by omega), h3.out h7 r (by omega), h4.out r (by omega) (by omega), hb.snoc q3 (by omega) q2, h6, h7⟩).1 rfl
      rw [List.length_append]
      exact this
    · rw [cif_neg q3] at hK
      exact (hK f (Fr.refl _ _ _) hC).2.2.1 rfl

def vX7_clearBuffer (P : Sk) (f : St) (a : Nat) (K : Int32 → St → Prop) : Prop :=
  kX4_size P f (a + 1) (fun r4 g4 => kX4_clear P g4 (a + 1) (fun g12 => K r4 g12))
set_option maxRecDepth 20000 in
set_option maxHeartbeats 4000000 in
theorem mX7_clearBuffer (l : Launch) (G : Gl) (P : Sk) (f : St) (sz : Nat) (a : Nat) (ha : IsComp P a) (K : Int32 → St → Prop) (h : vX7_clearBuffer P f a K)  :
  Met l yX7_clearBuffer (wU yX7_clearBuffer cX7_clearBuffer 2 (some .int)) rmX7_clearBuffer (PcW G P f sz [.ref a]) (QcI G P sz K) 0 0 (frA P sz) := by
  refine v_met (own := RX7) [.ref a] (by decide +kernel) rfl (Nat.le_of_ble_eq_true rfl) (fun p e s m args below meth c hsz o hr hnm => ?_)
  refine v_lv (lv2 := [(0, .ref a)]) rfl ?_
  unfold vX7_clearBuffer at h
  refine v_aload_n o 0 dX7_clearBuffer_0 rfl ?_
  refine v_gfR o lkX7_10 (by decide) (wfComp_o ha) (wfComp_r0 ha) dX7_clearBuffer_1 ?_
  refine v_cVi o [] [] (fun sz => metX4_size l G P f sz (a + 1) (wfComp_t0 ha) _ h) (cwX7_152 o.1.2.2.2.2 (by decide)) ⟨_, _, rfl⟩ (by decide) (wfText_o (wfComp_t0 ha)) rfl (Nat.le_of_ble_eq_true rfl) ⟨Nat.le_of_ble_eq_true rfl, Nat.le_of_ble_eq_true rfl⟩ dX7_clearBuffer_4 rfl (fun r4 g4 h => ?_)
  refine v_istore_n o (lv' := [(1, .int r4), (0, .ref a)]) dX7_clearBuffer_7 rfl (by decide) rfl ?_
  refine v_aload_n o 1 dX7_clearBuffer_8 rfl ?_
  refine v_gfR o lkX7_10 (by decide) (wfComp_o ha) (wfComp_r0 ha) dX7_clearBuffer_9 ?_
  refine v_cVv o [] [] (fun sz => metX4_clear l G P g4 sz (a + 1) (wfComp_t0 ha) _ h) (cwX7_95 o.1.2.2.2.2 (by decide)) ⟨_, _, rfl⟩ (by decide) (wfText_o (wfComp_t0 ha)) rfl (Nat.le_of_ble_eq_true rfl) ⟨Nat.le_of_ble_eq_true rfl, Nat.le_of_ble_eq_true rfl⟩ dX7_clearBuffer_12 rfl (fun g12 h => ?_)
  refine v_iload_n o 0 dX7_clearBuffer_15 rfl ?_
  exact v_iret o rfl hr dX7_clearBuffer_16 h
abbrev kX7_clearBuffer := @vX7_clearBuffer
abbrev metX7_clearBuffer := @mX7_clearBuffer
def opClear (A : Ab) : Re := (0, nI A.2.2.2.length, (A.1, A.2.1, A.2.2.1, []))
theorem u7_clearBuffer {P : Sk} {f : St} {x : Nat} {A : Ab} {K : Int32 → St → Prop} (hC : CompIs f x A) (hK : Fin f x (opClear A) K (fun _ _ => True) "" "" "") : kX7_clearBuffer P f x K := by
  show vX7_clearBuffer P f x K
  unfold vX7_clearBuffer
  refine u4_size hC.1.1 ?_
  exact c_clear hC (fun g r hC2 => (hK g (r.mono (by omega) (by omega)) hC2).1 rfl)

def vX7_stopped (P : Sk) (f : St) (a : Nat) (p1 : Int32) (K : Int32 → St → Prop) (X : String → St → Prop) : Prop :=
  kX7_needUpTo P f p1 1 (fun g2 => (¬ p1 = 0 → kX0_stopReason P g2 (a + 4) (fun r23 g23 => K r23 g23)) ∧ (p1 = 0 → kX0_stopPart P g2 (a + 4) (fun r13 g13 => K r13 g13))) X
set_option maxRecDepth 20000 in
set_option maxHeartbeats 4000000 in
theorem mX7_stopped (l : Launch) (G : Gl) (P : Sk) (f : St) (sz : Nat) (a : Nat) (ha : IsComp P a) (p1 : Int32) (K : Int32 → St → Prop) (h : vX7_stopped P f a p1 K XF)  :
  Met l yX7_stopped (wU yX7_stopped cX7_stopped 2 (some .int)) rmX7_stopped (PcW G P f sz [.ref a, .int p1]) (QcI G P sz K) 0 0 (frA P sz) := by
  refine v_met (own := RX7) [.ref a, .int p1] (by decide +kernel) rfl (Nat.le_of_ble_eq_true rfl) (fun p e s m args below meth c hsz o hr hnm => ?_)
  refine v_lv (lv2 := [(0, .ref a), (1, .int p1)]) rfl ?_
  unfold vX7_stopped at h
  refine v_iload_n o 1 dX7_stopped_0 rfl ?_
  refine v_iconst o (v := 1) dX7_stopped_1 (by decide) ?_
  refine v_cSv o [.int p1, .int 1] [] (fun sz => metX7_needUpTo l G P f sz p1 1 _ h) (cwX7_137 o.1.2.2.2.2 (by decide)) rfl (Nat.le_of_ble_eq_true rfl) ⟨Nat.le_of_ble_eq_true rfl, Nat.le_of_ble_eq_true rfl⟩ dX7_stopped_2 rfl (fun g2 h => ?_)
  refine v_iload_n o 1 dX7_stopped_5 rfl ?_
  refine v_if_ne o (tgt := 19) dX7_stopped_6 (by decide) (fun c6 => ?_) (fun c6 => ?_)
  · replace h := h.1 c6
    refine v_aload_n o 0 dX7_stopped_19 rfl ?_
    refine v_gfR o lkX7_19 (by decide) (wfComp_o ha) (wfComp_r1 ha) dX7_stopped_20 ?_
    refine v_cVi o [] [] (fun sz => metX0_stopReason l G P g2 sz (a + 4) (wfComp_t1 ha) _ h) (cwX7_187 o.1.2.2.2.2 (by decide)) ⟨_, _, rfl⟩ (by decide) (wfBoard_o (wfComp_t1 ha)) rfl (Nat.le_of_ble_eq_true rfl) ⟨Nat.le_of_ble_eq_true rfl, Nat.le_of_ble_eq_true rfl⟩ dX7_stopped_23 rfl (fun r23 g23 h => ?_)
    exact v_iret o rfl hr dX7_stopped_26 h
  · replace h := h.2 c6
    refine v_aload_n o 0 dX7_stopped_9 rfl ?_
    refine v_gfR o lkX7_19 (by decide) (wfComp_o ha) (wfComp_r1 ha) dX7_stopped_10 ?_
    refine v_cVi o [] [] (fun sz => metX0_stopPart l G P g2 sz (a + 4) (wfComp_t1 ha) _ h) (cwX7_184 o.1.2.2.2.2 (by decide)) ⟨_, _, rfl⟩ (by decide) (wfBoard_o (wfComp_t1 ha)) rfl (Nat.le_of_ble_eq_true rfl) ⟨Nat.le_of_ble_eq_true rfl, Nat.le_of_ble_eq_true rfl⟩ dX7_stopped_13 rfl (fun r13 g13 h => ?_)
    refine v_goto o (tgt := 26) dX7_stopped_16 (by decide) ?_
    exact v_iret o rfl hr dX7_stopped_26 h
abbrev kX7_stopped := @vX7_stopped
abbrev metX7_stopped := @mX7_stopped
noncomputable def opStopped (A : Ab) (p : Int32) : Re := cif (¬ p < 0 ∧ p.toNatClampNeg < 2) (0, if p = 0 then A.1.2.2.1 else A.1.2.2.2, A) (1, 0, A)
theorem u7_stopped {P : Sk} {f : St} {x : Nat} {A : Ab} {p : Int32} {K : Int32 → St → Prop} {X : String → St → Prop} (hC : CompIs f x A) (hK : Fin f x (opStopped A p) K X "java/lang/IllegalArgumentException" "" "") : kX7_stopped P f x p K X := by
  show vX7_stopped P f x p K X
  unfold vX7_stopped
  unfold opStopped at hK
  refine u7_upTo (m := 1) (by decide) (fun h1 h2 => ?_) (fun h => ?_)
  · rw [cif_pos ⟨h1, h2⟩] at hK
    have h3 := (hK f (Fr.refl _ _ _) hC).1 rfl
    have h4 : K (if p = 0 then A.1.2.2.1 else A.1.2.2.2) f := h3
    refine ⟨fun q => ?_, fun q => ?_⟩
    · rw [if_neg q] at h4
      show vX0_stopReason P f (x + 4) _
      unfold vX0_stopReason
      rw [hC.2.1.2.2.2.1]
      exact h4
    · rw [if_pos q] at h4
      show vX0_stopPart P f (x + 4) _
      unfold vX0_stopPart
      rw [hC.2.1.2.2.1]
      exact h4
  · rw [cif_neg (show ¬ (¬ p < 0 ∧ p.toNatClampNeg < 2) from h)] at hK
    exact (hK f (Fr.refl _ _ _) hC).2.1 rfl

def vX7_undo (P : Sk) (f : St) (a : Nat) (K : Int32 → St → Prop) (X : String → St → Prop) : Prop :=
  kX1_size P f (a + 160) (fun r4 g4 => (¬ r4 = 0 → kX1_takeBack P g4 (a + 160) (a + 4) (fun g28 => kX1_size P g28 (a + 160) (fun r35 g35 => K r35 g35))) ∧ (r4 = 0 → X "java/lang/IllegalStateException" g4))
set_option maxRecDepth 20000 in
set_option maxHeartbeats 4000000 in
theorem mX7_undo (l : Launch) (G : Gl) (P : Sk) (f : St) (sz : Nat) (a : Nat) (ha : IsComp P a) (K : Int32 → St → Prop) (h : vX7_undo P f a K XF)  :
  Met l yX7_undo (wU yX7_undo cX7_undo 1 (some .int)) rmX7_undo (PcW G P f sz [.ref a]) (QcI G P sz K) 0 0 (frA P sz) := by
  refine v_met (own := RX7) [.ref a] (by decide +kernel) rfl (Nat.le_of_ble_eq_true rfl) (fun p e s m args below meth c hsz o hr hnm => ?_)
  refine v_lv (lv2 := [(0, .ref a)]) rfl ?_
  unfold vX7_undo at h
  refine v_aload_n o 0 dX7_undo_0 rfl ?_
  refine v_gfR o lkX7_26 (by decide) (wfComp_o ha) (wfComp_r2 ha) dX7_undo_1 ?_
  refine v_cVi o [] [] (fun sz => metX1_size l G P f sz (a + 160) (wfComp_t2 ha) _ h) (cwX7_190 o.1.2.2.2.2 (by decide)) ⟨_, _, rfl⟩ (by decide) (wfHist_o (wfComp_t2 ha)) rfl (Nat.le_of_ble_eq_true rfl) ⟨Nat.le_of_ble_eq_true rfl, Nat.le_of_ble_eq_true rfl⟩ dX7_undo_4 rfl (fun r4 g4 h => ?_)
  refine v_if_ne o (tgt := 20) dX7_undo_7 (by decide) (fun c7 => ?_) (fun c7 => ?_)
  · replace h := h.1 c7
    refine v_aload_n o 0 dX7_undo_20 rfl ?_
    refine v_gfR o lkX7_26 (by decide) (wfComp_o ha) (wfComp_r2 ha) dX7_undo_21 ?_
    refine v_aload_n o 0 dX7_undo_24 rfl ?_
    refine v_gfR o lkX7_19 (by decide) (wfComp_o ha) (wfComp_r1 ha) dX7_undo_25 ?_
    refine v_cVv o [.ref (a + 4)] [] (fun sz => metX1_takeBack l G P g4 sz (a + 160) (wfComp_t2 ha) (a + 4) (wfComp_t1 ha) _ h) (cwX7_193 o.1.2.2.2.2 (by decide)) ⟨_, _, rfl⟩ (by decide) (wfHist_o (wfComp_t2 ha)) rfl (Nat.le_of_ble_eq_true rfl) ⟨Nat.le_of_ble_eq_true rfl, Nat.le_of_ble_eq_true rfl⟩ dX7_undo_28 rfl (fun g28 h => ?_)
    refine v_aload_n o 0 dX7_undo_31 rfl ?_
    refine v_gfR o lkX7_26 (by decide) (wfComp_o ha) (wfComp_r2 ha) dX7_undo_32 ?_
    refine v_cVi o [] [] (fun sz => metX1_size l G P g28 sz (a + 160) (wfComp_t2 ha) _ h) (cwX7_190 o.1.2.2.2.2 (by decide)) ⟨_, _, rfl⟩ (by decide) (wfHist_o (wfComp_t2 ha)) rfl (Nat.le_of_ble_eq_true rfl) ⟨Nat.le_of_ble_eq_true rfl, Nat.le_of_ble_eq_true rfl⟩ dX7_undo_35 rfl (fun r35 g35 h => ?_)
    exact v_iret o rfl hr dX7_undo_38 h
  · replace h := h.2 c7
    exact False.elim h
abbrev kX7_undo := @vX7_undo
abbrev metX7_undo := @mX7_undo
noncomputable def opUndo (A : Ab) : Re := cif (A.2.1.length = 0) (1, 0, A) (0, nI (A.2.1.length - 1), (bdAt A.2.1 (A.2.1.length - 1), A.2.1.take (A.2.1.length - 1), A.2.2))
theorem bd_split : ∀ (hs : List Bd), hs.length ≠ 0 → hs = hs.take (hs.length - 1) ++ [bdAt hs (hs.length - 1)]
  | [], h => absurd rfl h
  | [_], _ => rfl
  | x :: y :: r, _ => by
    have := bd_split (y :: r) (by simp)
    simp only [List.length_cons, Nat.add_sub_cancel] at this ⊢
    rw [List.take_succ_cons, List.cons_append]
    unfold bdAt at this ⊢
    rw [List.getD_cons_succ, ← this]
theorem u1_size {P : Sk} {f : St} {a : Nat} {v : Int32} {K : Int32 → St → Prop} (hv : f a 3 = v) (hK : K v f) : kX1_size P f a K := by
  show vX1_size P f a K
  unfold vX1_size
  rw [hv]
  exact hK
theorem HistIs.len {f : St} {h : Nat} {hs : List Bd} (k : HistIs f h hs) : f h 3 = nI hs.length := by
  obtain ⟨o, h0, h1, h2, h3⟩ := k
  exact h2
theorem u7_undo {P : Sk} {f : St} {x : Nat} {A : Ab} {K : Int32 → St → Prop} {X : String → St → Prop} (hC : CompIs f x A) (hK : Fin f x (opUndo A) K X "java/lang/IllegalStateException" "" "") : kX7_undo P f x K X := by
  show vX7_undo P f x K X
  unfold vX7_undo
  have h6 := hC.2.2.2.2.2.2.1
  unfold opUndo at hK
  refine u1_size hC.2.2.1.len ?_
  rw [nI_z (by omega)]
  refine ⟨fun q => ?_, fun q => ?_⟩
  · rw [cif_neg q] at hK
    have e := bd_split A.2.1 q
    have hl : (A.2.1.take (A.2.1.length - 1)).length = A.2.1.length - 1 := by
      rw [List.length_take]
      omega
    obtain ⟨h1, h2, h3, h4, h5, h6', h7⟩ := hC
    rw [e] at h3
    have hk : Hok (A.2.1.take (A.2.1.length - 1) ++ [bdAt A.2.1 (A.2.1.length - 1)]) := by
      rw [← e]
      exact h7
    refine u1_takeBack (by omega) h3 hk (fun g g2 r1 r2 q1 q2 => ?_)
    have hk2 : Hok (A.2.1.take (A.2.1.length - 1)) := ⟨by omega, fun b hb => h7.2 b (List.mem_of_mem_take hb)⟩
    have hH := q1.out hk2 r2 (by omega)
    refine u1_size hH.len ?_
    rw [hl]
    have r1' : Fr f g2 x (x + 1438) := r1.mono (by omega) (by omega)
    refine (hK g (r1'.trans (r2.mono (by omega) (by omega))) ⟨(h1.out r1 (by omega)).out r2 (by omega), q2, hH, ?_, h5, h7.2 _ (bd_mem (by omega)), hk2⟩).1 rfl
    exact (h4.out r1 (by omega) (by omega)).out r2 (by omega) (by omega)
  · rw [cif_pos q] at hK
    exact (hK f (Fr.refl _ _ _) hC).2.1 rfl

def vX7_keep (P : Sk) (f : St) (a : Nat) (K : Int32 → St → Prop) : Prop :=
  kX0_copyFrom P f (a + 1254) (a + 4) (fun g8 => ∀ g13 : St, g13 = setf g8 a 4 1 → kX0_size P g13 (a + 4) (fun r20 g20 => K r20 g20))
set_option maxRecDepth 20000 in
set_option maxHeartbeats 4000000 in
theorem mX7_keep (l : Launch) (G : Gl) (P : Sk) (f : St) (sz : Nat) (a : Nat) (ha : IsComp P a) (K : Int32 → St → Prop) (h : vX7_keep P f a K)  :
  Met l yX7_keep (wU yX7_keep cX7_keep 1 (some .int)) rmX7_keep (PcW G P f sz [.ref a]) (QcI G P sz K) 0 0 (frA P sz) := by
  refine v_met (own := RX7) [.ref a] (by decide +kernel) rfl (Nat.le_of_ble_eq_true rfl) (fun p e s m args below meth c hsz o hr hnm => ?_)
  refine v_lv (lv2 := [(0, .ref a)]) rfl ?_
  unfold vX7_keep at h
  refine v_aload_n o 0 dX7_keep_0 rfl ?_
  refine v_gfR o lkX7_30 (by decide) (wfComp_o ha) (wfComp_r3 ha) dX7_keep_1 ?_
  refine v_aload_n o 0 dX7_keep_4 rfl ?_
  refine v_gfR o lkX7_19 (by decide) (wfComp_o ha) (wfComp_r1 ha) dX7_keep_5 ?_
  refine v_cVv o [.ref (a + 4)] [] (fun sz => metX0_copyFrom l G P f sz (a + 1254) (wfComp_t3 ha) (a + 4) (wfComp_t1 ha) _ h) (cwX7_196 o.1.2.2.2.2 (by decide)) ⟨_, _, rfl⟩ (by decide) (wfBoard_o (wfComp_t3 ha)) rfl (Nat.le_of_ble_eq_true rfl) ⟨Nat.le_of_ble_eq_true rfl, Nat.le_of_ble_eq_true rfl⟩ dX7_keep_8 rfl (fun g8 h => ?_)
  refine v_aload_n o 0 dX7_keep_11 rfl ?_
  refine v_iconst o (v := 1) dX7_keep_12 (by decide) ?_
  refine v_pf o lpX7_33 (wfComp_o ha) bz1 dX7_keep_13 ?_
  refine v_nmf (fun g13 eg13 => ?_)
  replace h := h g13 eg13
  refine v_aload_n o 0 dX7_keep_16 rfl ?_
  refine v_gfR o lkX7_19 (by decide) (wfComp_o ha) (wfComp_r1 ha) dX7_keep_17 ?_
  refine v_cVi o [] [] (fun sz => metX0_size l G P g13 sz (a + 4) (wfComp_t1 ha) _ h) (cwX7_65 o.1.2.2.2.2 (by decide)) ⟨_, _, rfl⟩ (by decide) (wfBoard_o (wfComp_t1 ha)) rfl (Nat.le_of_ble_eq_true rfl) ⟨Nat.le_of_ble_eq_true rfl, Nat.le_of_ble_eq_true rfl⟩ dX7_keep_20 rfl (fun r20 g20 h => ?_)
  exact v_iret o rfl hr dX7_keep_23 h
abbrev kX7_keep := @vX7_keep
abbrev metX7_keep := @mX7_keep
def opKeep (A : Ab) : Re := (0, nI A.1.1.length, (A.1, A.2.1, some A.1, A.2.2.2))
theorem u7_keep {P : Sk} {f : St} {x : Nat} {A : Ab} {K : Int32 → St → Prop} (hC : CompIs f x A) (hK : Fin f x (opKeep A) K (fun _ _ => True) "" "" "") : kX7_keep P f x K := by
  show vX7_keep P f x K
  unfold vX7_keep
  obtain ⟨h1, h2, h3, h4, h5, h6, h7⟩ := hC
  refine ⟨A.1, h2, h6, by omega, fun g r q g2 e => ?_⟩
  have r2 : Fr g g2 x (x + 1) := by
    rw [e]
    exact fr_setf _ (by omega) (by omega)
  have hB := (h2.out h6.1 r (by omega)).out h6.1 r2 (by omega)
  refine u0_size hB.1 ?_
  refine (hK g2 ((r.mono (by omega) (by omega)).trans (r2.mono (by omega) (by omega))) ⟨(h1.out r (by omega)).out r2 (by omega), hB, (h3.out h7 r (by omega)).out h7 r2 (by omega), Or.inr ⟨A.1, rfl, ?_, q.out h6.1 r2 (by omega), h6⟩, h5, h6, h7⟩).1 rfl
  rw [e, setf_same]

