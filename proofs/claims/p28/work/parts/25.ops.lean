def vX7_lay (P : Sk) (f : St) (a : Nat) (K : Int32 → St → Prop) (X : String → St → Prop) : Prop :=
  kX4_isLoaf P f (a + 1) (fun r4 g4 => (¬ r4 = 0 → kX0_size P g4 (a + 4) (fun r24 g24 => (r24 < 6 → kX4_readLoaf P g24 (a + 1) ((a + 1410) + 1) (fun g53 => kX2_settle P g53 (a + 1410) (fun r60 g60 => (r60 = 0 → kX1_save P g60 (a + 160) (a + 4) (fun g84 => kX0_addLoaf P g84 (a + 4) (a + 1410) (fun g95 => kX4_clear P g95 (a + 1) (fun g102 => kX0_size P g102 (a + 4) (fun r109 g109 => K (r109 - 1) g109))))) ∧ (¬ r60 = 0 → X "java/lang/IllegalStateException" g60)))) ∧ (¬ r24 < 6 → X "java/lang/IllegalStateException" g24))) ∧ (r4 = 0 → X "java/lang/IllegalArgumentException" g4))
set_option maxRecDepth 20000 in
set_option maxHeartbeats 4000000 in
theorem mX7_lay (l : Launch) (G : Gl) (P : Sk) (f : St) (sz : Nat) (a : Nat) (ha : IsComp P a) (K : Int32 → St → Prop) (h : vX7_lay P f a K XF)  :
  Met l yX7_lay (wU yX7_lay cX7_lay 1 (some .int)) rmX7_lay (PcW G P f sz [.ref a]) (QcI G P sz K) 0 0 (frA P sz) := by
  refine v_met (own := RX7) [.ref a] (by decide +kernel) rfl (Nat.le_of_ble_eq_true rfl) (fun p e s m args below meth c hsz o hr hnm => ?_)
  refine v_lv (lv2 := [(0, .ref a)]) rfl ?_
  unfold vX7_lay at h
  refine v_aload_n o 0 dX7_lay_0 rfl ?_
  refine v_gfR o lkX7_10 (by decide) (wfComp_o ha) (wfComp_r0 ha) dX7_lay_1 ?_
  refine v_cVi o [] [] (fun sz => metX4_isLoaf l G P f sz (a + 1) (wfComp_t0 ha) _ h) (cwX7_54 o.1.2.2.2.2 (by decide)) ⟨_, _, rfl⟩ (by decide) (wfText_o (wfComp_t0 ha)) rfl (Nat.le_of_ble_eq_true rfl) ⟨Nat.le_of_ble_eq_true rfl, Nat.le_of_ble_eq_true rfl⟩ dX7_lay_4 rfl (fun r4 g4 h => ?_)
  refine v_if_ne o (tgt := 20) dX7_lay_7 (by decide) (fun c7 => ?_) (fun c7 => ?_)
  · replace h := h.1 c7
    refine v_aload_n o 0 dX7_lay_20 rfl ?_
    refine v_gfR o lkX7_19 (by decide) (wfComp_o ha) (wfComp_r1 ha) dX7_lay_21 ?_
    refine v_cVi o [] [] (fun sz => metX0_size l G P g4 sz (a + 4) (wfComp_t1 ha) _ h) (cwX7_65 o.1.2.2.2.2 (by decide)) ⟨_, _, rfl⟩ (by decide) (wfBoard_o (wfComp_t1 ha)) rfl (Nat.le_of_ble_eq_true rfl) ⟨Nat.le_of_ble_eq_true rfl, Nat.le_of_ble_eq_true rfl⟩ dX7_lay_24 rfl (fun r24 g24 h => ?_)
    refine v_bipush o (v := 6) dX7_lay_27 (by decide) ?_
    refine v_icmp_lt o (tgt := 42) dX7_lay_29 (by decide) (fun c29 => ?_) (fun c29 => ?_)
    · replace h := h.1 c29
      refine v_aload_n o 0 dX7_lay_42 rfl ?_
      refine v_gfR o lkX7_10 (by decide) (wfComp_o ha) (wfComp_r0 ha) dX7_lay_43 ?_
      refine v_aload_n o 0 dX7_lay_46 rfl ?_
      refine v_gfR o lkX7_40 (by decide) (wfComp_o ha) (wfComp_r5 ha) dX7_lay_47 ?_
      refine v_cVr o [] [.ref (a + 1)] (fun sz => metX2_word l G P g24 sz (a + 1410) (wfComp_t5 ha)) (cwX7_74 o.1.2.2.2.2 (by decide)) ⟨_, _, rfl⟩ (by decide) (wfLoaf_o (wfComp_t5 ha)) rfl (Nat.le_of_ble_eq_true rfl) ⟨Nat.le_of_ble_eq_true rfl, Nat.le_of_ble_eq_true rfl⟩ dX7_lay_50 rfl (fun r50 g50 h50 => ?_)
      obtain ⟨rfl, rfl⟩ := h50
      refine v_cVv o [.ref ((a + 1410) + 1)] [] (fun sz => metX4_readLoaf l G P g24 sz (a + 1) (wfComp_t0 ha) ((a + 1410) + 1) (wfLoaf_t0 (wfComp_t5 ha)) _ h) (cwX7_78 o.1.2.2.2.2 (by decide)) ⟨_, _, rfl⟩ (by decide) (wfText_o (wfComp_t0 ha)) rfl (Nat.le_of_ble_eq_true rfl) ⟨Nat.le_of_ble_eq_true rfl, Nat.le_of_ble_eq_true rfl⟩ dX7_lay_53 rfl (fun g53 h => ?_)
      refine v_aload_n o 0 dX7_lay_56 rfl ?_
      refine v_gfR o lkX7_40 (by decide) (wfComp_o ha) (wfComp_r5 ha) dX7_lay_57 ?_
      refine v_cVi o [] [] (fun sz => metX2_settle l G P g53 sz (a + 1410) (wfComp_t5 ha) _ h) (cwX7_82 o.1.2.2.2.2 (by decide)) ⟨_, _, rfl⟩ (by decide) (wfLoaf_o (wfComp_t5 ha)) rfl (Nat.le_of_ble_eq_true rfl) ⟨Nat.le_of_ble_eq_true rfl, Nat.le_of_ble_eq_true rfl⟩ dX7_lay_60 rfl (fun r60 g60 h => ?_)
      refine v_if_eq o (tgt := 76) dX7_lay_63 (by decide) (fun c63 => ?_) (fun c63 => ?_)
      · replace h := h.1 c63
        refine v_aload_n o 0 dX7_lay_76 rfl ?_
        refine v_gfR o lkX7_26 (by decide) (wfComp_o ha) (wfComp_r2 ha) dX7_lay_77 ?_
        refine v_aload_n o 0 dX7_lay_80 rfl ?_
        refine v_gfR o lkX7_19 (by decide) (wfComp_o ha) (wfComp_r1 ha) dX7_lay_81 ?_
        refine v_cVv o [.ref (a + 4)] [] (fun sz => metX1_save l G P g60 sz (a + 160) (wfComp_t2 ha) (a + 4) (wfComp_t1 ha) _ h) (cwX7_87 o.1.2.2.2.2 (by decide)) ⟨_, _, rfl⟩ (by decide) (wfHist_o (wfComp_t2 ha)) rfl (Nat.le_of_ble_eq_true rfl) ⟨Nat.le_of_ble_eq_true rfl, Nat.le_of_ble_eq_true rfl⟩ dX7_lay_84 rfl (fun g84 h => ?_)
        refine v_aload_n o 0 dX7_lay_87 rfl ?_
        refine v_gfR o lkX7_19 (by decide) (wfComp_o ha) (wfComp_r1 ha) dX7_lay_88 ?_
        refine v_aload_n o 0 dX7_lay_91 rfl ?_
        refine v_gfR o lkX7_40 (by decide) (wfComp_o ha) (wfComp_r5 ha) dX7_lay_92 ?_
        refine v_cVv o [.ref (a + 1410)] [] (fun sz => metX0_addLoaf l G P g84 sz (a + 4) (wfComp_t1 ha) (a + 1410) (wfComp_t5 ha) _ h) (cwX7_91 o.1.2.2.2.2 (by decide)) ⟨_, _, rfl⟩ (by decide) (wfBoard_o (wfComp_t1 ha)) rfl (Nat.le_of_ble_eq_true rfl) ⟨Nat.le_of_ble_eq_true rfl, Nat.le_of_ble_eq_true rfl⟩ dX7_lay_95 rfl (fun g95 h => ?_)
        refine v_aload_n o 0 dX7_lay_98 rfl ?_
        refine v_gfR o lkX7_10 (by decide) (wfComp_o ha) (wfComp_r0 ha) dX7_lay_99 ?_
        refine v_cVv o [] [] (fun sz => metX4_clear l G P g95 sz (a + 1) (wfComp_t0 ha) _ h) (cwX7_95 o.1.2.2.2.2 (by decide)) ⟨_, _, rfl⟩ (by decide) (wfText_o (wfComp_t0 ha)) rfl (Nat.le_of_ble_eq_true rfl) ⟨Nat.le_of_ble_eq_true rfl, Nat.le_of_ble_eq_true rfl⟩ dX7_lay_102 rfl (fun g102 h => ?_)
        refine v_aload_n o 0 dX7_lay_105 rfl ?_
        refine v_gfR o lkX7_19 (by decide) (wfComp_o ha) (wfComp_r1 ha) dX7_lay_106 ?_
        refine v_cVi o [] [] (fun sz => metX0_size l G P g102 sz (a + 4) (wfComp_t1 ha) _ h) (cwX7_65 o.1.2.2.2.2 (by decide)) ⟨_, _, rfl⟩ (by decide) (wfBoard_o (wfComp_t1 ha)) rfl (Nat.le_of_ble_eq_true rfl) ⟨Nat.le_of_ble_eq_true rfl, Nat.le_of_ble_eq_true rfl⟩ dX7_lay_109 rfl (fun r109 g109 h => ?_)
        refine v_iconst o (v := 1) dX7_lay_112 (by decide) ?_
        refine v_isub o dX7_lay_113 ?_
        exact v_iret o rfl hr dX7_lay_114 h
      · replace h := h.2 c63
        exact False.elim h
    · replace h := h.2 c29
      exact False.elim h
  · replace h := h.2 c7
    exact False.elim h
abbrev kX7_lay := @vX7_lay
abbrev metX7_lay := @mX7_lay
def Fin (f : St) (x : Nat) (re : Re) (K : Int32 → St → Prop) (X : String → St → Prop) (e1 e2 e3 : String) : Prop := ∀ g, Fr f g x (x + 1438) → CompIs g x re.2.2 → (re.1 = 0 → K re.2.1 g) ∧ (re.1 = 1 → X e1 g) ∧ (re.1 = 2 → X e2 g) ∧ (re.1 = 3 → X e3 g)
theorem u0_size {P : Sk} {f : St} {a : Nat} {v : Int32} {K : Int32 → St → Prop} (hv : f a 2 = v) (hK : K v f) : kX0_size P f a K := by
  show vX0_size P f a K
  unfold vX0_size
  rw [hv]
  exact hK
theorem c_save {P : Sk} {f : St} {x : Nat} {A : Ab} {K : St → Prop} (hC : CompIs f x A) (hK : ∀ g, Fr f g (x + 160) (x + 1254) → CompIs g x (A.1, svH A.2.1 A.1, A.2.2) → K g) : kX1_save P f (x + 160) (x + 4) K := by
  obtain ⟨h1, h2, h3, h4, h5, h6, h7⟩ := hC
  refine u1_save (by omega) h2 h6 h3 h7 (fun g r q => hK g r ?_)
  exact ⟨h1.out r (by omega), h2.out h6.1 r (by omega), q, h4.out r (by omega) (by omega), h5, h6, h7.sv h6⟩
theorem c_put {P : Sk} {f : St} {x : Nat} {A : Ab} {p : Int32} {y : Lf} {K : St → Prop} (hx : IsComp P x) (hC : CompIs f x A) (h : hasB A.1 p) (hL : LoafIs f (x + 1410) y) (hy : Lok y) (hK : ∀ g, Fr f g (x + 4) (x + 160) → CompIs g x (putL A.1 p y, A.2) → LoafIs g (x + 1410) y → K g) : kX2_copyFrom P f (atB (x + 4) p) (x + 1410) K := by
  obtain ⟨h1, h2, h3, h4, h5, h6, h7⟩ := hC
  have hin := atB_in (b := x + 4) h6 h
  refine u2_copyFrom (is_atB (wfComp_t1 hx) p) (wfComp_t5 hx) (by omega) hy.1 hL (fun g r q => ?_)
  have r2 : Fr f g (x + 4) (x + 160) := r.mono (by omega) (by omega)
  refine hK g r2 ⟨h1.out r2 (by omega), ?_, h3.out h7 r2 (by omega), h4.out r2 (by omega) (by omega), h5, h6.put hy, h7⟩ (hL.out r2 (by omega))
  obtain ⟨b1, b2, b3, b4, b5⟩ := h2
  have ea := r (x + 4) (by omega)
  refine ⟨?_, by rw [ea]; exact b2, by rw [ea]; exact b3, by rw [ea]; exact b4, fun i hi => ?_⟩
  · rw [ea, b1]
    show nI A.1.1.length = nI (A.1.1.set _ y).length
    rw [List.length_set]
  · have hi2 : i < A.1.1.length := by
      have e : (A.1.1.set p.toNatClampNeg y).length = A.1.1.length := List.length_set
      rw [← e]
      exact hi
    show LoafIs g _ (lfAt (A.1.1.set p.toNatClampNeg y) i)
    rw [lf_set _ _ _ _ h.2]
    have ep := atB_p (b := x + 4) h6 h
    by_cases c : i = p.toNatClampNeg
    · rw [if_pos c, c, ← ep]
      exact q
    · rw [if_neg c]
      exact (b5 i hi2).out r (by omega)
theorem c_clear {P : Sk} {f : St} {x : Nat} {A : Ab} {K : St → Prop} (hC : CompIs f x A) (hK : ∀ g, Fr f g (x + 1) (x + 4) → CompIs g x (A.1, A.2.1, A.2.2.1, []) → K g) : kX4_clear P f (x + 1) K := by
  obtain ⟨h1, h2, h3, h4, h5, h6, h7⟩ := hC
  refine u4_clear (fun g r q => hK g (r.mono (by omega) (by omega)) ?_)
  exact ⟨q, h2.out h6.1 r (by omega), h3.out h7 r (by omega), h4.out r (by omega) (by omega), ⟨Nat.zero_le _, fun c hc => absurd hc (List.not_mem_nil)⟩, h6, h7⟩
theorem u7_lay {P : Sk} {f : St} {x : Nat} {A : Ab} {K : Int32 → St → Prop} {X : String → St → Prop} (hx : IsComp P x) (hC : CompIs f x A) (hK : Fin f x (opLay A) K X "java/lang/IllegalArgumentException" "java/lang/IllegalStateException" "") : kX7_lay P f x K X := by
  show vX7_lay P f x K X
  unfold vX7_lay
  have h6 := hC.2.2.2.2.2.1
  have hb := hC.2.2.2.2.1
  have hl6 := h6.1
  unfold opLay at hK
  refine u4_isLoaf hC.1 hb (fun hl => ⟨fun _ => ?_, fun q => absurd q (by decide)⟩) (fun hl => ⟨fun q => absurd rfl q, fun _ => ?_⟩)
  · rw [cif_pos hl] at hK
    refine u0_size hC.2.1.1 ?_
    rw [show (6 : Int32) = nI 6 from rfl, nI_ltI (by omega) (by omega)]
    refine ⟨fun q => ?_, fun q => ?_⟩
    · rw [cif_pos q] at hK
      refine ⟨_, hC.1, hb, hl, by omega, fun g1 r1 w1 => ?_⟩
      refine u7_settle (f := f) (y := (A.2.2.2.getD 0 0 - 48, wdT A.2.2.2)) w1 hl.wok.1 (r1.mono (by omega) (by omega)) (fun g2 r2 q2 => ?_)
      have hC2 := hC.out r2 (by omega)
      by_cases hd : Dok (A.2.2.2.getD 0 0 - 48) (wdT A.2.2.2)
      · rw [cif_pos hd] at hK
        have e0 : (rsS (A.2.2.2.getD 0 0 - 48, wdT A.2.2.2)).1 = 0 := cif_pos hd
        rw [e0]
        refine ⟨fun _ => ?_, fun q => absurd rfl q⟩
        refine c_save hC2 (fun g3 r3 hC3 => ?_)
        have hL3 := (q2 e0).out r3 (by omega)
        obtain ⟨a1, a2, a3, a4, a5, a6, a7⟩ := hC3
        refine u0_addLoaf (x := (A.2.2.2.getD 0 0 - 48, wdT A.2.2.2)) (wfComp_t1 hx) (wfComp_t5 hx) (by omega) hl.wok.1 hL3 a2 q (fun g4 r4 q4 => ?_)
        have hC4 : CompIs g4 x ((A.1.1 ++ [(A.2.2.2.getD 0 0 - 48, wdT A.2.2.2)], A.1.2), svH A.2.1 A.1, A.2.2) := by
          refine ⟨a1.out r4 (by omega), q4, a3.out a7 r4 (by omega), a4.out r4 (by omega) (by omega), a5, ⟨?_, fun y hy => ?_⟩, a7⟩
          · show (A.1.1 ++ [_]).length ≤ 6
            rw [List.length_append]
            simp only [List.length_cons, List.length_nil]
            omega
          · rcases List.mem_append.mp hy with k | k
            · exact h6.2 y k
            · rw [List.mem_singleton.mp k]
              exact ⟨hl.wok.1, hd⟩
        refine c_clear hC4 (fun g5 r5 hC5 => ?_)
        refine u0_size hC5.2.1.1 ?_
        have := (hK g5 (((r2.mono (by omega) (by omega)).trans (r3.mono (by omega) (by omega))).trans ((r4.mono (by omega) (by omega)).trans (r5.mono (by omega) (by omega)))) hC5).1 rfl
        have e1 : nI (A.1.1 ++ [(A.2.2.2.getD 0 0 - 48, wdT A.2.2.2)]).length - 1 = nI A.1.1.length := by
          rw [List.length_append]
          exact nI_m1 _
        show K (nI (A.1.1 ++ [(A.2.2.2.getD 0 0 - 48, wdT A.2.2.2)]).length - 1) g5
        rw [e1]
        exact this
      · rw [cif_neg hd] at hK
        have e0 : (rsS (A.2.2.2.getD 0 0 - 48, wdT A.2.2.2)).1 = 2 := cif_neg hd
        rw [e0]
        exact ⟨fun q => absurd q (by decide), fun _ => (hK g2 (r2.mono (by omega) (by omega)) hC2).2.2.1 rfl⟩
    · rw [cif_neg q] at hK
      exact (hK f (Fr.refl _ _ _) hC).2.2.1 rfl
  · rw [cif_neg hl] at hK
    exact (hK f (Fr.refl _ _ _) hC).2.1 rfl

def vX7_cross (P : Sk) (f : St) (a : Nat) (p1 : Int32) (p2 : Int32) (p3 : Int32) (K : Int32 → St → Prop) (X : String → St → Prop) : Prop :=
  kX7_needPlace P f a p1 p2 (fun g3 => kX7_tryCrossing P g3 a p1 p2 p3 (fun r10 g10 => kX7_needCan P g10 r10 (fun g13 => kX1_save P g13 (a + 160) (a + 4) (fun g24 => kX2_copyFrom P g24 (atB (a + 4) p1) (a + 1410) (fun g39 => kX6_size P g39 ((a + 1410) + 1) (fun r56 g56 => kX5_hiddenAt P g56 ((a + 1410) + 7) (r56 - 1) (fun r61 g61 => K r61 g61))))) X)) X
set_option maxRecDepth 20000 in
set_option maxHeartbeats 4000000 in
theorem mX7_cross (l : Launch) (G : Gl) (P : Sk) (f : St) (sz : Nat) (a : Nat) (ha : IsComp P a) (p1 : Int32) (p2 : Int32) (p3 : Int32) (K : Int32 → St → Prop) (h : vX7_cross P f a p1 p2 p3 K XF)  :
  Met l yX7_cross (wU yX7_cross cX7_cross 4 (some .int)) rmX7_cross (PcW G P f sz [.ref a, .int p1, .int p2, .int p3]) (QcI G P sz K) 0 0 (frA P sz) := by
  refine v_met (own := RX7) [.ref a, .int p1, .int p2, .int p3] (by decide +kernel) rfl (Nat.le_of_ble_eq_true rfl) (fun p e s m args below meth c hsz o hr hnm => ?_)
  refine v_lv (lv2 := [(0, .ref a), (1, .int p1), (2, .int p2), (3, .int p3)]) rfl ?_
  unfold vX7_cross at h
  refine v_aload_n o 0 dX7_cross_0 rfl ?_
  refine v_iload_n o 1 dX7_cross_1 rfl ?_
  refine v_iload_n o 2 dX7_cross_2 rfl ?_
  refine v_cVv o [.int p1, .int p2] [] (fun sz => metX7_needPlace l G P f sz a ha p1 p2 _ h) (cwX7_110 o.1.2.2.2.2 (by decide)) ⟨_, _, rfl⟩ (by decide) (wfComp_o ha) rfl (Nat.le_of_ble_eq_true rfl) ⟨Nat.le_of_ble_eq_true rfl, Nat.le_of_ble_eq_true rfl⟩ dX7_cross_3 rfl (fun g3 h => ?_)
  refine v_aload_n o 0 dX7_cross_6 rfl ?_
  refine v_iload_n o 1 dX7_cross_7 rfl ?_
  refine v_iload_n o 2 dX7_cross_8 rfl ?_
  refine v_iload_n o 3 dX7_cross_9 rfl ?_
  refine v_cVi o [.int p1, .int p2, .int p3] [] (fun sz => metX7_tryCrossing l G P g3 sz a ha p1 p2 p3 _ h) (cwX7_114 o.1.2.2.2.2 (by decide)) ⟨_, _, rfl⟩ (by decide) (wfComp_o ha) rfl (Nat.le_of_ble_eq_true rfl) ⟨Nat.le_of_ble_eq_true rfl, Nat.le_of_ble_eq_true rfl⟩ dX7_cross_10 rfl (fun r10 g10 h => ?_)
  refine v_cSv o [.int r10] [] (fun sz => metX7_needCan l G P g10 sz r10 _ h) (cwX7_118 o.1.2.2.2.2 (by decide)) rfl (Nat.le_of_ble_eq_true rfl) ⟨Nat.le_of_ble_eq_true rfl, Nat.le_of_ble_eq_true rfl⟩ dX7_cross_13 rfl (fun g13 h => ?_)
  refine v_aload_n o 0 dX7_cross_16 rfl ?_
  refine v_gfR o lkX7_26 (by decide) (wfComp_o ha) (wfComp_r2 ha) dX7_cross_17 ?_
  refine v_aload_n o 0 dX7_cross_20 rfl ?_
  refine v_gfR o lkX7_19 (by decide) (wfComp_o ha) (wfComp_r1 ha) dX7_cross_21 ?_
  refine v_cVv o [.ref (a + 4)] [] (fun sz => metX1_save l G P g13 sz (a + 160) (wfComp_t2 ha) (a + 4) (wfComp_t1 ha) _ h) (cwX7_87 o.1.2.2.2.2 (by decide)) ⟨_, _, rfl⟩ (by decide) (wfHist_o (wfComp_t2 ha)) rfl (Nat.le_of_ble_eq_true rfl) ⟨Nat.le_of_ble_eq_true rfl, Nat.le_of_ble_eq_true rfl⟩ dX7_cross_24 rfl (fun g24 h => ?_)
  refine v_aload_n o 0 dX7_cross_27 rfl ?_
  refine v_gfR o lkX7_19 (by decide) (wfComp_o ha) (wfComp_r1 ha) dX7_cross_28 ?_
  refine v_iload_n o 1 dX7_cross_31 rfl ?_
  refine v_cVr o [.int p1] [] (fun sz => metX0_at l G P g24 sz (a + 4) (wfComp_t1 ha) p1) (cwX7_102 o.1.2.2.2.2 (by decide)) ⟨_, _, rfl⟩ (by decide) (wfBoard_o (wfComp_t1 ha)) rfl (Nat.le_of_ble_eq_true rfl) ⟨Nat.le_of_ble_eq_true rfl, Nat.le_of_ble_eq_true rfl⟩ dX7_cross_32 rfl (fun r32 g32 h32 => ?_)
  obtain ⟨rfl, rfl⟩ := h32
  refine v_aload_n o 0 dX7_cross_35 rfl ?_
  refine v_gfR o lkX7_40 (by decide) (wfComp_o ha) (wfComp_r5 ha) dX7_cross_36 ?_
  refine v_cVv o [.ref (a + 1410)] [] (fun sz => metX2_copyFrom l G P g24 sz (atB (a + 4) p1) (is_atB (wfComp_t1 ha) p1) (a + 1410) (wfComp_t5 ha) _ h) (cwX7_121 o.1.2.2.2.2 (by decide)) ⟨_, _, rfl⟩ (by decide) (wfLoaf_o (is_atB (wfComp_t1 ha) p1)) rfl (Nat.le_of_ble_eq_true rfl) ⟨Nat.le_of_ble_eq_true rfl, Nat.le_of_ble_eq_true rfl⟩ dX7_cross_39 rfl (fun g39 h => ?_)
  refine v_aload_n o 0 dX7_cross_42 rfl ?_
  refine v_gfR o lkX7_40 (by decide) (wfComp_o ha) (wfComp_r5 ha) dX7_cross_43 ?_
  refine v_cVr o [] [] (fun sz => metX2_trace l G P g39 sz (a + 1410) (wfComp_t5 ha)) (cwX7_124 o.1.2.2.2.2 (by decide)) ⟨_, _, rfl⟩ (by decide) (wfLoaf_o (wfComp_t5 ha)) rfl (Nat.le_of_ble_eq_true rfl) ⟨Nat.le_of_ble_eq_true rfl, Nat.le_of_ble_eq_true rfl⟩ dX7_cross_46 rfl (fun r46 g46 h46 => ?_)
  obtain ⟨rfl, rfl⟩ := h46
  refine v_aload_n o 0 dX7_cross_49 rfl ?_
  refine v_gfR o lkX7_40 (by decide) (wfComp_o ha) (wfComp_r5 ha) dX7_cross_50 ?_
  refine v_cVr o [] [.ref ((a + 1410) + 7)] (fun sz => metX2_word l G P g39 sz (a + 1410) (wfComp_t5 ha)) (cwX7_74 o.1.2.2.2.2 (by decide)) ⟨_, _, rfl⟩ (by decide) (wfLoaf_o (wfComp_t5 ha)) rfl (Nat.le_of_ble_eq_true rfl) ⟨Nat.le_of_ble_eq_true rfl, Nat.le_of_ble_eq_true rfl⟩ dX7_cross_53 rfl (fun r53 g53 h53 => ?_)
  obtain ⟨rfl, rfl⟩ := h53
  refine v_cVi o [] [.ref ((a + 1410) + 7)] (fun sz => metX6_size l G P g39 sz ((a + 1410) + 1) (wfLoaf_t0 (wfComp_t5 ha)) _ h) (cwX7_106 o.1.2.2.2.2 (by decide)) ⟨_, _, rfl⟩ (by decide) (wfWord_o (wfLoaf_t0 (wfComp_t5 ha))) rfl (Nat.le_of_ble_eq_true rfl) ⟨Nat.le_of_ble_eq_true rfl, Nat.le_of_ble_eq_true rfl⟩ dX7_cross_56 rfl (fun r56 g56 h => ?_)
  refine v_iconst o (v := 1) dX7_cross_59 (by decide) ?_
  refine v_isub o dX7_cross_60 ?_
  refine v_cVi o [.int (r56 - 1)] [] (fun sz => metX5_hiddenAt l G P g56 sz ((a + 1410) + 7) (wfLoaf_t2 (wfComp_t5 ha)) (r56 - 1) _ h) (cwX7_128 o.1.2.2.2.2 (by decide)) ⟨_, _, rfl⟩ (by decide) (wfTrace_o (wfLoaf_t2 (wfComp_t5 ha))) rfl (Nat.le_of_ble_eq_true rfl) ⟨Nat.le_of_ble_eq_true rfl, Nat.le_of_ble_eq_true rfl⟩ dX7_cross_61 rfl (fun r61 g61 h => ?_)
  exact v_iret o rfl hr dX7_cross_64 h
abbrev kX7_cross := @vX7_cross
abbrev metX7_cross := @mX7_cross
theorem nI_z {k : Nat} (h : k < 2 ^ 31) : nI k = 0 ↔ k = 0 := nI_eq (b := 0) h (by decide)
theorem u7_can {P : Sk} {f : St} {k : Nat} {K : St → Prop} {X : String → St → Prop} (hk : k < 2 ^ 31) (hK : k = 0 → K f) (hX : k ≠ 0 → X "java/lang/IllegalStateException" f) : kX7_needCan P f (nI k) K X := by
  show vX7_needCan P f (nI k) K X
  unfold vX7_needCan
  rw [nI_z hk]
  exact ⟨hK, hX⟩
theorem rsCross_v {bd : Bd} {p q : Int32} {r : Nat} (h1 : hasB bd p) (h2 : plB (lfP bd p) q) : (rsCross bd p q r).1 < 3 := by
  unfold rsCross
  rw [cif_pos h1, cif_pos h2]
  by_cases c : (lfP bd p).2.length < 24
  · rw [cif_pos c]
    rcases rsS_v ((lfP bd p).1, (lfP bd p).2 ++ [2 * q.toNatClampNeg + r]) with e | e <;> omega
  · rw [cif_neg c]
    show 1 < 3
    omega
theorem rsCross_n {bd : Bd} {p q : Int32} {r : Nat} (h : ¬ (hasB bd p ∧ plB (lfP bd p) q)) : (rsCross bd p q r).1 = 3 ∨ (rsCross bd p q r).1 = 4 := by
  unfold rsCross
  by_cases c1 : hasB bd p
  · rw [cif_pos c1]
    by_cases c2 : plB (lfP bd p) q
    · exact absurd ⟨c1, c2⟩ h
    · rw [cif_neg c2]
      exact Or.inr rfl
  · rw [cif_neg c1]
    exact Or.inl rfl
theorem u7_cross {P : Sk} {f : St} {x r : Nat} {A : Ab} {p q : Int32} {K : Int32 → St → Prop} {X : String → St → Prop} (hx : IsComp P x) (hC : CompIs f x A) (hr : r < 2) (hK : Fin f x (opCross A p q r) K X "java/lang/IndexOutOfBoundsException" "java/lang/IllegalStateException" "") : kX7_cross P f x p q (nI r) K X := by
  show vX7_cross P f x p q (nI r) K X
  unfold vX7_cross
  have h6 := hC.2.2.2.2.2.1
  unfold opCross at hK
  refine u7_needPlace hC (fun h1 h2 => ?_) (fun h => ?_)
  · have hv := rsCross_v (r := r) h1 h2
    refine u7_tryCrossing hx hC hr (fun g1 r1 q1 => ?_)
    have hC1 := hC.out r1 (by omega)
    refine u7_can (by omega) (fun e => ?_) (fun e => ?_)
    · rw [if_pos e] at hK
      obtain ⟨-, -, -, ey, hy⟩ := rsCross_ok h6 hr e
      refine c_save hC1 (fun g2 r2 hC2 => ?_)
      refine c_put hx hC2 h1 ((q1 e).out r2 (by omega)) hy (fun g3 r3 hC3 hL3 => ?_)
      refine u6_size hL3.1.2.1 ?_
      have hpos : (rsCross A.1 p q r).2.2.length ≠ 0 := by
        rw [ey]
        simp
      have hp : nI (rsCross A.1 p q r).2.2.length - 1 = nI ((rsCross A.1 p q r).2.2.length - 1) := by
        conv => lhs; rw [show (rsCross A.1 p q r).2.2.length = ((rsCross A.1 p q r).2.2.length - 1) + 1 by omega]
        exact nI_m1 _
      rw [hp]
      refine u5_hiddenAt (wfLoaf_t2 (wfComp_t5 hx)) hy.1 hL3.2.2 (by omega) ?_
      exact (hK g3 ((r1.mono (by omega) (by omega)).trans ((r2.mono (by omega) (by omega)).trans (r3.mono (by omega) (by omega)))) hC3).1 rfl
    · rw [if_neg e, if_pos hv] at hK
      exact (hK g1 (r1.mono (by omega) (by omega)) hC1).2.2.1 rfl
  · have hn := rsCross_n (r := r) h
    rw [if_neg (by omega), if_neg (by omega)] at hK
    exact (hK f (Fr.refl _ _ _) hC).2.1 rfl

def vX7_back (P : Sk) (f : St) (a : Nat) (p1 : Int32) (K : Int32 → St → Prop) (X : String → St → Prop) : Prop :=
  kX7_needLoaf P f a p1 (fun g2 => kX7_tryTakingBack P g2 a p1 (fun r7 g7 => kX7_needCan P g7 r7 (fun g10 => kX1_save P g10 (a + 160) (a + 4) (fun g21 => kX2_copyFrom P g21 (atB (a + 4) p1) (a + 1410) (fun g36 => kX6_size P g36 ((a + 1410) + 1) (fun r46 g46 => K r46 g46)))) X)) X
set_option maxRecDepth 20000 in
set_option maxHeartbeats 4000000 in
theorem mX7_back (l : Launch) (G : Gl) (P : Sk) (f : St) (sz : Nat) (a : Nat) (ha : IsComp P a) (p1 : Int32) (K : Int32 → St → Prop) (h : vX7_back P f a p1 K XF)  :
  Met l yX7_back (wU yX7_back cX7_back 2 (some .int)) rmX7_back (PcW G P f sz [.ref a, .int p1]) (QcI G P sz K) 0 0 (frA P sz) := by
  refine v_met (own := RX7) [.ref a, .int p1] (by decide +kernel) rfl (Nat.le_of_ble_eq_true rfl) (fun p e s m args below meth c hsz o hr hnm => ?_)
  refine v_lv (lv2 := [(0, .ref a), (1, .int p1)]) rfl ?_
  unfold vX7_back at h
  refine v_aload_n o 0 dX7_back_0 rfl ?_
  refine v_iload_n o 1 dX7_back_1 rfl ?_
  refine v_cVv o [.int p1] [] (fun sz => metX7_needLoaf l G P f sz a ha p1 _ h) (cwX7_98 o.1.2.2.2.2 (by decide)) ⟨_, _, rfl⟩ (by decide) (wfComp_o ha) rfl (Nat.le_of_ble_eq_true rfl) ⟨Nat.le_of_ble_eq_true rfl, Nat.le_of_ble_eq_true rfl⟩ dX7_back_2 rfl (fun g2 h => ?_)
  refine v_aload_n o 0 dX7_back_5 rfl ?_
  refine v_iload_n o 1 dX7_back_6 rfl ?_
  refine v_cVi o [.int p1] [] (fun sz => metX7_tryTakingBack l G P g2 sz a ha p1 _ h) (cwX7_134 o.1.2.2.2.2 (by decide)) ⟨_, _, rfl⟩ (by decide) (wfComp_o ha) rfl (Nat.le_of_ble_eq_true rfl) ⟨Nat.le_of_ble_eq_true rfl, Nat.le_of_ble_eq_true rfl⟩ dX7_back_7 rfl (fun r7 g7 h => ?_)
  refine v_cSv o [.int r7] [] (fun sz => metX7_needCan l G P g7 sz r7 _ h) (cwX7_118 o.1.2.2.2.2 (by decide)) rfl (Nat.le_of_ble_eq_true rfl) ⟨Nat.le_of_ble_eq_true rfl, Nat.le_of_ble_eq_true rfl⟩ dX7_back_10 rfl (fun g10 h => ?_)
  refine v_aload_n o 0 dX7_back_13 rfl ?_
  refine v_gfR o lkX7_26 (by decide) (wfComp_o ha) (wfComp_r2 ha) dX7_back_14 ?_
  refine v_aload_n o 0 dX7_back_17 rfl ?_
  refine v_gfR o lkX7_19 (by decide) (wfComp_o ha) (wfComp_r1 ha) dX7_back_18 ?_
  refine v_cVv o [.ref (a + 4)] [] (fun sz => metX1_save l G P g10 sz (a + 160) (wfComp_t2 ha) (a + 4) (wfComp_t1 ha) _ h) (cwX7_87 o.1.2.2.2.2 (by decide)) ⟨_, _, rfl⟩ (by decide) (wfHist_o (wfComp_t2 ha)) rfl (Nat.le_of_ble_eq_true rfl) ⟨Nat.le_of_ble_eq_true rfl, Nat.le_of_ble_eq_true rfl⟩ dX7_back_21 rfl (fun g21 h => ?_)
  refine v_aload_n o 0 dX7_back_24 rfl ?_
  refine v_gfR o lkX7_19 (by decide) (wfComp_o ha) (wfComp_r1 ha) dX7_back_25 ?_
  refine v_iload_n o 1 dX7_back_28 rfl ?_
  refine v_cVr o [.int p1] [] (fun sz => metX0_at l G P g21 sz (a + 4) (wfComp_t1 ha) p1) (cwX7_102 o.1.2.2.2.2 (by decide)) ⟨_, _, rfl⟩ (by decide) (wfBoard_o (wfComp_t1 ha)) rfl (Nat.le_of_ble_eq_true rfl) ⟨Nat.le_of_ble_eq_true rfl, Nat.le_of_ble_eq_true rfl⟩ dX7_back_29 rfl (fun r29 g29 h29 => ?_)
  obtain ⟨rfl, rfl⟩ := h29
  refine v_aload_n o 0 dX7_back_32 rfl ?_
  refine v_gfR o lkX7_40 (by decide) (wfComp_o ha) (wfComp_r5 ha) dX7_back_33 ?_
  refine v_cVv o [.ref (a + 1410)] [] (fun sz => metX2_copyFrom l G P g21 sz (atB (a + 4) p1) (is_atB (wfComp_t1 ha) p1) (a + 1410) (wfComp_t5 ha) _ h) (cwX7_121 o.1.2.2.2.2 (by decide)) ⟨_, _, rfl⟩ (by decide) (wfLoaf_o (is_atB (wfComp_t1 ha) p1)) rfl (Nat.le_of_ble_eq_true rfl) ⟨Nat.le_of_ble_eq_true rfl, Nat.le_of_ble_eq_true rfl⟩ dX7_back_36 rfl (fun g36 h => ?_)
  refine v_aload_n o 0 dX7_back_39 rfl ?_
  refine v_gfR o lkX7_40 (by decide) (wfComp_o ha) (wfComp_r5 ha) dX7_back_40 ?_
  refine v_cVr o [] [] (fun sz => metX2_word l G P g36 sz (a + 1410) (wfComp_t5 ha)) (cwX7_74 o.1.2.2.2.2 (by decide)) ⟨_, _, rfl⟩ (by decide) (wfLoaf_o (wfComp_t5 ha)) rfl (Nat.le_of_ble_eq_true rfl) ⟨Nat.le_of_ble_eq_true rfl, Nat.le_of_ble_eq_true rfl⟩ dX7_back_43 rfl (fun r43 g43 h43 => ?_)
  obtain ⟨rfl, rfl⟩ := h43
  refine v_cVi o [] [] (fun sz => metX6_size l G P g36 sz ((a + 1410) + 1) (wfLoaf_t0 (wfComp_t5 ha)) _ h) (cwX7_106 o.1.2.2.2.2 (by decide)) ⟨_, _, rfl⟩ (by decide) (wfWord_o (wfLoaf_t0 (wfComp_t5 ha))) rfl (Nat.le_of_ble_eq_true rfl) ⟨Nat.le_of_ble_eq_true rfl, Nat.le_of_ble_eq_true rfl⟩ dX7_back_46 rfl (fun r46 g46 h => ?_)
  exact v_iret o rfl hr dX7_back_49 h
abbrev kX7_back := @vX7_back
abbrev metX7_back := @mX7_back
theorem rsBack_v {bd : Bd} {p : Int32} : ((rsBack bd p).1 = 3 ∧ ¬ hasB bd p) ∨ (hasB bd p ∧ ((rsBack bd p).1 = 0 ∨ (rsBack bd p).1 = 6)) := by
  unfold rsBack
  by_cases c1 : hasB bd p
  · rw [cif_pos c1]
    refine Or.inr ⟨c1, ?_⟩
    by_cases c2 : (lfP bd p).2.length = 0
    · rw [cif_pos c2]
      exact Or.inr rfl
    · rw [cif_neg c2]
      exact Or.inl rfl
  · rw [cif_neg c1]
    exact Or.inl ⟨rfl, c1⟩
theorem u7_back {P : Sk} {f : St} {x : Nat} {A : Ab} {p : Int32} {K : Int32 → St → Prop} {X : String → St → Prop} (hx : IsComp P x) (hC : CompIs f x A) (hK : Fin f x (opBack A p) K X "java/lang/IndexOutOfBoundsException" "java/lang/IllegalStateException" "") : kX7_back P f x p K X := by
  show vX7_back P f x p K X
  unfold vX7_back
  have h6 := hC.2.2.2.2.2.1
  have hv := rsBack_v (bd := A.1) (p := p)
  unfold opBack at hK
  refine u7_needLoaf hC (fun h1 => ?_) (fun h => ?_)
  · have hv2 := (hv.resolve_left (fun q => q.2 h1)).2
    refine u7_tryTakingBack hx hC (fun g1 r1 q1 => ?_)
    have hC1 := hC.out r1 (by omega)
    refine u7_can (by omega) (fun e => ?_) (fun e => ?_)
    · rw [if_pos e] at hK
      obtain ⟨-, -, ey, hy⟩ := rsBack_ok h6 e
      refine c_save hC1 (fun g2 r2 hC2 => ?_)
      refine c_put hx hC2 h1 ((q1 e).out r2 (by omega)) hy (fun g3 r3 hC3 hL3 => ?_)
      refine u6_size hL3.1.2.1 ?_
      exact (hK g3 ((r1.mono (by omega) (by omega)).trans ((r2.mono (by omega) (by omega)).trans (r3.mono (by omega) (by omega)))) hC3).1 rfl
    · rw [if_neg e, if_neg (by omega)] at hK
      exact (hK g1 (r1.mono (by omega) (by omega)) hC1).2.2.1 rfl
  · have hn := (hv.resolve_right (fun q => h q.1)).1
    rw [if_neg (by omega), if_pos hn] at hK
    exact (hK f (Fr.refl _ _ _) hC).2.1 rfl

