def jL_act_90 (P : Sk) (b0 : Nat) (p1 : Int32) (K : Int32 → St → Prop) (x2 : Int32) (x3 : Int32) (x4 : Int32) (y0 : Int32) (f : St) : Prop :=
  kX7_whyNot P f b0 x2 x4 y0 (fun r98 g98 => (r98 = 0 → kX7_cross P g98 b0 x2 x4 y0 (fun r112 g112 => K 1 g112) XF) ∧ (¬ r98 = 0 → K 0 g98)) XF
def jL_act_64 (P : Sk) (b0 : Nat) (p1 : Int32) (K : Int32 → St → Prop) (x2 : Int32) (x3 : Int32) (f : St) : Prop :=
  kL_low P f (p1 >>> (8 &&& 31)) (x3 - 1) (fun r71 g71 => (¬ (p1 >>> (3 &&& 31)) &&& 1 = 1 → jL_act_90 P b0 p1 K x2 x3 r71 0 g71) ∧ ((p1 >>> (3 &&& 31)) &&& 1 = 1 → jL_act_90 P b0 p1 K x2 x3 r71 1 g71))
def jL_act_159 (P : Sk) (b0 : Nat) (p1 : Int32) (K : Int32 → St → Prop) (x2 : Int32) (x3 : Int32) (y1 : Int32) (f : St) : Prop :=
  kX7_append P f b0 y1 (fun r159 g159 => kX7_append P g159 b0 (48 + x2) (fun r168 g168 => kX7_work P g168 b0 (fun r173 g173 => K 1 g173) XF) XF) XF
def jL_act_201 (P : Sk) (b0 : Nat) (p1 : Int32) (K : Int32 → St → Prop) (x2 : Int32) (x3 : Int32) (y1 : Int32) (f : St) : Prop :=
  kX7_append P f b0 y1 (fun r201 g201 => kX7_append P g201 b0 (48 + x2) (fun r210 g210 => kX7_work P g210 b0 (fun r215 g215 => K 1 g215) XF) XF) XF
def vL_act (P : Sk) (f : St) (b0 : Nat) (p1 : Int32) (K : Int32 → St → Prop) : Prop :=
  kX7_count P f b0 0 (fun r5 g5 => kL_low P g5 (p1 >>> (4 &&& 31)) r5 (fun r8 g8 => kX7_loaf P g8 b0 r8 0 (fun r15 g15 => (p1 &&& 7 = 0 → jL_act_64 P b0 p1 K r8 r15 g15) ∧ (¬ p1 &&& 7 = 0 → (p1 &&& 7 = 1 → jL_act_64 P b0 p1 K r8 r15 g15) ∧ (¬ p1 &&& 7 = 1 → (p1 &&& 7 = 2 → jL_act_64 P b0 p1 K r8 r15 g15) ∧ (¬ p1 &&& 7 = 2 → (p1 &&& 7 = 3 → jL_act_64 P b0 p1 K r8 r15 g15) ∧ (¬ p1 &&& 7 = 3 → (p1 &&& 7 = 4 → kX7_loaf P g15 b0 r8 1 (fun r121 g121 => (¬ r121 = 0 → kX7_back P g121 b0 r8 (fun r131 g131 => K 1 g131) XF) ∧ (r121 = 0 → K 0 g121)) XF) ∧ (¬ p1 &&& 7 = 4 → (p1 &&& 7 = 5 → kX7_clearBuffer P g15 b0 (fun r138 g138 => (¬ (p1 >>> (8 &&& 31)) &&& 1 = 0 → jL_act_159 P b0 p1 K r8 r15 116 g138) ∧ ((p1 >>> (8 &&& 31)) &&& 1 = 0 → jL_act_159 P b0 p1 K r8 r15 109 g138))) ∧ (¬ p1 &&& 7 = 5 → (p1 &&& 7 = 6 → kX7_clearBuffer P g15 b0 (fun r180 g180 => (¬ (p1 >>> (8 &&& 31)) &&& 1 = 0 → jL_act_201 P b0 p1 K r8 r15 108 g180) ∧ ((p1 >>> (8 &&& 31)) &&& 1 = 0 → jL_act_201 P b0 p1 K r8 r15 114 g180))) ∧ (¬ p1 &&& 7 = 6 → kX7_count P g15 b0 0 (fun r223 g223 => (¬ r223 = 4 → kX7_clearBuffer P g223 b0 (fun r233 g233 => kL_low P g233 (p1 >>> (8 &&& 31)) 6 (fun r246 g246 => kX7_append P g246 b0 (50 + r246) (fun r250 g250 => kX7_append P g250 b0 58 (fun r257 g257 => kX7_lay P g257 b0 (fun r262 g262 => K 1 g262) XF) XF) XF))) ∧ (r223 = 4 → K 0 g223)) XF)))))))) XF)) XF
set_option maxRecDepth 20000 in
set_option maxHeartbeats 4000000 in
theorem mL_act (l : Launch) (G : Gl) (P : Sk) (f : St) (sz : Nat) (b0 : Nat) (hb0 : IsComp P b0) (p1 : Int32) (K : Int32 → St → Prop) (h : vL_act P f b0 p1 K)  :
  Met l yL_act (wU yL_act cL_act 6 (some .boolean)) rmL_act (PcW G P f sz [.ref b0, .int p1]) (QcI G P sz K) 0 0 (frA P sz) := by
  refine v_met (own := RL) [.ref b0, .int p1] (by decide +kernel) rfl (Nat.le_of_ble_eq_true rfl) (fun p e s m args below meth c hsz o hr hnm => ?_)
  refine v_lv (lv2 := [(0, .ref b0), (1, .int p1)]) rfl ?_
  have J90 : ∀ (x2_90 : Int32) (x3_90 : Int32) (x4_90 : Int32) (y0_90 : Int32) (g90 : St), jL_act_90 P b0 p1 K x2_90 x3_90 x4_90 y0_90 g90 → V p l e rmL_act s m args below meth c 6 G (frA P sz) (MQ below (QcI G P sz K) args s 0 0 (frA P sz)) 0 0 P [(0, .ref b0), (1, .int p1), (2, .int x2_90), (3, .int x3_90), (4, .int x4_90)] [.int y0_90] 90 g90 := by
    intro x2_90 x3_90 x4_90 y0_90 g90  h
    unfold jL_act_90 at h
    refine v_istore o (lv' := [(5, .int y0_90), (0, .ref b0), (1, .int p1), (2, .int x2_90), (3, .int x3_90), (4, .int x4_90)]) dL_act_90 (by decide) rfl ?_
    refine v_aload_n o 1 dL_act_92 rfl ?_
    refine v_iload_n o 3 dL_act_93 rfl ?_
    refine v_iload o 5 dL_act_94 rfl ?_
    refine v_iload o 0 dL_act_96 rfl ?_
    refine v_cVi o [.int x2_90, .int x4_90, .int y0_90] [] (fun sz => metX7_whyNot l G P g90 sz b0 hb0 x2_90 x4_90 y0_90 _ h) (cwL_34 o.1.2.2.2.2 (by decide)) ⟨_, _, rfl⟩ (by decide) (wfComp_o hb0) rfl (Nat.le_of_ble_eq_true rfl) ⟨Nat.le_of_ble_eq_true rfl, Nat.le_of_ble_eq_true rfl⟩ dL_act_98 rfl (fun r98 g98 h => ?_)
    refine v_if_eq o (tgt := 106) dL_act_101 (by decide) (fun c101 => ?_) (fun c101 => ?_)
    · replace h := h.1 c101
      refine v_aload_n o 1 dL_act_106 rfl ?_
      refine v_iload_n o 3 dL_act_107 rfl ?_
      refine v_iload o 5 dL_act_108 rfl ?_
      refine v_iload o 0 dL_act_110 rfl ?_
      refine v_cVi o [.int x2_90, .int x4_90, .int y0_90] [] (fun sz => metX7_cross l G P g98 sz b0 hb0 x2_90 x4_90 y0_90 _ h) (cwL_38 o.1.2.2.2.2 (by decide)) ⟨_, _, rfl⟩ (by decide) (wfComp_o hb0) rfl (Nat.le_of_ble_eq_true rfl) ⟨Nat.le_of_ble_eq_true rfl, Nat.le_of_ble_eq_true rfl⟩ dL_act_112 rfl (fun r112 g112 h => ?_)
      refine v_pop o dL_act_115 rfl ?_
      refine v_iconst o (v := 1) dL_act_116 (by decide) ?_
      exact v_zret o rfl hr bz1.1 dL_act_117 h
    · replace h := h.2 c101
      refine v_iconst o (v := 0) dL_act_104 (by decide) ?_
      exact v_zret o rfl hr bz0.1 dL_act_105 h
  have J64 : ∀ (x2_64 : Int32) (x3_64 : Int32) (g64 : St), jL_act_64 P b0 p1 K x2_64 x3_64 g64 → V p l e rmL_act s m args below meth c 6 G (frA P sz) (MQ below (QcI G P sz K) args s 0 0 (frA P sz)) 0 0 P [(0, .ref b0), (1, .int p1), (2, .int x2_64), (3, .int x3_64)] [] 64 g64 := by
    intro x2_64 x3_64 g64  h
    unfold jL_act_64 at h
    refine v_iload_n o 1 dL_act_64 rfl ?_
    refine v_bipush o (v := 8) dL_act_65 (by decide) ?_
    refine v_ishr o dL_act_67 ?_
    refine v_iload_n o 3 dL_act_68 rfl ?_
    refine v_iconst o (v := 1) dL_act_69 (by decide) ?_
    refine v_isub o dL_act_70 ?_
    refine v_cSi o [.int (p1 >>> (8 &&& 31)), .int (x3_64 - 1)] [] (fun sz => metL_low l G P g64 sz (p1 >>> (8 &&& 31)) (x3_64 - 1) _ h) (cwL_29 o.1.2.2.2.2 (by decide)) rfl (Nat.le_of_ble_eq_true rfl) ⟨Nat.le_of_ble_eq_true rfl, Nat.le_of_ble_eq_true rfl⟩ dL_act_71 rfl (fun r71 g71 h => ?_)
    refine v_istore o (lv' := [(4, .int r71), (0, .ref b0), (1, .int p1), (2, .int x2_64), (3, .int x3_64)]) dL_act_74 (by decide) rfl ?_
    refine v_iload_n o 2 dL_act_76 rfl ?_
    refine v_iconst o (v := 3) dL_act_77 (by decide) ?_
    refine v_ishr o dL_act_78 ?_
    refine v_iconst o (v := 1) dL_act_79 (by decide) ?_
    refine v_iand o dL_act_80 ?_
    refine v_iconst o (v := 1) dL_act_81 (by decide) ?_
    refine v_icmp_ne o (tgt := 89) dL_act_82 (by decide) (fun c82 => ?_) (fun c82 => ?_)
    · replace h := h.1 c82
      refine v_iconst o (v := 0) dL_act_89 (by decide) ?_
      refine v_sub [1, 2, 3, 4, 0] (lv2 := [(0, .ref b0), (1, .int p1), (2, .int x2_64), (3, .int x3_64), (4, .int r71)]) rfl ?_
      exact J90 x2_64 x3_64 r71 0 g71  h
    · replace h := h.2 c82
      refine v_iconst o (v := 1) dL_act_85 (by decide) ?_
      refine v_goto o (tgt := 90) dL_act_86 (by decide) ?_
      refine v_sub [1, 2, 3, 4, 0] (lv2 := [(0, .ref b0), (1, .int p1), (2, .int x2_64), (3, .int x3_64), (4, .int r71)]) rfl ?_
      exact J90 x2_64 x3_64 r71 1 g71  h
  have J159 : ∀ (x2_159 : Int32) (x3_159 : Int32) (y1_159 : Int32) (g159 : St), jL_act_159 P b0 p1 K x2_159 x3_159 y1_159 g159 → V p l e rmL_act s m args below meth c 6 G (frA P sz) (MQ below (QcI G P sz K) args s 0 0 (frA P sz)) 0 0 P [(0, .ref b0), (1, .int p1), (2, .int x2_159), (3, .int x3_159)] [.int y1_159, .ref b0] 159 g159 := by
    intro x2_159 x3_159 y1_159 g159  h
    unfold jL_act_159 at h
    refine v_cVi o [.int y1_159] [] (fun sz => metX7_append l G P g159 sz b0 hb0 y1_159 _ h) (cwL_48 o.1.2.2.2.2 (by decide)) ⟨_, _, rfl⟩ (by decide) (wfComp_o hb0) rfl (Nat.le_of_ble_eq_true rfl) ⟨Nat.le_of_ble_eq_true rfl, Nat.le_of_ble_eq_true rfl⟩ dL_act_159 rfl (fun r159 g159 h => ?_)
    refine v_pop o dL_act_162 rfl ?_
    refine v_aload_n o 0 dL_act_163 rfl ?_
    refine v_bipush o (v := 48) dL_act_164 (by decide) ?_
    refine v_iload_n o 2 dL_act_166 rfl ?_
    refine v_iadd o dL_act_167 ?_
    refine v_cVi o [.int (48 + x2_159)] [] (fun sz => metX7_append l G P g159 sz b0 hb0 (48 + x2_159) _ h) (cwL_48 o.1.2.2.2.2 (by decide)) ⟨_, _, rfl⟩ (by decide) (wfComp_o hb0) rfl (Nat.le_of_ble_eq_true rfl) ⟨Nat.le_of_ble_eq_true rfl, Nat.le_of_ble_eq_true rfl⟩ dL_act_168 rfl (fun r168 g168 h => ?_)
    refine v_pop o dL_act_171 rfl ?_
    refine v_aload_n o 0 dL_act_172 rfl ?_
    refine v_cVi o [] [] (fun sz => metX7_work l G P g168 sz b0 hb0 _ h) (cwL_51 o.1.2.2.2.2 (by decide)) ⟨_, _, rfl⟩ (by decide) (wfComp_o hb0) rfl (Nat.le_of_ble_eq_true rfl) ⟨Nat.le_of_ble_eq_true rfl, Nat.le_of_ble_eq_true rfl⟩ dL_act_173 rfl (fun r173 g173 h => ?_)
    refine v_pop o dL_act_176 rfl ?_
    refine v_iconst o (v := 1) dL_act_177 (by decide) ?_
    exact v_zret o rfl hr bz1.1 dL_act_178 h
  have J201 : ∀ (x2_201 : Int32) (x3_201 : Int32) (y1_201 : Int32) (g201 : St), jL_act_201 P b0 p1 K x2_201 x3_201 y1_201 g201 → V p l e rmL_act s m args below meth c 6 G (frA P sz) (MQ below (QcI G P sz K) args s 0 0 (frA P sz)) 0 0 P [(0, .ref b0), (1, .int p1), (2, .int x2_201), (3, .int x3_201)] [.int y1_201, .ref b0] 201 g201 := by
    intro x2_201 x3_201 y1_201 g201  h
    unfold jL_act_201 at h
    refine v_cVi o [.int y1_201] [] (fun sz => metX7_append l G P g201 sz b0 hb0 y1_201 _ h) (cwL_48 o.1.2.2.2.2 (by decide)) ⟨_, _, rfl⟩ (by decide) (wfComp_o hb0) rfl (Nat.le_of_ble_eq_true rfl) ⟨Nat.le_of_ble_eq_true rfl, Nat.le_of_ble_eq_true rfl⟩ dL_act_201 rfl (fun r201 g201 h => ?_)
    refine v_pop o dL_act_204 rfl ?_
    refine v_aload_n o 0 dL_act_205 rfl ?_
    refine v_bipush o (v := 48) dL_act_206 (by decide) ?_
    refine v_iload_n o 2 dL_act_208 rfl ?_
    refine v_iadd o dL_act_209 ?_
    refine v_cVi o [.int (48 + x2_201)] [] (fun sz => metX7_append l G P g201 sz b0 hb0 (48 + x2_201) _ h) (cwL_48 o.1.2.2.2.2 (by decide)) ⟨_, _, rfl⟩ (by decide) (wfComp_o hb0) rfl (Nat.le_of_ble_eq_true rfl) ⟨Nat.le_of_ble_eq_true rfl, Nat.le_of_ble_eq_true rfl⟩ dL_act_210 rfl (fun r210 g210 h => ?_)
    refine v_pop o dL_act_213 rfl ?_
    refine v_aload_n o 0 dL_act_214 rfl ?_
    refine v_cVi o [] [] (fun sz => metX7_work l G P g210 sz b0 hb0 _ h) (cwL_51 o.1.2.2.2.2 (by decide)) ⟨_, _, rfl⟩ (by decide) (wfComp_o hb0) rfl (Nat.le_of_ble_eq_true rfl) ⟨Nat.le_of_ble_eq_true rfl, Nat.le_of_ble_eq_true rfl⟩ dL_act_215 rfl (fun r215 g215 h => ?_)
    refine v_pop o dL_act_218 rfl ?_
    refine v_iconst o (v := 1) dL_act_219 (by decide) ?_
    exact v_zret o rfl hr bz1.1 dL_act_220 h
  unfold vL_act at h
  refine v_iload_n o 1 dL_act_0 rfl ?_
  refine v_iconst o (v := 4) dL_act_1 (by decide) ?_
  refine v_ishr o dL_act_2 ?_
  refine v_aload_n o 0 dL_act_3 rfl ?_
  refine v_iconst o (v := 0) dL_act_4 (by decide) ?_
  refine v_cVi o [.int 0] [.int (p1 >>> (4 &&& 31))] (fun sz => metX7_count l G P f sz b0 hb0 0 _ h) (cwL_12 o.1.2.2.2.2 (by decide)) ⟨_, _, rfl⟩ (by decide) (wfComp_o hb0) rfl (Nat.le_of_ble_eq_true rfl) ⟨Nat.le_of_ble_eq_true rfl, Nat.le_of_ble_eq_true rfl⟩ dL_act_5 rfl (fun r5 g5 h => ?_)
  refine v_cSi o [.int (p1 >>> (4 &&& 31)), .int r5] [] (fun sz => metL_low l G P g5 sz (p1 >>> (4 &&& 31)) r5 _ h) (cwL_29 o.1.2.2.2.2 (by decide)) rfl (Nat.le_of_ble_eq_true rfl) ⟨Nat.le_of_ble_eq_true rfl, Nat.le_of_ble_eq_true rfl⟩ dL_act_8 rfl (fun r8 g8 h => ?_)
  refine v_istore_n o (lv' := [(2, .int r8), (0, .ref b0), (1, .int p1)]) dL_act_11 rfl (by decide) rfl ?_
  refine v_aload_n o 1 dL_act_12 rfl ?_
  refine v_iload_n o 0 dL_act_13 rfl ?_
  refine v_iconst o (v := 0) dL_act_14 (by decide) ?_
  refine v_cVi o [.int r8, .int 0] [] (fun sz => metX7_loaf l G P g8 sz b0 hb0 r8 0 _ h) (cwL_21 o.1.2.2.2.2 (by decide)) ⟨_, _, rfl⟩ (by decide) (wfComp_o hb0) rfl (Nat.le_of_ble_eq_true rfl) ⟨Nat.le_of_ble_eq_true rfl, Nat.le_of_ble_eq_true rfl⟩ dL_act_15 rfl (fun r15 g15 h => ?_)
  refine v_istore_n o (lv' := [(3, .int r15), (2, .int r8), (0, .ref b0), (1, .int p1)]) dL_act_18 rfl (by decide) rfl ?_
  refine v_iload_n o 3 dL_act_19 rfl ?_
  refine v_bipush o (v := 7) dL_act_20 (by decide) ?_
  refine v_iand o dL_act_22 ?_
  by_cases c23_0 : p1 &&& 7 = 0
  · replace h := h.1 c23_0
    refine v_tableIn o (off := 41) (tgt := 64) dL_act_23 (by rw [c23_0]; decide) (by rw [c23_0]; decide) (by rw [c23_0]; decide) (by decide) ?_
    refine v_sub [2, 3, 1, 0] (lv2 := [(0, .ref b0), (1, .int p1), (2, .int r8), (3, .int r15)]) rfl ?_
    exact J64 r8 r15 g15  h
  · replace h := h.2 c23_0
    by_cases c23_1 : p1 &&& 7 = 1
    · replace h := h.1 c23_1
      refine v_tableIn o (off := 41) (tgt := 64) dL_act_23 (by rw [c23_1]; decide) (by rw [c23_1]; decide) (by rw [c23_1]; decide) (by decide) ?_
      refine v_sub [2, 3, 1, 0] (lv2 := [(0, .ref b0), (1, .int p1), (2, .int r8), (3, .int r15)]) rfl ?_
      exact J64 r8 r15 g15  h
    · replace h := h.2 c23_1
      by_cases c23_2 : p1 &&& 7 = 2
      · replace h := h.1 c23_2
        refine v_tableIn o (off := 41) (tgt := 64) dL_act_23 (by rw [c23_2]; decide) (by rw [c23_2]; decide) (by rw [c23_2]; decide) (by decide) ?_
        refine v_sub [2, 3, 1, 0] (lv2 := [(0, .ref b0), (1, .int p1), (2, .int r8), (3, .int r15)]) rfl ?_
        exact J64 r8 r15 g15  h
      · replace h := h.2 c23_2
        by_cases c23_3 : p1 &&& 7 = 3
        · replace h := h.1 c23_3
          refine v_tableIn o (off := 41) (tgt := 64) dL_act_23 (by rw [c23_3]; decide) (by rw [c23_3]; decide) (by rw [c23_3]; decide) (by decide) ?_
          refine v_sub [2, 3, 1, 0] (lv2 := [(0, .ref b0), (1, .int p1), (2, .int r8), (3, .int r15)]) rfl ?_
          exact J64 r8 r15 g15  h
        · replace h := h.2 c23_3
          by_cases c23_4 : p1 &&& 7 = 4
          · replace h := h.1 c23_4
            refine v_tableIn o (off := 95) (tgt := 118) dL_act_23 (by rw [c23_4]; decide) (by rw [c23_4]; decide) (by rw [c23_4]; decide) (by decide) ?_
            refine v_aload_n o 2 dL_act_118 rfl ?_
            refine v_iload_n o 1 dL_act_119 rfl ?_
            refine v_iconst o (v := 1) dL_act_120 (by decide) ?_
            refine v_cVi o [.int r8, .int 1] [] (fun sz => metX7_loaf l G P g15 sz b0 hb0 r8 1 _ h) (cwL_21 o.1.2.2.2.2 (by decide)) ⟨_, _, rfl⟩ (by decide) (wfComp_o hb0) rfl (Nat.le_of_ble_eq_true rfl) ⟨Nat.le_of_ble_eq_true rfl, Nat.le_of_ble_eq_true rfl⟩ dL_act_121 rfl (fun r121 g121 h => ?_)
            refine v_if_ne o (tgt := 129) dL_act_124 (by decide) (fun c124 => ?_) (fun c124 => ?_)
            · replace h := h.1 c124
              refine v_aload_n o 2 dL_act_129 rfl ?_
              refine v_iload_n o 1 dL_act_130 rfl ?_
              refine v_cVi o [.int r8] [] (fun sz => metX7_back l G P g121 sz b0 hb0 r8 _ h) (cwL_41 o.1.2.2.2.2 (by decide)) ⟨_, _, rfl⟩ (by decide) (wfComp_o hb0) rfl (Nat.le_of_ble_eq_true rfl) ⟨Nat.le_of_ble_eq_true rfl, Nat.le_of_ble_eq_true rfl⟩ dL_act_131 rfl (fun r131 g131 h => ?_)
              refine v_pop o dL_act_134 rfl ?_
              refine v_iconst o (v := 1) dL_act_135 (by decide) ?_
              exact v_zret o rfl hr bz1.1 dL_act_136 h
            · replace h := h.2 c124
              refine v_iconst o (v := 0) dL_act_127 (by decide) ?_
              exact v_zret o rfl hr bz0.1 dL_act_128 h
          · replace h := h.2 c23_4
            by_cases c23_5 : p1 &&& 7 = 5
            · replace h := h.1 c23_5
              refine v_tableIn o (off := 114) (tgt := 137) dL_act_23 (by rw [c23_5]; decide) (by rw [c23_5]; decide) (by rw [c23_5]; decide) (by decide) ?_
              refine v_aload_n o 2 dL_act_137 rfl ?_
              refine v_cVi o [] [] (fun sz => metX7_clearBuffer l G P g15 sz b0 hb0 _ h) (cwL_44 o.1.2.2.2.2 (by decide)) ⟨_, _, rfl⟩ (by decide) (wfComp_o hb0) rfl (Nat.le_of_ble_eq_true rfl) ⟨Nat.le_of_ble_eq_true rfl, Nat.le_of_ble_eq_true rfl⟩ dL_act_138 rfl (fun r138 g138 h => ?_)
              refine v_pop o dL_act_141 rfl ?_
              refine v_aload_n o 2 dL_act_142 rfl ?_
              refine v_iload_n o 3 dL_act_143 rfl ?_
              refine v_bipush o (v := 8) dL_act_144 (by decide) ?_
              refine v_ishr o dL_act_146 ?_
              refine v_iconst o (v := 1) dL_act_147 (by decide) ?_
              refine v_iand o dL_act_148 ?_
              refine v_if_ne o (tgt := 157) dL_act_149 (by decide) (fun c149 => ?_) (fun c149 => ?_)
              · replace h := h.1 c149
                refine v_bipush o (v := 116) dL_act_157 (by decide) ?_
                refine v_sub [2, 3, 1, 0] (lv2 := [(0, .ref b0), (1, .int p1), (2, .int r8), (3, .int r15)]) rfl ?_
                exact J159 r8 r15 116 g138  h
              · replace h := h.2 c149
                refine v_bipush o (v := 109) dL_act_152 (by decide) ?_
                refine v_goto o (tgt := 159) dL_act_154 (by decide) ?_
                refine v_sub [2, 3, 1, 0] (lv2 := [(0, .ref b0), (1, .int p1), (2, .int r8), (3, .int r15)]) rfl ?_
                exact J159 r8 r15 109 g138  h
            · replace h := h.2 c23_5
              by_cases c23_6 : p1 &&& 7 = 6
              · replace h := h.1 c23_6
                refine v_tableIn o (off := 156) (tgt := 179) dL_act_23 (by rw [c23_6]; decide) (by rw [c23_6]; decide) (by rw [c23_6]; decide) (by decide) ?_
                refine v_aload_n o 2 dL_act_179 rfl ?_
                refine v_cVi o [] [] (fun sz => metX7_clearBuffer l G P g15 sz b0 hb0 _ h) (cwL_44 o.1.2.2.2.2 (by decide)) ⟨_, _, rfl⟩ (by decide) (wfComp_o hb0) rfl (Nat.le_of_ble_eq_true rfl) ⟨Nat.le_of_ble_eq_true rfl, Nat.le_of_ble_eq_true rfl⟩ dL_act_180 rfl (fun r180 g180 h => ?_)
                refine v_pop o dL_act_183 rfl ?_
                refine v_aload_n o 2 dL_act_184 rfl ?_
                refine v_iload_n o 3 dL_act_185 rfl ?_
                refine v_bipush o (v := 8) dL_act_186 (by decide) ?_
                refine v_ishr o dL_act_188 ?_
                refine v_iconst o (v := 1) dL_act_189 (by decide) ?_
                refine v_iand o dL_act_190 ?_
                refine v_if_ne o (tgt := 199) dL_act_191 (by decide) (fun c191 => ?_) (fun c191 => ?_)
                · replace h := h.1 c191
                  refine v_bipush o (v := 108) dL_act_199 (by decide) ?_
                  refine v_sub [2, 3, 1, 0] (lv2 := [(0, .ref b0), (1, .int p1), (2, .int r8), (3, .int r15)]) rfl ?_
                  exact J201 r8 r15 108 g180  h
                · replace h := h.2 c191
                  refine v_bipush o (v := 114) dL_act_194 (by decide) ?_
                  refine v_goto o (tgt := 201) dL_act_196 (by decide) ?_
                  refine v_sub [2, 3, 1, 0] (lv2 := [(0, .ref b0), (1, .int p1), (2, .int r8), (3, .int r15)]) rfl ?_
                  exact J201 r8 r15 114 g180  h
              · replace h := h.2 c23_6
                refine v_tableOut o (tgt := 221) dL_act_23 (by have q0 := lv_neT c23_0 (a := 0) (by decide); have q1 := lv_neT c23_1 (a := 1) (by decide); have q2 := lv_neT c23_2 (a := 2) (by decide); have q3 := lv_neT c23_3 (a := 3) (by decide); have q4 := lv_neT c23_4 (a := 4) (by decide); have q5 := lv_neT c23_5 (a := 5) (by decide); have q6 := lv_neT c23_6 (a := 6) (by decide); omega) (by decide) ?_
                refine v_aload_n o 2 dL_act_221 rfl ?_
                refine v_iconst o (v := 0) dL_act_222 (by decide) ?_
                refine v_cVi o [.int 0] [] (fun sz => metX7_count l G P g15 sz b0 hb0 0 _ h) (cwL_12 o.1.2.2.2.2 (by decide)) ⟨_, _, rfl⟩ (by decide) (wfComp_o hb0) rfl (Nat.le_of_ble_eq_true rfl) ⟨Nat.le_of_ble_eq_true rfl, Nat.le_of_ble_eq_true rfl⟩ dL_act_223 rfl (fun r223 g223 h => ?_)
                refine v_iconst o (v := 4) dL_act_226 (by decide) ?_
                refine v_icmp_ne o (tgt := 232) dL_act_227 (by decide) (fun c227 => ?_) (fun c227 => ?_)
                · replace h := h.1 c227
                  refine v_aload_n o 2 dL_act_232 rfl ?_
                  refine v_cVi o [] [] (fun sz => metX7_clearBuffer l G P g223 sz b0 hb0 _ h) (cwL_44 o.1.2.2.2.2 (by decide)) ⟨_, _, rfl⟩ (by decide) (wfComp_o hb0) rfl (Nat.le_of_ble_eq_true rfl) ⟨Nat.le_of_ble_eq_true rfl, Nat.le_of_ble_eq_true rfl⟩ dL_act_233 rfl (fun r233 g233 h => ?_)
                  refine v_pop o dL_act_236 rfl ?_
                  refine v_aload_n o 2 dL_act_237 rfl ?_
                  refine v_bipush o (v := 50) dL_act_238 (by decide) ?_
                  refine v_iload_n o 3 dL_act_240 rfl ?_
                  refine v_bipush o (v := 8) dL_act_241 (by decide) ?_
                  refine v_ishr o dL_act_243 ?_
                  refine v_bipush o (v := 6) dL_act_244 (by decide) ?_
                  refine v_cSi o [.int (p1 >>> (8 &&& 31)), .int 6] [.int 50, .ref b0] (fun sz => metL_low l G P g233 sz (p1 >>> (8 &&& 31)) 6 _ h) (cwL_29 o.1.2.2.2.2 (by decide)) rfl (Nat.le_of_ble_eq_true rfl) ⟨Nat.le_of_ble_eq_true rfl, Nat.le_of_ble_eq_true rfl⟩ dL_act_246 rfl (fun r246 g246 h => ?_)
                  refine v_iadd o dL_act_249 ?_
                  refine v_cVi o [.int (50 + r246)] [] (fun sz => metX7_append l G P g246 sz b0 hb0 (50 + r246) _ h) (cwL_48 o.1.2.2.2.2 (by decide)) ⟨_, _, rfl⟩ (by decide) (wfComp_o hb0) rfl (Nat.le_of_ble_eq_true rfl) ⟨Nat.le_of_ble_eq_true rfl, Nat.le_of_ble_eq_true rfl⟩ dL_act_250 rfl (fun r250 g250 h => ?_)
                  refine v_pop o dL_act_253 rfl ?_
                  refine v_aload_n o 2 dL_act_254 rfl ?_
                  refine v_bipush o (v := 58) dL_act_255 (by decide) ?_
                  refine v_cVi o [.int 58] [] (fun sz => metX7_append l G P g250 sz b0 hb0 58 _ h) (cwL_48 o.1.2.2.2.2 (by decide)) ⟨_, _, rfl⟩ (by decide) (wfComp_o hb0) rfl (Nat.le_of_ble_eq_true rfl) ⟨Nat.le_of_ble_eq_true rfl, Nat.le_of_ble_eq_true rfl⟩ dL_act_257 rfl (fun r257 g257 h => ?_)
                  refine v_pop o dL_act_260 rfl ?_
                  refine v_aload_n o 2 dL_act_261 rfl ?_
                  refine v_cVi o [] [] (fun sz => metX7_lay l G P g257 sz b0 hb0 _ h) (cwL_54 o.1.2.2.2.2 (by decide)) ⟨_, _, rfl⟩ (by decide) (wfComp_o hb0) rfl (Nat.le_of_ble_eq_true rfl) ⟨Nat.le_of_ble_eq_true rfl, Nat.le_of_ble_eq_true rfl⟩ dL_act_262 rfl (fun r262 g262 h => ?_)
                  refine v_pop o dL_act_265 rfl ?_
                  refine v_iconst o (v := 1) dL_act_266 (by decide) ?_
                  exact v_zret o rfl hr bz1.1 dL_act_267 h
                · replace h := h.2 c227
                  refine v_iconst o (v := 0) dL_act_230 (by decide) ?_
                  exact v_zret o rfl hr bz0.1 dL_act_231 h
abbrev kL_act := @vL_act
abbrev metL_act := @mL_act
/-- what the law does with a number: whether it is done, the board behind it -/
def actL (v : Int32) (bd : Bd) : Nat := lowN (v >>> (4 &&& 31)) bd.1.length
def actP (v : Int32) (bd : Bd) : Nat := lowN (v >>> (8 &&& 31)) ((lfAt bd.1 (actL v bd)).1 - 1)
def actS (v : Int32) : Nat := if (v >>> (3 &&& 31)) &&& 1 = 1 then 1 else 0
noncomputable def actX (v : Int32) (bd : Bd) : Nat × Bd := if (rsCross bd (nI (actL v bd)) (nI (actP v bd)) (actS v)).1 = 0 then (1, putL bd (nI (actL v bd)) (rsCross bd (nI (actL v bd)) (nI (actP v bd)) (actS v)).2) else (0, bd)
noncomputable def actK (v : Int32) (bd : Bd) : Nat × Bd := if (lfAt bd.1 (actL v bd)).2.length = 0 then (0, bd) else (1, putL bd (nI (actL v bd)) (rsBack bd (nI (actL v bd))).2)
noncomputable def actW (v : Int32) (bd : Bd) (c0 c1 : Nat) : Nat × Bd := (1, wkB (wkF [if (v >>> (8 &&& 31)) &&& 1 = 0 then c0 else c1, 48 + actL v bd] 61 0 0 bd))
def actN (v : Int32) (bd : Bd) : Nat × Bd := if bd.1.length = 4 then (0, bd) else (1, (bd.1 ++ [(2 + lowN (v >>> (8 &&& 31)) 6, [])], bd.2))
noncomputable def actR (v : Int32) (bd : Bd) : Nat × Bd := if v &&& 7 = 0 then actX v bd else if v &&& 7 = 1 then actX v bd else if v &&& 7 = 2 then actX v bd else if v &&& 7 = 3 then actX v bd else if v &&& 7 = 4 then actK v bd else if v &&& 7 = 5 then actW v bd 109 116 else if v &&& 7 = 6 then actW v bd 114 108 else actN v bd
def acA (r : Nat × Bd) (A : Ab) (b : List Nat) : Ab := (r.2, (if r.1 = 1 then svH A.2.1 A.1 else A.2.1), A.2.2.1, b)
theorem actS_lt (v : Int32) : actS v < 2 := by
  unfold actS
  split <;> omega
theorem work_ok {c l : Nat} (hc : c = 109 ∨ c = 116 ∨ c = 114 ∨ c = 108) (hl : l < 6) : stB [c, 48 + l] 2 = 7 := by
  have w : ∀ l, l < 6 → stB [109, 48 + l] 2 = 7 ∧ stB [116, 48 + l] 2 = 7 ∧ stB [114, 48 + l] 2 = 7 ∧ stB [108, 48 + l] 2 = 7 := by decide +kernel
  obtain ⟨h1, h2, h3, h4⟩ := w l hl
  rcases hc with rfl | rfl | rfl | rfl
  · exact h1
  · exact h2
  · exact h3
  · exact h4
theorem pa_cross {P : Sk} {f : St} {x : Nat} {v : Int32} {A : Ab} {K : Int32 → St → Prop} (hx : IsComp P x) (C : CompIs f x A) (hl : actL v A.1 < A.1.1.length) (h : ∀ g b, CompIs g x (acA (actX v A.1) A b) → K (nI (actX v A.1).1) g) : jL_act_64 P x v K (nI (actL v A.1)) (nI (lfAt A.1.1 (actL v A.1)).1) f := by
  have h6 := C.2.2.2.2.2.1
  obtain ⟨hb, hb2⟩ := hasB_n hl h6
  have hk := (h6.at hl).1
  have hn2 := hk.1
  have hn7 := hk.2.1
  have go : ∀ g, CompIs g x A → jL_act_90 P x v K (nI (actL v A.1)) (nI (lfAt A.1.1 (actL v A.1)).1) (nI (actP v A.1)) (nI (actS v)) g := by
    intro g Cg
    unfold jL_act_90
    have hp : actP v A.1 < (lfAt A.1.1 (actL v A.1)).1 - 1 := lowN_lt _ (by omega)
    have h3 := rsCross_v (r := actS v) (q := nI (actP v A.1)) hb (by
      rw [hb2]
      exact ⟨nI_nn (by omega), by rw [nI_clamp (by omega)]; omega⟩)
    refine pb_why hx Cg (actS_lt v) h3 (fun g2 C2 => ?_)
    change _ ∧ _
    rw [nI_z (by omega)]
    unfold actX at h
    refine ⟨fun c => ?_, fun c => ?_⟩
    · rw [if_pos c] at h
      exact pb_cross hx C2 (actS_lt v) c (fun w g3 C3 => h g3 A.2.2.2 C3)
    · rw [if_neg c] at h
      exact h g2 A.2.2.2 C2
  unfold jL_act_64
  have e1 : nI (lfAt A.1.1 (actL v A.1)).1 - 1 = nI ((lfAt A.1.1 (actL v A.1)).1 - 1) := pk_sub (b := 1) (by omega)
  rw [e1]
  refine pb_low (by omega) (by omega) ?_
  change _ ∧ _
  refine ⟨fun c => ?_, fun c => ?_⟩
  · have e := go f C
    unfold actS at e
    rw [if_neg c] at e
    exact e
  · have e := go f C
    unfold actS at e
    rw [if_pos c] at e
    exact e
theorem pa_work {P : Sk} {f : St} {x l : Nat} {A : Ab} {c : Nat} {K : Int32 → St → Prop} (hx : IsComp P x) (C : CompIs f x A) (hA : A.2.2.2 = []) (hc : c = 109 ∨ c = 116 ∨ c = 114 ∨ c = 108) (hl : l < 6) (h : ∀ g, CompIs g x (wkB (wkF [c, 48 + l] 61 0 0 A.1), svH A.2.1 A.1, A.2.2.1, []) → K 1 g) : kX7_append P f x (nI c) (fun r159 g159 => kX7_append P g159 x (48 + nI l) (fun r168 g168 => kX7_work P g168 x (fun r173 g173 => K 1 g173) XF) XF) XF := by
  refine pb_append hx C (by omega) (by omega) (by rw [hA]; decide) (fun v1 g1 C1 => ?_)
  have e : (48 : Int32) + nI l = nI (48 + l) := nI_add 48 l
  change kX7_append P g1 x (48 + nI l) _ XF
  rw [e]
  rw [hA] at C1
  refine pb_append hx C1 (by omega) (by omega) (by show 1 < 60; decide) (fun v2 g2 C2 => ?_)
  exact pb_work C2 (work_ok hc hl) (fun g3 C3 => h g3 C3)
theorem lay_ok {k : Nat} (hk : k < 6) : LoafT [50 + k, 58] ∧ [50 + k, 58].getD 0 0 - 48 = 2 + k ∧ wdT [50 + k, 58] = [] ∧ Dok (2 + k) [] := by
  refine ⟨⟨by show 2 ≤ 2; decide, by show 2 % 2 = 0; decide, fun j hj => ?_⟩, ?_, List.eq_nil_of_length_eq_zero (by rw [wdT_len]; show (2 - 2) / 2 = 0; decide), fun s hs => by show 0 + 2 * 0 ≤ 30; decide⟩
  · have hj : j < 2 := hj
    unfold okL
    by_cases c : j = 0
    · rw [if_pos c]
      show 50 ≤ 50 + k ∧ 50 + k ≤ 55
      omega
    · rw [if_neg c, if_pos (show j = 1 by omega)]
      rfl
  · show 50 + k - 48 = 2 + k
    omega
theorem pb_act {P : Sk} {f : St} {x : Nat} {v : Int32} {A : Ab} {K : Int32 → St → Prop} (hx : IsComp P x) (C : CompIs f x A) (h1 : 1 ≤ A.1.1.length) (h4 : A.1.1.length ≤ 4) (h : ∀ g b, CompIs g x (acA (actR v A.1) A b) → K (nI (actR v A.1).1) g) : kL_act P f x v K := by
  show vL_act P f x v K
  unfold vL_act
  have hl : actL v A.1 < A.1.1.length := lowN_lt _ (by omega)
  refine pb_count (q := 0) (v := nI A.1.1.length) C (by decide) rfl (fun g1 C1 => ?_)
  refine pb_low (by omega) (by omega) ?_
  refine pb_loaf (l := actL v A.1) (q := 0) (v := nI (lfAt A.1.1 (actL v A.1)).1) hx C1 hl (by decide) rfl (fun g2 C2 => ?_)
  have h6 := C.2.2.2.2.2.1
  obtain ⟨hb, hb2⟩ := hasB_n hl h6
  have h24 := (h6.at hl).1.2.2.1
  change _ ∧ _
  unfold actR at h
  refine ⟨fun c0 => ?_, fun c0 => ⟨fun c1 => ?_, fun c1 => ⟨fun c2 => ?_, fun c2 => ⟨fun c3 => ?_, fun c3 => ⟨fun c4 => ?_, fun c4 => ⟨fun c5 => ?_, fun c5 => ⟨fun c6 => ?_, fun c6 => ?_⟩⟩⟩⟩⟩⟩⟩
  · rw [if_pos c0] at h
    exact pa_cross hx C2 hl h
  · rw [if_neg c0, if_pos c1] at h
    exact pa_cross hx C2 hl h
  · rw [if_neg c0, if_neg c1, if_pos c2] at h
    exact pa_cross hx C2 hl h
  · rw [if_neg c0, if_neg c1, if_neg c2, if_pos c3] at h
    exact pa_cross hx C2 hl h
  · rw [if_neg c0, if_neg c1, if_neg c2, if_neg c3, if_pos c4] at h
    unfold actK at h
    refine pb_loaf (l := actL v A.1) (q := 1) (v := nI (lfAt A.1.1 (actL v A.1)).2.length) hx C2 hl (by decide) rfl (fun g3 C3 => ?_)
    change _ ∧ _
    rw [nI_z (by omega)]
    refine ⟨fun c => ?_, fun c => ?_⟩
    · rw [if_neg c] at h
      have h0 : (rsBack A.1 (nI (actL v A.1))).1 = 0 := by
        unfold rsBack
        rw [cif_pos hb, hb2, cif_neg c]
      exact pb_back hx C3 h0 (fun w g4 C4 => h g4 A.2.2.2 C4)
    · rw [if_pos c] at h
      exact h g3 A.2.2.2 C3
  · rw [if_neg c0, if_neg c1, if_neg c2, if_neg c3, if_neg c4, if_pos c5] at h
    unfold actW at h
    refine pb_clear C2 (fun w g3 C3 => ?_)
    change _ ∧ _
    refine ⟨fun c => ?_, fun c => ?_⟩
    · rw [if_neg c] at h
      exact pa_work (c := 116) (l := actL v A.1) hx C3 rfl (by omega) (by omega) (fun g4 C4 => h g4 [] C4)
    · rw [if_pos c] at h
      exact pa_work (c := 109) (l := actL v A.1) hx C3 rfl (by omega) (by omega) (fun g4 C4 => h g4 [] C4)
  · rw [if_neg c0, if_neg c1, if_neg c2, if_neg c3, if_neg c4, if_neg c5, if_pos c6] at h
    unfold actW at h
    refine pb_clear C2 (fun w g3 C3 => ?_)
    change _ ∧ _
    refine ⟨fun c => ?_, fun c => ?_⟩
    · rw [if_neg c] at h
      exact pa_work (c := 108) (l := actL v A.1) hx C3 rfl (by omega) (by omega) (fun g4 C4 => h g4 [] C4)
    · rw [if_pos c] at h
      exact pa_work (c := 114) (l := actL v A.1) hx C3 rfl (by omega) (by omega) (fun g4 C4 => h g4 [] C4)
  · rw [if_neg c0, if_neg c1, if_neg c2, if_neg c3, if_neg c4, if_neg c5, if_neg c6] at h
    unfold actN at h
    refine pb_count (q := 0) (v := nI A.1.1.length) C2 (by decide) rfl (fun g3 C3 => ?_)
    change _ ∧ _
    rw [show (4 : Int32) = nI 4 from rfl, nI_eq (by omega) (by decide)]
    refine ⟨fun c => ?_, fun c => ?_⟩
    · rw [if_neg c] at h
      refine pb_clear C3 (fun w g4 C4 => ?_)
      refine pb_low (n := 6) (by decide) (by decide) ?_
      have hk : lowN (v >>> (8 &&& 31)) 6 < 6 := lowN_lt _ (by decide)
      generalize lowN (v >>> (8 &&& 31)) 6 = k at *
      have e : (50 : Int32) + nI k = nI (50 + k) := nI_add 50 k
      change kX7_append P g4 x (50 + nI k) _ XF
      rw [e]
      refine pb_append hx C4 (by omega) (by omega) (by show 0 < 60; decide) (fun v1 g5 C5 => ?_)
      refine pb_append (c := 58) hx C5 (by decide) (by decide) (by show 1 < 60; decide) (fun v2 g6 C6 => ?_)
      obtain ⟨k1, k2, k3, k4⟩ := lay_ok hk
      refine pb_lay hx C6 k1 (by show A.1.1.length < 6; omega) (by
        show Dok ([50 + k, 58].getD 0 0 - 48) (wdT [50 + k, 58])
        rw [k2, k3]
        exact k4) (fun g7 C7 => ?_)
      refine h g7 [] ?_
      have C8 : CompIs g7 x ((A.1.1 ++ [([50 + k, 58].getD 0 0 - 48, wdT [50 + k, 58])], A.1.2), svH A.2.1 A.1, A.2.2.1, []) := C7
      rw [k2, k3] at C8
      exact C8
    · rw [if_pos c] at h
      exact h g3 A.2.2.2 C3

