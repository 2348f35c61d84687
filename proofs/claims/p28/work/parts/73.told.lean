def bL_told_54 (P : Sk) (b0 : Nat) (L54 : St → Int64 → Int32 → Prop) (L92 : St → Int64 → Int32 → Int32 → Prop) (K : Int64 → St → Prop) (f : St) (x1 : Int64) (x3 : Int32) : Prop :=
  kX7_count P f b0 0 (fun r57 g57 => (r57 ≤ x3 → K x1 g57) ∧ (¬ r57 ≤ x3 → kX7_loaf P g57 b0 x3 0 (fun r74 g74 => kX7_loaf P g74 b0 x3 1 (fun r83 g83 => ∀ x1_88 : Int64, x1_88 = (31 * ((31 * x1) + (r74.toInt64))) + (r83.toInt64) → L92 g83 x1_88 x3 0) XF) XF)) XF
def bL_told_92 (P : Sk) (b0 : Nat) (L54 : St → Int64 → Int32 → Prop) (L92 : St → Int64 → Int32 → Int32 → Prop) (K : Int64 → St → Prop) (f : St) (x1 : Int64) (x3 : Int32) (x4 : Int32) : Prop :=
  kX7_loaf P f b0 x3 1 (fun r97 g97 => (r97 ≤ x4 → ∀ x3_139 : Int32, x3_139 = x3 + 1 → L54 g97 x1 x3_139) ∧ (¬ r97 ≤ x4 → kX7_crossing P g97 b0 x3 x4 0 (fun r116 g116 => kX7_crossing P g116 b0 x3 x4 1 (fun r127 g127 => ∀ x1_132 : Int64, x1_132 = (31 * ((31 * x1) + (r116.toInt64))) + (r127.toInt64) → ∀ x4_133 : Int32, x4_133 = x4 + 1 → L92 g127 x1_132 x3 x4_133) XF) XF)) XF
def vL_told (P : Sk) (f : St) (b0 : Nat) (L54 : St → Int64 → Int32 → Prop) (L92 : St → Int64 → Int32 → Int32 → Prop) (K : Int64 → St → Prop) : Prop :=
  kX7_count P f b0 0 (fun r14 g14 => kX7_count P g14 b0 5 (fun r22 g22 => ∀ x1_27 : Int64, x1_27 = (31 * ((31 * 3) + (r14.toInt64))) + (r22.toInt64) → kX7_stopped P g22 b0 0 (fun r38 g38 => kX7_stopped P g38 b0 1 (fun r46 g46 => ∀ x1_51 : Int64, x1_51 = (31 * ((31 * x1_27) + (r38.toInt64))) + (r46.toInt64) → L54 g46 x1_51 0) XF) XF) XF) XF
set_option maxRecDepth 20000 in
set_option maxHeartbeats 4000000 in
theorem mL_told (l : Launch) (G : Gl) (P : Sk) (f : St) (sz : Nat) (b0 : Nat) (hb0 : IsComp P b0) (K : Int64 → St → Prop) (I54 : St → Int64 → Int32 → Prop) (μ54 : St → Int64 → Int32 → Nat) (I92 : St → Int64 → Int32 → Int32 → Prop) (μ92 : St → Int64 → Int32 → Int32 → Nat) 
  (h : vL_told P f b0 I54 I92 K)
  (h54 : ∀ (g : St) (x1 : Int64) (x3 : Int32) , I54 g x1 x3 → bL_told_54 P b0 (fun g' z0 z1 => I54 g' z0 z1 ∧ μ54 g' z0 z1 < μ54 g x1 x3) (fun g' z0 z1 z2 => I92 g' z0 z1 z2 ∧ μ92 g' z0 z1 z2 < μ54 g x1 x3) K g x1 x3)
  (h92 : ∀ (g : St) (x1 : Int64) (x3 : Int32) (x4 : Int32) , I92 g x1 x3 x4 → bL_told_92 P b0 (fun g' z0 z1 => I54 g' z0 z1 ∧ μ54 g' z0 z1 < μ92 g x1 x3 x4) (fun g' z0 z1 z2 => I92 g' z0 z1 z2 ∧ μ92 g' z0 z1 z2 < μ92 g x1 x3 x4) K g x1 x3 x4) :
  Met l yL_told (wU yL_told cL_told 5 (some .long)) rmL_told (PcW G P f sz [.ref b0]) (QcL G P sz K) 0 0 (frA P sz) := by
  refine v_met (own := RL) [.ref b0] (by decide +kernel) rfl (Nat.le_of_ble_eq_true rfl) (fun p e s m args below meth c hsz o hr hnm => ?_)
  refine v_lv (lv2 := [(0, .ref b0)]) rfl ?_
  have main : ∀ n : Nat, (∀ (g : St) (x1 : Int64) (x3 : Int32) , I54 g x1 x3 → μ54 g x1 x3 < n → V p l e rmL_told s m args below meth c 5 G (frA P sz) (MQ below (QcL G P sz K) args s 0 0 (frA P sz)) 0 0 P [(0, .ref b0), (1, .long x1), (3, .int x3)] [] 54 g) ∧ (∀ (g : St) (x1 : Int64) (x3 : Int32) (x4 : Int32) , I92 g x1 x3 x4 → μ92 g x1 x3 x4 < n → V p l e rmL_told s m args below meth c 5 G (frA P sz) (MQ below (QcL G P sz K) args s 0 0 (frA P sz)) 0 0 P [(0, .ref b0), (1, .long x1), (3, .int x3), (4, .int x4)] [] 92 g) := by
    intro n
    induction n with
    | zero => exact ⟨fun g x1 x3 hI hm => absurd hm (Nat.not_lt_zero _), fun g x1 x3 x4 hI hm => absurd hm (Nat.not_lt_zero _)⟩
    | succ n ih =>
      refine ⟨?_, ?_⟩
      · intro g x1 x3 hI hm
        have h := h54 g x1 x3 hI
        clear hI
        unfold bL_told_54 at h
        refine v_iload_n o 2 dL_told_54 rfl ?_
        refine v_aload_n o 0 dL_told_55 rfl ?_
        refine v_iconst o (v := 0) dL_told_56 (by decide) ?_
        refine v_cVi o [.int 0] [.int x3] (fun sz => metX7_count l G P g sz b0 hb0 0 _ h) (cwL_12 o.1.2.2.2.2 (by decide)) ⟨_, _, rfl⟩ (by decide) (wfComp_o hb0) rfl (Nat.le_of_ble_eq_true rfl) ⟨Nat.le_of_ble_eq_true rfl, Nat.le_of_ble_eq_true rfl⟩ dL_told_57 rfl (fun r57 g57 h => ?_)
        refine v_icmp_ge o (tgt := 145) dL_told_60 (by decide) (fun c60 => ?_) (fun c60 => ?_)
        · replace h := h.1 c60
          refine v_lload_n o 1 dL_told_145 rfl ?_
          exact v_lret o rfl hr dL_told_146 h
        · replace h := h.2 c60
          refine v_ldc2 o (v := 31) dL_told_63 (mU 586 (by decide +kernel) rfl) ?_
          refine v_ldc2 o (v := 31) dL_told_66 (mU 586 (by decide +kernel) rfl) ?_
          refine v_lload_n o 1 dL_told_69 rfl ?_
          refine v_lmul o dL_told_70 ?_
          refine v_aload_n o 0 dL_told_71 rfl ?_
          refine v_iload_n o 2 dL_told_72 rfl ?_
          refine v_iconst o (v := 0) dL_told_73 (by decide) ?_
          refine v_cVi o [.int x3, .int 0] [.long (31 * x1), .long 31] (fun sz => metX7_loaf l G P g57 sz b0 hb0 x3 0 _ h) (cwL_21 o.1.2.2.2.2 (by decide)) ⟨_, _, rfl⟩ (by decide) (wfComp_o hb0) rfl (Nat.le_of_ble_eq_true rfl) ⟨Nat.le_of_ble_eq_true rfl, Nat.le_of_ble_eq_true rfl⟩ dL_told_74 rfl (fun r74 g74 h => ?_)
          refine v_i2l o dL_told_77 ?_
          refine v_ladd o dL_told_78 ?_
          refine v_lmul o dL_told_79 ?_
          refine v_aload_n o 0 dL_told_80 rfl ?_
          refine v_iload_n o 2 dL_told_81 rfl ?_
          refine v_iconst o (v := 1) dL_told_82 (by decide) ?_
          refine v_cVi o [.int x3, .int 1] [.long (31 * ((31 * x1) + (r74.toInt64)))] (fun sz => metX7_loaf l G P g74 sz b0 hb0 x3 1 _ h) (cwL_21 o.1.2.2.2.2 (by decide)) ⟨_, _, rfl⟩ (by decide) (wfComp_o hb0) rfl (Nat.le_of_ble_eq_true rfl) ⟨Nat.le_of_ble_eq_true rfl, Nat.le_of_ble_eq_true rfl⟩ dL_told_83 rfl (fun r83 g83 h => ?_)
          refine v_i2l o dL_told_86 ?_
          refine v_ladd o dL_told_87 ?_
          refine v_topl (fun x1_88 ex1_88 => ?_)
          replace h := h x1_88 ex1_88
          refine v_lstore_n o (lv' := [(1, .long x1_88), (0, .ref b0), (3, .int x3)]) dL_told_88 rfl (by decide) rfl ?_
          refine v_iconst o (v := 0) dL_told_89 (by decide) ?_
          refine v_istore o (lv' := [(4, .int 0), (1, .long x1_88), (0, .ref b0), (3, .int x3)]) dL_told_90 (by decide) rfl ?_
          refine v_sub [2, 1, 3, 0] (lv2 := [(0, .ref b0), (1, .long x1_88), (3, .int x3), (4, .int 0)]) rfl ?_
          exact ih.2 g83 x1_88 x3 0  h.1 (by have := h.2; omega)
      · intro g x1 x3 x4 hI hm
        have h := h92 g x1 x3 x4 hI
        clear hI
        unfold bL_told_92 at h
        refine v_iload o 3 dL_told_92 rfl ?_
        refine v_aload_n o 0 dL_told_94 rfl ?_
        refine v_iload_n o 2 dL_told_95 rfl ?_
        refine v_iconst o (v := 1) dL_told_96 (by decide) ?_
        refine v_cVi o [.int x3, .int 1] [.int x4] (fun sz => metX7_loaf l G P g sz b0 hb0 x3 1 _ h) (cwL_21 o.1.2.2.2.2 (by decide)) ⟨_, _, rfl⟩ (by decide) (wfComp_o hb0) rfl (Nat.le_of_ble_eq_true rfl) ⟨Nat.le_of_ble_eq_true rfl, Nat.le_of_ble_eq_true rfl⟩ dL_told_97 rfl (fun r97 g97 h => ?_)
        refine v_icmp_ge o (tgt := 139) dL_told_100 (by decide) (fun c100 => ?_) (fun c100 => ?_)
        · replace h := h.1 c100
          obtain ⟨x3_139, ex3_139⟩ : ∃ y : Int32, y = x3 + 1 := ⟨_, rfl⟩
          replace h := h x3_139 ex3_139
          refine v_iinc o (v := x3_139) (lv' := [(3, .int x3_139), (0, .ref b0), (1, .long x1), (4, .int x4)]) 2 dL_told_139 rfl (by rw [ex3_139]; rfl) (by decide) rfl ?_
          refine v_goto o (tgt := 54) dL_told_142 (by decide) ?_
          refine v_sub [1, 2, 0] (lv2 := [(0, .ref b0), (1, .long x1), (3, .int x3_139)]) rfl ?_
          exact ih.1 g97 x1 x3_139  h.1 (by have := h.2; omega)
        · replace h := h.2 c100
          refine v_ldc2 o (v := 31) dL_told_103 (mU 586 (by decide +kernel) rfl) ?_
          refine v_ldc2 o (v := 31) dL_told_106 (mU 586 (by decide +kernel) rfl) ?_
          refine v_lload_n o 1 dL_told_109 rfl ?_
          refine v_lmul o dL_told_110 ?_
          refine v_aload_n o 0 dL_told_111 rfl ?_
          refine v_iload_n o 2 dL_told_112 rfl ?_
          refine v_iload o 3 dL_told_113 rfl ?_
          refine v_iconst o (v := 0) dL_told_115 (by decide) ?_
          refine v_cVi o [.int x3, .int x4, .int 0] [.long (31 * x1), .long 31] (fun sz => metX7_crossing l G P g97 sz b0 hb0 x3 x4 0 _ h) (cwL_25 o.1.2.2.2.2 (by decide)) ⟨_, _, rfl⟩ (by decide) (wfComp_o hb0) rfl (Nat.le_of_ble_eq_true rfl) ⟨Nat.le_of_ble_eq_true rfl, Nat.le_of_ble_eq_true rfl⟩ dL_told_116 rfl (fun r116 g116 h => ?_)
          refine v_i2l o dL_told_119 ?_
          refine v_ladd o dL_told_120 ?_
          refine v_lmul o dL_told_121 ?_
          refine v_aload_n o 0 dL_told_122 rfl ?_
          refine v_iload_n o 2 dL_told_123 rfl ?_
          refine v_iload o 3 dL_told_124 rfl ?_
          refine v_iconst o (v := 1) dL_told_126 (by decide) ?_
          refine v_cVi o [.int x3, .int x4, .int 1] [.long (31 * ((31 * x1) + (r116.toInt64)))] (fun sz => metX7_crossing l G P g116 sz b0 hb0 x3 x4 1 _ h) (cwL_25 o.1.2.2.2.2 (by decide)) ⟨_, _, rfl⟩ (by decide) (wfComp_o hb0) rfl (Nat.le_of_ble_eq_true rfl) ⟨Nat.le_of_ble_eq_true rfl, Nat.le_of_ble_eq_true rfl⟩ dL_told_127 rfl (fun r127 g127 h => ?_)
          refine v_i2l o dL_told_130 ?_
          refine v_ladd o dL_told_131 ?_
          refine v_topl (fun x1_132 ex1_132 => ?_)
          replace h := h x1_132 ex1_132
          refine v_lstore_n o (lv' := [(1, .long x1_132), (0, .ref b0), (3, .int x3), (4, .int x4)]) dL_told_132 rfl (by decide) rfl ?_
          obtain ⟨x4_133, ex4_133⟩ : ∃ y : Int32, y = x4 + 1 := ⟨_, rfl⟩
          replace h := h x4_133 ex4_133
          refine v_iinc o (v := x4_133) (lv' := [(4, .int x4_133), (1, .long x1_132), (0, .ref b0), (3, .int x3)]) 3 dL_told_133 rfl (by rw [ex4_133]; rfl) (by decide) rfl ?_
          refine v_goto o (tgt := 92) dL_told_136 (by decide) ?_
          refine v_sub [2, 1, 3, 0] (lv2 := [(0, .ref b0), (1, .long x1_132), (3, .int x3), (4, .int x4_133)]) rfl ?_
          exact ih.2 g127 x1_132 x3 x4_133  h.1 (by have := h.2; omega)
  unfold vL_told at h
  refine v_ldc2 o (v := 3) dL_told_0 (mU 585 (by decide +kernel) rfl) ?_
  refine v_lstore_n o (lv' := [(1, .long 3), (0, .ref b0)]) dL_told_3 rfl (by decide) rfl ?_
  refine v_ldc2 o (v := 31) dL_told_4 (mU 586 (by decide +kernel) rfl) ?_
  refine v_ldc2 o (v := 31) dL_told_7 (mU 586 (by decide +kernel) rfl) ?_
  refine v_lload_n o 0 dL_told_10 rfl ?_
  refine v_lmul o dL_told_11 ?_
  refine v_aload_n o 1 dL_told_12 rfl ?_
  refine v_iconst o (v := 0) dL_told_13 (by decide) ?_
  refine v_cVi o [.int 0] [.long (31 * 3), .long 31] (fun sz => metX7_count l G P f sz b0 hb0 0 _ h) (cwL_12 o.1.2.2.2.2 (by decide)) ⟨_, _, rfl⟩ (by decide) (wfComp_o hb0) rfl (Nat.le_of_ble_eq_true rfl) ⟨Nat.le_of_ble_eq_true rfl, Nat.le_of_ble_eq_true rfl⟩ dL_told_14 rfl (fun r14 g14 h => ?_)
  refine v_i2l o dL_told_17 ?_
  refine v_ladd o dL_told_18 ?_
  refine v_lmul o dL_told_19 ?_
  refine v_aload_n o 1 dL_told_20 rfl ?_
  refine v_iconst o (v := 5) dL_told_21 (by decide) ?_
  refine v_cVi o [.int 5] [.long (31 * ((31 * 3) + (r14.toInt64)))] (fun sz => metX7_count l G P g14 sz b0 hb0 5 _ h) (cwL_12 o.1.2.2.2.2 (by decide)) ⟨_, _, rfl⟩ (by decide) (wfComp_o hb0) rfl (Nat.le_of_ble_eq_true rfl) ⟨Nat.le_of_ble_eq_true rfl, Nat.le_of_ble_eq_true rfl⟩ dL_told_22 rfl (fun r22 g22 h => ?_)
  refine v_i2l o dL_told_25 ?_
  refine v_ladd o dL_told_26 ?_
  refine v_topl (fun x1_27 ex1_27 => ?_)
  replace h := h x1_27 ex1_27
  refine v_lstore_n o (lv' := [(1, .long x1_27), (0, .ref b0)]) dL_told_27 rfl (by decide) rfl ?_
  refine v_ldc2 o (v := 31) dL_told_28 (mU 586 (by decide +kernel) rfl) ?_
  refine v_ldc2 o (v := 31) dL_told_31 (mU 586 (by decide +kernel) rfl) ?_
  refine v_lload_n o 0 dL_told_34 rfl ?_
  refine v_lmul o dL_told_35 ?_
  refine v_aload_n o 1 dL_told_36 rfl ?_
  refine v_iconst o (v := 0) dL_told_37 (by decide) ?_
  refine v_cVi o [.int 0] [.long (31 * x1_27), .long 31] (fun sz => metX7_stopped l G P g22 sz b0 hb0 0 _ h) (cwL_18 o.1.2.2.2.2 (by decide)) ⟨_, _, rfl⟩ (by decide) (wfComp_o hb0) rfl (Nat.le_of_ble_eq_true rfl) ⟨Nat.le_of_ble_eq_true rfl, Nat.le_of_ble_eq_true rfl⟩ dL_told_38 rfl (fun r38 g38 h => ?_)
  refine v_i2l o dL_told_41 ?_
  refine v_ladd o dL_told_42 ?_
  refine v_lmul o dL_told_43 ?_
  refine v_aload_n o 1 dL_told_44 rfl ?_
  refine v_iconst o (v := 1) dL_told_45 (by decide) ?_
  refine v_cVi o [.int 1] [.long (31 * ((31 * x1_27) + (r38.toInt64)))] (fun sz => metX7_stopped l G P g38 sz b0 hb0 1 _ h) (cwL_18 o.1.2.2.2.2 (by decide)) ⟨_, _, rfl⟩ (by decide) (wfComp_o hb0) rfl (Nat.le_of_ble_eq_true rfl) ⟨Nat.le_of_ble_eq_true rfl, Nat.le_of_ble_eq_true rfl⟩ dL_told_46 rfl (fun r46 g46 h => ?_)
  refine v_i2l o dL_told_49 ?_
  refine v_ladd o dL_told_50 ?_
  refine v_topl (fun x1_51 ex1_51 => ?_)
  replace h := h x1_51 ex1_51
  refine v_lstore_n o (lv' := [(1, .long x1_51), (0, .ref b0)]) dL_told_51 rfl (by decide) rfl ?_
  refine v_iconst o (v := 0) dL_told_52 (by decide) ?_
  refine v_istore_n o (lv' := [(3, .int 0), (1, .long x1_51), (0, .ref b0)]) dL_told_53 rfl (by decide) rfl ?_
  refine v_sub [2, 1, 0] (lv2 := [(0, .ref b0), (1, .long x1_51), (3, .int 0)]) rfl ?_
  exact (main (μ54 g46 x1_51 0 + 1)).1 g46 x1_51 0  h (Nat.lt_succ_self _)
def WL_told (P : Sk) (f : St) (b0 : Nat) (K : Int64 → St → Prop) : Prop := ∃ (I54 : St → Int64 → Int32 → Prop) (I92 : St → Int64 → Int32 → Int32 → Prop) (μ54 : St → Int64 → Int32 → Nat) (μ92 : St → Int64 → Int32 → Int32 → Nat), (vL_told P f b0 I54 I92 K) ∧ (∀ (g : St) (x1 : Int64) (x3 : Int32) , I54 g x1 x3 → bL_told_54 P b0 (fun g' z0 z1 => I54 g' z0 z1 ∧ μ54 g' z0 z1 < μ54 g x1 x3) (fun g' z0 z1 z2 => I92 g' z0 z1 z2 ∧ μ92 g' z0 z1 z2 < μ54 g x1 x3) K g x1 x3) ∧ (∀ (g : St) (x1 : Int64) (x3 : Int32) (x4 : Int32) , I92 g x1 x3 x4 → bL_told_92 P b0 (fun g' z0 z1 => I54 g' z0 z1 ∧ μ54 g' z0 z1 < μ92 g x1 x3 x4) (fun g' z0 z1 z2 => I92 g' z0 z1 z2 ∧ μ92 g' z0 z1 z2 < μ92 g x1 x3 x4) K g x1 x3 x4)
/-- what is told of a word, of the loaves, of a board -/
def tlW (w : List Nat) : Nat → Int64 → Int64
  | 0, h => h
  | k + 1, h => (31 * ((31 * tlW w k h) + ((nI (crN w k 0)).toInt64))) + ((nI (crN w k 1)).toInt64)
def tlH (y : Lf) (h : Int64) : Int64 := (31 * ((31 * h) + ((nI y.1).toInt64))) + ((nI y.2.length).toInt64)
def tlL (ls : List Lf) : Nat → Int64 → Int64
  | 0, h => h
  | l + 1, h => tlW (lfAt ls l).2 (lfAt ls l).2.length (tlH (lfAt ls l) (tlL ls l h))
def tl0 (bd : Bd) : Int64 := (31 * ((31 * ((31 * ((31 * 3) + ((nI bd.1.length).toInt64))) + (bd.2.1.toInt64))) + (bd.2.2.1.toInt64))) + (bd.2.2.2.toInt64)
def tl (bd : Bd) : Int64 := tlL bd.1 bd.1.length (tl0 bd)
def kL_told (P : Sk) (f : St) (b0 : Nat) (K : Int64 → St → Prop) : Prop := ∃ A, CompIs f b0 A ∧ ∀ g, CompIs g b0 A → K (tl A.1) g
theorem wL_told (P : Sk) (f : St) (b0 : Nat) (hb0 : IsComp P b0) (K : Int64 → St → Prop) (h : kL_told P f b0 K) : WL_told P f b0 K := by
  obtain ⟨A, hC, hK⟩ := h
  have h6 := hC.2.2.2.2.2.1
  have hl6 := h6.1
  refine ⟨fun g x1 x3 => ∃ l, x3 = nI l ∧ l ≤ A.1.1.length ∧ CompIs g b0 A ∧ x1 = tlL A.1.1 l (tl0 A.1), fun g x1 x3 x4 => ∃ l k, x3 = nI l ∧ x4 = nI k ∧ l < A.1.1.length ∧ k ≤ (lfAt A.1.1 l).2.length ∧ CompIs g b0 A ∧ x1 = tlW (lfAt A.1.1 l).2 k (tlH (lfAt A.1.1 l) (tlL A.1.1 l (tl0 A.1))), fun g x1 x3 => 30 * (7 - x3.toNatClampNeg), fun g x1 x3 x4 => 30 * (7 - x3.toNatClampNeg) - 1 - x4.toNatClampNeg, ?_, ?_, ?_⟩
  · unfold vL_told
    refine pb_count (q := 0) (v := nI A.1.1.length) hC (by decide) rfl (fun g1 C1 => ?_)
    refine pb_count (q := 5) (v := A.1.2.1) C1 (by decide) rfl (fun g2 C2 => ?_)
    intro x1 e1
    refine pb_stop0 C2 (fun g3 C3 => ?_)
    refine pb_stop1 C3 (fun g4 C4 => ?_)
    intro x2 e2
    exact ⟨0, rfl, Nat.zero_le _, C4, by rw [e2, e1]; rfl⟩
  · rintro g x1 x3 ⟨l, rfl, hl, C, rfl⟩
    unfold bL_told_54
    refine pb_count (q := 0) (v := nI A.1.1.length) C (by decide) rfl (fun g1 C1 => ?_)
    change _ ∧ _
    rw [nI_leI (by omega) (by omega)]
    refine ⟨fun q => ?_, fun q => ?_⟩
    · have e : l = A.1.1.length := by omega
      rw [e]
      exact hK g1 C1
    · have hlt : l < A.1.1.length := by omega
      refine pb_loaf (q := 0) (v := nI (lfAt A.1.1 l).1) hb0 C1 hlt (by decide) rfl (fun g2 C2 => ?_)
      refine pb_loaf (q := 1) (v := nI (lfAt A.1.1 l).2.length) hb0 C2 hlt (by decide) rfl (fun g3 C3 => ?_)
      intro y ey
      refine ⟨⟨l, 0, rfl, rfl, hlt, Nat.zero_le _, C3, ?_⟩, ?_⟩
      · rw [ey]
        rfl
      · show 30 * (7 - (nI l).toNatClampNeg) - 1 - (nI 0).toNatClampNeg < 30 * (7 - (nI l).toNatClampNeg)
        rw [nI_clamp (n := l) (by omega), nI_clamp (n := 0) (by decide)]
        omega
  · rintro g x1 x3 x4 ⟨l, k, rfl, rfl, hl, hk, C, rfl⟩
    have hk24 := (h6.at hl).1.2.2.1
    unfold bL_told_92
    refine pb_loaf (q := 1) (v := nI (lfAt A.1.1 l).2.length) hb0 C hl (by decide) rfl (fun g1 C1 => ?_)
    change _ ∧ _
    rw [nI_leI (by omega) (by omega)]
    refine ⟨fun q => ?_, fun q => ?_⟩
    · intro y ey
      rw [nI_1] at ey
      refine ⟨⟨l + 1, ey, hl, C1, ?_⟩, ?_⟩
      · rw [show k = (lfAt A.1.1 l).2.length by omega]
        rfl
      · show 30 * (7 - y.toNatClampNeg) < 30 * (7 - (nI l).toNatClampNeg) - 1 - (nI k).toNatClampNeg
        rw [ey, nI_clamp (n := l + 1) (by omega), nI_clamp (n := l) (by omega), nI_clamp (n := k) (by omega)]
        omega
    · have hlt : k < (lfAt A.1.1 l).2.length := by omega
      refine pb_crossing (q := 0) hb0 C1 hl hlt (by decide) (fun g2 C2 => ?_)
      refine pb_crossing (q := 1) hb0 C2 hl hlt (by decide) (fun g3 C3 => ?_)
      intro y ey z ez
      rw [nI_1] at ez
      refine ⟨⟨l, k + 1, rfl, ez, hl, hlt, C3, ?_⟩, ?_⟩
      · rw [ey]
        rfl
      · show 30 * (7 - (nI l).toNatClampNeg) - 1 - z.toNatClampNeg < 30 * (7 - (nI l).toNatClampNeg) - 1 - (nI k).toNatClampNeg
        rw [ez, nI_clamp (n := k + 1) (by omega), nI_clamp (n := l) (by omega), nI_clamp (n := k) (by omega)]
        omega

theorem metL_told (l : Launch) (G : Gl) (P : Sk) (f : St) (sz : Nat) (b0 : Nat) (hb0 : IsComp P b0) (K : Int64 → St → Prop) (h : kL_told P f b0 K) : Met l yL_told (wU yL_told cL_told 5 (some .long)) rmL_told (PcW G P f sz [.ref b0]) (QcL G P sz K) 0 0 (frA P sz) := by
  obtain ⟨I54, I92, μ54, μ92, qh, qh54, qh92⟩ := wL_told P f b0 hb0 K h
  exact mL_told l G P f sz b0 hb0 K I54 μ54 I92 μ92 qh qh54 qh92

