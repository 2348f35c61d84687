def vX8_howOf (P : Sk) (f : St) (p0 : Int32) (K : Int32 → St → Prop) : Prop :=
  (¬ p0 = 109 → (¬ p0 = 116 → (¬ p0 = 114 → K 3 f) ∧ (p0 = 114 → K 2 f)) ∧ (p0 = 116 → K 1 f)) ∧ (p0 = 109 → K 0 f)
set_option maxRecDepth 20000 in
set_option maxHeartbeats 4000000 in
theorem mX8_howOf (l : Launch) (G : Gl) (P : Sk) (f : St) (sz : Nat) (p0 : Int32) (K : Int32 → St → Prop) (h : vX8_howOf P f p0 K)  :
  Met l yX8_howOf (wU yX8_howOf cX8_howOf 1 (some .int)) rmX8_howOf (PcW G P f sz [.int p0]) (QcI G P sz K) 0 0 (frA P sz) := by
  refine v_met (own := RX8) [.int p0] (by decide +kernel) rfl (Nat.le_of_ble_eq_true rfl) (fun p e s m args below meth c hsz o hr hnm => ?_)
  refine v_lv (lv2 := [(0, .int p0)]) rfl ?_
  unfold vX8_howOf at h
  refine v_iload_n o 0 dX8_howOf_0 rfl ?_
  refine v_bipush o (v := 109) dX8_howOf_1 (by decide) ?_
  refine v_icmp_ne o (tgt := 10) dX8_howOf_3 (by decide) (fun c3 => ?_) (fun c3 => ?_)
  · replace h := h.1 c3
    refine v_iload_n o 0 dX8_howOf_10 rfl ?_
    refine v_bipush o (v := 116) dX8_howOf_11 (by decide) ?_
    refine v_icmp_ne o (tgt := 20) dX8_howOf_13 (by decide) (fun c13 => ?_) (fun c13 => ?_)
    · replace h := h.1 c13
      refine v_iload_n o 0 dX8_howOf_20 rfl ?_
      refine v_bipush o (v := 114) dX8_howOf_21 (by decide) ?_
      refine v_icmp_ne o (tgt := 30) dX8_howOf_23 (by decide) (fun c23 => ?_) (fun c23 => ?_)
      · replace h := h.1 c23
        refine v_iconst o (v := 3) dX8_howOf_30 (by decide) ?_
        exact v_iret o rfl hr dX8_howOf_31 h
      · replace h := h.2 c23
        refine v_iconst o (v := 2) dX8_howOf_26 (by decide) ?_
        refine v_goto o (tgt := 31) dX8_howOf_27 (by decide) ?_
        exact v_iret o rfl hr dX8_howOf_31 h
    · replace h := h.2 c13
      refine v_iconst o (v := 1) dX8_howOf_16 (by decide) ?_
      refine v_goto o (tgt := 31) dX8_howOf_17 (by decide) ?_
      exact v_iret o rfl hr dX8_howOf_31 h
  · replace h := h.2 c3
    refine v_iconst o (v := 0) dX8_howOf_6 (by decide) ?_
    refine v_goto o (tgt := 31) dX8_howOf_7 (by decide) ?_
    exact v_iret o rfl hr dX8_howOf_31 h
abbrev kX8_howOf := @vX8_howOf
abbrev metX8_howOf := @mX8_howOf
theorem u8_howOf {P : Sk} {f : St} {c : Nat} {K : Int32 → St → Prop} (h : c = 108 ∨ c = 109 ∨ c = 114 ∨ c = 116) (hK : K (nI (hwN c)) f) : kX8_howOf P f (nI c) K := by
  show vX8_howOf P f (nI c) K
  unfold vX8_howOf
  rcases h with rfl | rfl | rfl | rfl
  · exact ⟨fun _ => ⟨fun _ => ⟨fun _ => hK, fun q => absurd q (by decide)⟩, fun q => absurd q (by decide)⟩, fun q => absurd q (by decide)⟩
  · exact ⟨fun q => absurd rfl q, fun _ => hK⟩
  · exact ⟨fun _ => ⟨fun _ => ⟨fun q => absurd rfl q, fun _ => hK⟩, fun q => absurd q (by decide)⟩, fun q => absurd q (by decide)⟩
  · exact ⟨fun _ => ⟨fun q => absurd rfl q, fun _ => hK⟩, fun q => absurd q (by decide)⟩

def jX8_does_144 (P : Sk) (a : Nat) (p1 : Int32) (K : Int32 → St → Prop) (x2 : Int32) (x3 : Int32) (x4 : Int32) (y1 : Int32) (y2 : Int32) (y3 : Int32) (f : St) : Prop :=
  vp_in y1 160 ∧ (∀ g145 : St, g145 = setf f (a + 1) y1.toNatClampNeg (y2 + y3) → K 0 g145)
def jX8_does_139 (P : Sk) (a : Nat) (p1 : Int32) (K : Int32 → St → Prop) (x2 : Int32) (x3 : Int32) (x4 : Int32) (y1 : Int32) (y2 : Int32) (f : St) : Prop :=
  jX8_does_144 P a p1 K x2 x3 x4 y1 y2 0 f
def jX8_does_91 (P : Sk) (a : Nat) (p1 : Int32) (K : Int32 → St → Prop) (x2 : Int32) (x3 : Int32) (y0 : Int32) (f : St) : Prop :=
  (y0 = 0 → (¬ x2 = 122 → kX8_puts P f a x3 (fun g117 => vp_in 1 160 ∧ ((x2 = 120 → jX8_does_139 P a p1 K x2 x3 y0 1 (g117 (a + 1) ((1 : Int32)).toNatClampNeg) g117) ∧ (¬ x2 = 120 → (¬ x2 = 106 → jX8_does_144 P a p1 K x2 x3 y0 1 (g117 (a + 1) ((1 : Int32)).toNatClampNeg) 1 g117) ∧ (x2 = 106 → jX8_does_139 P a p1 K x2 x3 y0 1 (g117 (a + 1) ((1 : Int32)).toNatClampNeg) g117))))) ∧ (x2 = 122 → kX8_takesBack P f a x3 (fun g109 => K 0 g109))) ∧ (¬ y0 = 0 → K y0 f)
def vX8_does (P : Sk) (f : St) (a : Nat) (p1 : Int32) (K : Int32 → St → Prop) : Prop :=
  vp_in p1 132 ∧ (∀ x2_6 : Int32, x2_6 = f (a + 10) p1.toNatClampNeg → vp_in (p1 + 1) 132 ∧ (∀ x3_15 : Int32, x3_15 = f (a + 10) (p1 + 1).toNatClampNeg → (¬ x2_6 = 120 → (¬ x2_6 = 106 → (¬ x2_6 = 122 → kX8_howOf P f x2_6 (fun r85 g85 => kX8_refusesChange P g85 a x3_15 r85 (fun r88 g88 => jX8_does_91 P a p1 K x2_6 x3_15 r88 g88))) ∧ (x2_6 = 122 → kX8_refusesBack P f a x3_15 (fun r76 g76 => jX8_does_91 P a p1 K x2_6 x3_15 r76 g76))) ∧ (x2_6 = 106 → vp_in (p1 + 2) 132 ∧ (kX8_refusesJoin P f a x3_15 (f (a + 10) (p1 + 2).toNatClampNeg) (fun r62 g62 => jX8_does_91 P a p1 K x2_6 x3_15 r62 g62)))) ∧ (x2_6 = 120 → vp_in (p1 + 2) 132 ∧ (vp_in (p1 + 3) 132 ∧ (kX8_refusesCross P f a x3_15 (f (a + 10) (p1 + 2).toNatClampNeg) (f (a + 10) (p1 + 3).toNatClampNeg) (fun r40 g40 => jX8_does_91 P a p1 K x2_6 x3_15 r40 g40))))))
set_option maxRecDepth 20000 in
set_option maxHeartbeats 4000000 in
theorem mX8_does (l : Launch) (G : Gl) (P : Sk) (f : St) (sz : Nat) (a : Nat) (ha : IsModel P a) (p1 : Int32) (K : Int32 → St → Prop) (h : vX8_does P f a p1 K)  :
  Met l yX8_does (wU yX8_does cX8_does 5 (some .int)) rmX8_does (PcW G P f sz [.ref a, .int p1]) (QcI G P sz K) 0 0 (frA P sz) := by
  refine v_met (own := RX8) [.ref a, .int p1] (by decide +kernel) rfl (Nat.le_of_ble_eq_true rfl) (fun p e s m args below meth c hsz o hr hnm => ?_)
  refine v_lv (lv2 := [(0, .ref a), (1, .int p1)]) rfl ?_
  have J144 : ∀ (x2_144 : Int32) (x3_144 : Int32) (x4_144 : Int32) (y1_144 : Int32) (y2_144 : Int32) (y3_144 : Int32) (g144 : St), jX8_does_144 P a p1 K x2_144 x3_144 x4_144 y1_144 y2_144 y3_144 g144 → V p l e rmX8_does s m args below meth c 5 G (frA P sz) (MQ below (QcI G P sz K) args s 0 0 (frA P sz)) 0 0 P [(0, .ref a), (1, .int p1), (2, .int x2_144), (3, .int x3_144), (4, .int x4_144)] [.int y3_144, .int y2_144, .int y1_144, .ref (a + 1)] 144 g144 := by
    intro x2_144 x3_144 x4_144 y1_144 y2_144 y3_144 g144  h
    unfold jX8_does_144 at h
    refine v_iadd o dX8_does_144 ?_
    refine v_iast o (wfModel_t1 ha) (wfModel_n1 ha) h.1 dX8_does_145 ?_
    replace h := h.2
    refine v_nmf (fun g145 eg145 => ?_)
    replace h := h g145 eg145
    refine v_iconst o (v := 0) dX8_does_146 (by decide) ?_
    exact v_iret o rfl hr dX8_does_147 h
  have J139 : ∀ (x2_139 : Int32) (x3_139 : Int32) (x4_139 : Int32) (y1_139 : Int32) (y2_139 : Int32) (g139 : St), jX8_does_139 P a p1 K x2_139 x3_139 x4_139 y1_139 y2_139 g139 → V p l e rmX8_does s m args below meth c 5 G (frA P sz) (MQ below (QcI G P sz K) args s 0 0 (frA P sz)) 0 0 P [(0, .ref a), (1, .int p1), (2, .int x2_139), (3, .int x3_139), (4, .int x4_139)] [.int y2_139, .int y1_139, .ref (a + 1)] 139 g139 := by
    intro x2_139 x3_139 x4_139 y1_139 y2_139 g139  h
    unfold jX8_does_139 at h
    refine v_iconst o (v := 0) dX8_does_139 (by decide) ?_
    refine v_goto o (tgt := 144) dX8_does_140 (by decide) ?_
    refine v_sub [0, 1, 2, 3, 4] (lv2 := [(0, .ref a), (1, .int p1), (2, .int x2_139), (3, .int x3_139), (4, .int x4_139)]) rfl ?_
    exact J144 x2_139 x3_139 x4_139 y1_139 y2_139 0 g139  h
  have J91 : ∀ (x2_91 : Int32) (x3_91 : Int32) (y0_91 : Int32) (g91 : St), jX8_does_91 P a p1 K x2_91 x3_91 y0_91 g91 → V p l e rmX8_does s m args below meth c 5 G (frA P sz) (MQ below (QcI G P sz K) args s 0 0 (frA P sz)) 0 0 P [(0, .ref a), (1, .int p1), (2, .int x2_91), (3, .int x3_91)] [.int y0_91] 91 g91 := by
    intro x2_91 x3_91 y0_91 g91  h
    unfold jX8_does_91 at h
    refine v_istore o (lv' := [(4, .int y0_91), (0, .ref a), (1, .int p1), (2, .int x2_91), (3, .int x3_91)]) dX8_does_91 (by decide) rfl ?_
    refine v_iload o 0 dX8_does_93 rfl ?_
    refine v_if_eq o (tgt := 101) dX8_does_95 (by decide) (fun c95 => ?_) (fun c95 => ?_)
    · replace h := h.1 c95
      refine v_iload_n o 3 dX8_does_101 rfl ?_
      refine v_bipush o (v := 122) dX8_does_102 (by decide) ?_
      refine v_icmp_ne o (tgt := 115) dX8_does_104 (by decide) (fun c104 => ?_) (fun c104 => ?_)
      · replace h := h.1 c104
        refine v_aload_n o 1 dX8_does_115 rfl ?_
        refine v_iload_n o 4 dX8_does_116 rfl ?_
        refine v_cVv o [.int x3_91] [] (fun sz => metX8_puts l G P g91 sz a ha x3_91 _ h) (cwX8_130 o.1.2.2.2.2 (by decide)) ⟨_, _, rfl⟩ (by decide) (wfModel_o ha) rfl (Nat.le_of_ble_eq_true rfl) ⟨Nat.le_of_ble_eq_true rfl, Nat.le_of_ble_eq_true rfl⟩ dX8_does_117 rfl (fun g117 h => ?_)
        refine v_aload_n o 1 dX8_does_120 rfl ?_
        refine v_gfR o lkX8_7 (by decide) (wfModel_o ha) (wfModel_r1 ha) dX8_does_121 ?_
        refine v_iconst o (v := 1) dX8_does_124 (by decide) ?_
        refine v_dup2 o dX8_does_125 rfl rfl ?_
        refine v_iald o (wfModel_t1 ha) (wfModel_n1 ha) h.1 dX8_does_126 ?_
        replace h := h.2
        refine v_iload_n o 3 dX8_does_127 rfl ?_
        refine v_bipush o (v := 120) dX8_does_128 (by decide) ?_
        refine v_icmp_eq o (tgt := 139) dX8_does_130 (by decide) (fun c130 => ?_) (fun c130 => ?_)
        · replace h := h.1 c130
          refine v_sub [1, 2, 3, 4, 0] (lv2 := [(0, .ref a), (1, .int p1), (2, .int x2_91), (3, .int x3_91), (4, .int y0_91)]) rfl ?_
          exact J139 x2_91 x3_91 y0_91 1 (g117 (a + 1) ((1 : Int32)).toNatClampNeg) g117  h
        · replace h := h.2 c130
          refine v_iload_n o 3 dX8_does_133 rfl ?_
          refine v_bipush o (v := 106) dX8_does_134 (by decide) ?_
          refine v_icmp_ne o (tgt := 143) dX8_does_136 (by decide) (fun c136 => ?_) (fun c136 => ?_)
          · replace h := h.1 c136
            refine v_iconst o (v := 1) dX8_does_143 (by decide) ?_
            refine v_sub [1, 2, 3, 4, 0] (lv2 := [(0, .ref a), (1, .int p1), (2, .int x2_91), (3, .int x3_91), (4, .int y0_91)]) rfl ?_
            exact J144 x2_91 x3_91 y0_91 1 (g117 (a + 1) ((1 : Int32)).toNatClampNeg) 1 g117  h
          · replace h := h.2 c136
            refine v_sub [1, 2, 3, 4, 0] (lv2 := [(0, .ref a), (1, .int p1), (2, .int x2_91), (3, .int x3_91), (4, .int y0_91)]) rfl ?_
            exact J139 x2_91 x3_91 y0_91 1 (g117 (a + 1) ((1 : Int32)).toNatClampNeg) g117  h
      · replace h := h.2 c104
        refine v_aload_n o 1 dX8_does_107 rfl ?_
        refine v_iload_n o 4 dX8_does_108 rfl ?_
        refine v_cVv o [.int x3_91] [] (fun sz => metX8_takesBack l G P g91 sz a ha x3_91 _ h) (cwX8_143 o.1.2.2.2.2 (by decide)) ⟨_, _, rfl⟩ (by decide) (wfModel_o ha) rfl (Nat.le_of_ble_eq_true rfl) ⟨Nat.le_of_ble_eq_true rfl, Nat.le_of_ble_eq_true rfl⟩ dX8_does_109 rfl (fun g109 h => ?_)
        refine v_goto o (tgt := 146) dX8_does_112 (by decide) ?_
        refine v_iconst o (v := 0) dX8_does_146 (by decide) ?_
        exact v_iret o rfl hr dX8_does_147 h
    · replace h := h.2 c95
      refine v_iload o 0 dX8_does_98 rfl ?_
      exact v_iret o rfl hr dX8_does_100 h
  unfold vX8_does at h
  refine v_aload_n o 0 dX8_does_0 rfl ?_
  refine v_gfR o lkX8_37 (by decide) (wfModel_o ha) (wfModel_r20 ha) dX8_does_1 ?_
  refine v_iload_n o 1 dX8_does_4 rfl ?_
  refine v_iald o (wfModel_t20 ha) (wfModel_n20 ha) h.1 dX8_does_5 ?_
  replace h := h.2
  refine v_topi (fun x2_6 ex2_6 => ?_)
  replace h := h x2_6 ex2_6
  refine v_istore_n o (lv' := [(2, .int x2_6), (0, .ref a), (1, .int p1)]) dX8_does_6 rfl (by decide) rfl ?_
  refine v_aload_n o 1 dX8_does_7 rfl ?_
  refine v_gfR o lkX8_37 (by decide) (wfModel_o ha) (wfModel_r20 ha) dX8_does_8 ?_
  refine v_iload_n o 2 dX8_does_11 rfl ?_
  refine v_iconst o (v := 1) dX8_does_12 (by decide) ?_
  refine v_iadd o dX8_does_13 ?_
  refine v_iald o (wfModel_t20 ha) (wfModel_n20 ha) h.1 dX8_does_14 ?_
  replace h := h.2
  refine v_topi (fun x3_15 ex3_15 => ?_)
  replace h := h x3_15 ex3_15
  refine v_istore_n o (lv' := [(3, .int x3_15), (2, .int x2_6), (0, .ref a), (1, .int p1)]) dX8_does_15 rfl (by decide) rfl ?_
  refine v_iload_n o 1 dX8_does_16 rfl ?_
  refine v_bipush o (v := 120) dX8_does_17 (by decide) ?_
  refine v_icmp_ne o (tgt := 46) dX8_does_19 (by decide) (fun c19 => ?_) (fun c19 => ?_)
  · replace h := h.1 c19
    refine v_iload_n o 1 dX8_does_46 rfl ?_
    refine v_bipush o (v := 106) dX8_does_47 (by decide) ?_
    refine v_icmp_ne o (tgt := 68) dX8_does_49 (by decide) (fun c49 => ?_) (fun c49 => ?_)
    · replace h := h.1 c49
      refine v_iload_n o 1 dX8_does_68 rfl ?_
      refine v_bipush o (v := 122) dX8_does_69 (by decide) ?_
      refine v_icmp_ne o (tgt := 82) dX8_does_71 (by decide) (fun c71 => ?_) (fun c71 => ?_)
      · replace h := h.1 c71
        refine v_aload_n o 2 dX8_does_82 rfl ?_
        refine v_iload_n o 0 dX8_does_83 rfl ?_
        refine v_iload_n o 1 dX8_does_84 rfl ?_
        refine v_cSi o [.int x2_6] [.int x3_15, .ref a] (fun sz => metX8_howOf l G P f sz x2_6 _ h) (cwX8_177 o.1.2.2.2.2 (by decide)) rfl (Nat.le_of_ble_eq_true rfl) ⟨Nat.le_of_ble_eq_true rfl, Nat.le_of_ble_eq_true rfl⟩ dX8_does_85 rfl (fun r85 g85 h => ?_)
        refine v_cVi o [.int x3_15, .int r85] [] (fun sz => metX8_refusesChange l G P g85 sz a ha x3_15 r85 _ h) (cwX8_146 o.1.2.2.2.2 (by decide)) ⟨_, _, rfl⟩ (by decide) (wfModel_o ha) rfl (Nat.le_of_ble_eq_true rfl) ⟨Nat.le_of_ble_eq_true rfl, Nat.le_of_ble_eq_true rfl⟩ dX8_does_88 rfl (fun r88 g88 h => ?_)
        refine v_sub [2, 3, 1, 0] (lv2 := [(0, .ref a), (1, .int p1), (2, .int x2_6), (3, .int x3_15)]) rfl ?_
        exact J91 x2_6 x3_15 r88 g88  h
      · replace h := h.2 c71
        refine v_aload_n o 2 dX8_does_74 rfl ?_
        refine v_iload_n o 0 dX8_does_75 rfl ?_
        refine v_cVi o [.int x3_15] [] (fun sz => metX8_refusesBack l G P f sz a ha x3_15 _ h) (cwX8_140 o.1.2.2.2.2 (by decide)) ⟨_, _, rfl⟩ (by decide) (wfModel_o ha) rfl (Nat.le_of_ble_eq_true rfl) ⟨Nat.le_of_ble_eq_true rfl, Nat.le_of_ble_eq_true rfl⟩ dX8_does_76 rfl (fun r76 g76 h => ?_)
        refine v_goto o (tgt := 91) dX8_does_79 (by decide) ?_
        refine v_sub [2, 3, 1, 0] (lv2 := [(0, .ref a), (1, .int p1), (2, .int x2_6), (3, .int x3_15)]) rfl ?_
        exact J91 x2_6 x3_15 r76 g76  h
    · replace h := h.2 c49
      refine v_aload_n o 2 dX8_does_52 rfl ?_
      refine v_iload_n o 0 dX8_does_53 rfl ?_
      refine v_aload_n o 2 dX8_does_54 rfl ?_
      refine v_gfR o lkX8_37 (by decide) (wfModel_o ha) (wfModel_r20 ha) dX8_does_55 ?_
      refine v_iload_n o 3 dX8_does_58 rfl ?_
      refine v_iconst o (v := 2) dX8_does_59 (by decide) ?_
      refine v_iadd o dX8_does_60 ?_
      refine v_iald o (wfModel_t20 ha) (wfModel_n20 ha) h.1 dX8_does_61 ?_
      replace h := h.2
      refine v_cVi o [.int x3_15, .int (f (a + 10) (p1 + 2).toNatClampNeg)] [] (fun sz => metX8_refusesJoin l G P f sz a ha x3_15 (f (a + 10) (p1 + 2).toNatClampNeg) _ h) (cwX8_149 o.1.2.2.2.2 (by decide)) ⟨_, _, rfl⟩ (by decide) (wfModel_o ha) rfl (Nat.le_of_ble_eq_true rfl) ⟨Nat.le_of_ble_eq_true rfl, Nat.le_of_ble_eq_true rfl⟩ dX8_does_62 rfl (fun r62 g62 h => ?_)
      refine v_goto o (tgt := 91) dX8_does_65 (by decide) ?_
      refine v_sub [2, 3, 1, 0] (lv2 := [(0, .ref a), (1, .int p1), (2, .int x2_6), (3, .int x3_15)]) rfl ?_
      exact J91 x2_6 x3_15 r62 g62  h
  · replace h := h.2 c19
    refine v_aload_n o 2 dX8_does_22 rfl ?_
    refine v_iload_n o 0 dX8_does_23 rfl ?_
    refine v_aload_n o 2 dX8_does_24 rfl ?_
    refine v_gfR o lkX8_37 (by decide) (wfModel_o ha) (wfModel_r20 ha) dX8_does_25 ?_
    refine v_iload_n o 3 dX8_does_28 rfl ?_
    refine v_iconst o (v := 2) dX8_does_29 (by decide) ?_
    refine v_iadd o dX8_does_30 ?_
    refine v_iald o (wfModel_t20 ha) (wfModel_n20 ha) h.1 dX8_does_31 ?_
    replace h := h.2
    refine v_aload_n o 2 dX8_does_32 rfl ?_
    refine v_gfR o lkX8_37 (by decide) (wfModel_o ha) (wfModel_r20 ha) dX8_does_33 ?_
    refine v_iload_n o 3 dX8_does_36 rfl ?_
    refine v_iconst o (v := 3) dX8_does_37 (by decide) ?_
    refine v_iadd o dX8_does_38 ?_
    refine v_iald o (wfModel_t20 ha) (wfModel_n20 ha) h.1 dX8_does_39 ?_
    replace h := h.2
    refine v_cVi o [.int x3_15, .int (f (a + 10) (p1 + 2).toNatClampNeg), .int (f (a + 10) (p1 + 3).toNatClampNeg)] [] (fun sz => metX8_refusesCross l G P f sz a ha x3_15 (f (a + 10) (p1 + 2).toNatClampNeg) (f (a + 10) (p1 + 3).toNatClampNeg) _ h) (cwX8_136 o.1.2.2.2.2 (by decide)) ⟨_, _, rfl⟩ (by decide) (wfModel_o ha) rfl (Nat.le_of_ble_eq_true rfl) ⟨Nat.le_of_ble_eq_true rfl, Nat.le_of_ble_eq_true rfl⟩ dX8_does_40 rfl (fun r40 g40 h => ?_)
    refine v_goto o (tgt := 91) dX8_does_43 (by decide) ?_
    refine v_sub [2, 3, 1, 0] (lv2 := [(0, .ref a), (1, .int p1), (2, .int x2_6), (3, .int x3_15)]) rfl ?_
    exact J91 x2_6 x3_15 r40 g40  h
abbrev kX8_does := @vX8_does
abbrev metX8_does := @mX8_does
theorem st_ch {h g : St} {a : Nat} {bd : Bd} {v : Int32} (hS : StM h (a + 1) 0 bd) (hb : Bok bd) (e : g = setf h (a + 1) 1 (h (a + 1) 1 + v)) : StM g (a + 1) 0 (bd.1, bd.2.1 + v, bd.2.2) := by
  have rw1 : ∀ j, j ≠ 1 → g (a + 1) j = h (a + 1) j := fun j hj => by rw [e, setf_off (Or.inr hj)]
  refine ⟨(rw1 0 (by decide)).trans hS.1, ?_, (rw1 2 (by decide)).trans hS.2.2.1, (rw1 3 (by decide)).trans hS.2.2.2.1, fun i hi => ?_⟩
  · show g (a + 1) 1 = bd.2.1 + v
    rw [e, setf_same]
    exact congrArg (· + v) hS.2.1
  · exact (hS.2.2.2.2 i hi).far (hb.at (i := i) hi).1.2.2.1 (fun j h1 h2 => rw1 j (by omega))
theorem u8_does {P : Sk} {f : St} {a k s : Nat} {b : List Nat} {bd : Bd} {K : Int32 → St → Prop} (hS : StM f (a + 1) 0 bd) (hb : Bok bd) (hE : RdE f a k b s) (hP : PartT b s) (hk : Tok b) (hk32 : k ≤ 32)
  (hK : ∀ g, MF f g a (fun i => i = 1 ∨ (5 ≤ i ∧ i ≤ 9)) (fun j => 9 ≤ j ∧ j ≤ 17) → ((prR bd b s).1 = 0 → StM g (a + 1) 0 (prB bd b s)) → ((prR bd b s).1 ≠ 0 → StM g (a + 1) 0 bd) → K (nI (prR bd b s).1) g) : kX8_does P f a (nI (4 * k)) K := by
  show vX8_does P f a (nI (4 * k)) K
  unfold vX8_does
  have in1 : vp_in 1 160 := vp_nI (i := 1) (by decide) (by decide)
  have x1e : nI (4 * k) + 1 = nI (4 * k + 1) := nI_1 _
  have x2e : nI (4 * k) + 2 = nI (4 * k + 2) := nI_add _ 2
  have x3e : nI (4 * k) + 3 = nI (4 * k + 3) := nI_add _ 3
  have hs1 := hP.1
  have hcl := (hk.at (i := s) (by omega)).2
  have hdl := (hk.at (i := s + 1) hs1).2
  have hR8 := prR_lt bd b s
  rw [x1e, x2e, x3e, nI_clamp (by omega), nI_clamp (by omega), nI_clamp (by omega), nI_clamp (by omega), hE.1, hE.2.1]
  refine ⟨vp_nI (by omega) (by decide), fun x2 e2 => ⟨vp_nI (by omega) (by decide), fun x3 e3 => ?_⟩⟩
  subst e2
  subst e3
  have E : ∀ j, j < 1000 → (nI (b.getD s 0) = nI j ↔ b.getD s 0 = j) := fun j hj => nI_eq (by omega) (by omega)
  have same : ∀ g, Sc9 f g a → StM g (a + 1) 0 bd := fun g r => hS.row (r.1 (a + 1) (by omega) (fun i hi => by omega))
  have R0 : ∀ g x4, Sc9 f g a → (prR bd b s).1 ≠ 0 → jX8_does_91 P a (nI (4 * k)) K (nI (b.getD s 0)) (nI (b.getD (s + 1) 0 - 48)) (nI (prR bd b s).1) g ∨ x4 = (0 : Int32) := by
    intro g x4 r c0
    refine Or.inl ?_
    unfold jX8_does_91
    rw [show (0 : Int32) = nI 0 from rfl, nI_eq (by omega) (by omega)]
    exact ⟨fun q => absurd q c0, fun _ => hK g (r.mono (fun i hi => by omega) (fun _ h => h)) (fun q => absurd q c0) (fun _ => same g r)⟩
  have FIN : ∀ g, Sc9 f g a → ((prR bd b s).1 = 0 → MW g a (prR bd b s).2.2 ∧ g a 10 = nI (prR bd b s).2.1) → b.getD s 0 ≠ 122 → jX8_does_91 P a (nI (4 * k)) K (nI (b.getD s 0)) (nI (b.getD (s + 1) 0 - 48)) (nI (prR bd b s).1) g := by
    intro g r hw h122
    by_cases c0 : (prR bd b s).1 = 0
    · obtain ⟨hp, hy⟩ := prR_ok hb c0
      obtain ⟨w1, w2⟩ := hw c0
      unfold jX8_does_91
      rw [c0] at hK ⊢
      refine ⟨fun _ => ⟨fun _ => ?_, fun q => absurd ((E 122 (by decide)).mp q) h122⟩, fun q => absurd rfl q⟩
      refine u8_put (same g r) hb hp hy.1.2.2.1 w1 w2 (fun h r2 S2 => ?_)
      have hb2 := hb.put (p := nI (b.getD (s + 1) 0 - 48)) hy
      have r12 : MF f h a (fun i => i = 1 ∨ (5 ≤ i ∧ i ≤ 9)) (fun j => 9 ≤ j ∧ j ≤ 17) := (r.mono (fun i hi => Or.inr hi) (fun _ h => h)).trans (r2.mono (fun i hi => Or.inl hi) (fun _ h => absurd h id))
      have fin : ∀ v g2, g2 = setf h (a + 1) 1 (h (a + 1) 1 + v) → prB bd b s = ((putL bd (nI (b.getD (s + 1) 0 - 48)) (prR bd b s).2).1, (putL bd (nI (b.getD (s + 1) 0 - 48)) (prR bd b s).2).2.1 + v, (putL bd (nI (b.getD (s + 1) 0 - 48)) (prR bd b s).2).2.2) → K 0 g2 := by
        intro v g2 e2 ep
        refine hK g2 ?_ (fun _ => ?_) (fun q => absurd rfl q)
        · rw [e2]
          exact r12.trans (mf_arr (i := 1) h (Or.inl rfl) (by decide))
        · rw [ep]
          exact st_ch S2 hb2 e2
      unfold jX8_does_139 jX8_does_144
      rw [tn1]
      have p0 : b.getD s 0 = 106 ∨ b.getD s 0 = 120 → prB bd b s = ((putL bd (nI (b.getD (s + 1) 0 - 48)) (prR bd b s).2).1, (putL bd (nI (b.getD (s + 1) 0 - 48)) (prR bd b s).2).2.1 + 0, (putL bd (nI (b.getD (s + 1) 0 - 48)) (prR bd b s).2).2.2) := by
        intro q
        rw [Int32.add_zero]
        unfold prB
        rw [if_pos (by omega)]
      refine ⟨in1, fun q => ⟨in1, fun g2 e2 => fin 0 g2 e2 (p0 (Or.inr ((E 120 (by decide)).mp q)))⟩, fun q => ⟨fun q2 => ⟨in1, fun g2 e2 => fin 1 g2 e2 ?_⟩, fun q2 => ⟨in1, fun g2 e2 => fin 0 g2 e2 (p0 (Or.inl ((E 106 (by decide)).mp q2)))⟩⟩⟩
      unfold prB
      rw [if_neg]
      · rfl
      · rintro (h | h | h)
        · exact q2 ((E 106 (by decide)).mpr h)
        · exact q ((E 120 (by decide)).mpr h)
        · exact h122 h
    · rcases R0 g 1 r c0 with h | h
      · exact h
      · exact absurd h (by decide)
  refine ⟨fun q120 => ⟨fun q106 => ⟨fun q122 => ?_, fun q122 => ?_⟩, fun q106 => ?_⟩, fun q120 => ?_⟩
  · have n120 : b.getD s 0 ≠ 120 := fun h => q120 ((E 120 (by decide)).mpr h)
    have n106 : b.getD s 0 ≠ 106 := fun h => q106 ((E 106 (by decide)).mpr h)
    have n122 : b.getD s 0 ≠ 122 := fun h => q122 ((E 122 (by decide)).mpr h)
    have h4 : b.getD s 0 = 108 ∨ b.getD s 0 = 109 ∨ b.getD s 0 = 114 ∨ b.getD s 0 = 116 := by
      have := hP.2.2.2.2.2
      omega
    refine u8_howOf h4 ?_
    have hh : hwN (b.getD s 0) < 4 := by
      unfold hwN
      repeat (first | omega | split)
    have e : prR bd b s = rsChange bd (nI (b.getD (s + 1) 0 - 48)) (hwN (b.getD s 0)) := by
      unfold prR
      rw [if_neg n106, if_neg n120, if_neg n122]
    refine u8_refusesChange hS hb hh (fun g r hw => ?_)
    rw [← e] at hw ⊢
    exact FIN g r hw n122
  · have c122 := (E 122 (by decide)).mp q122
    have e : prR bd b s = rsBack bd (nI (b.getD (s + 1) 0 - 48)) := by
      unfold prR
      rw [if_neg (by omega), if_neg (by omega), if_pos c122]
    refine u8_refusesBack hS hb ?_
    rw [← e]
    by_cases c0 : (prR bd b s).1 = 0
    · have c0b := c0
      rw [e] at c0b
      obtain ⟨hp, hl, hy2, hy⟩ := rsBack_ok hb c0b
      unfold jX8_does_91
      rw [c0] at hK ⊢
      refine ⟨fun _ => ⟨fun q => absurd q122 q, fun _ => ?_⟩, fun q => absurd rfl q⟩
      refine u8_takesBack hS hb hp hl (fun h r2 S2 => ?_)
      rw [← hy2, ← e] at S2
      refine hK h (r2.mono (fun i hi => by omega) (fun j hj => by omega)) (fun _ => ?_) (fun q => absurd rfl q)
      unfold prB
      rw [if_pos (by omega)]
      exact S2
    · rcases R0 f 1 (MF.refl _ _ _ _) c0 with h | h
      · exact h
      · exact absurd h (by decide)
  · have c106 := (E 106 (by decide)).mp q106
    have e : prR bd b s = rsJoin bd (nI (b.getD (s + 1) 0 - 48)) (nI (b.getD (s + 3) 0 - 48)) := by
      unfold prR
      rw [if_pos c106]
    rw [hE.2.2.2 c106]
    refine ⟨vp_nI (by omega) (by decide), ?_⟩
    refine u8_refusesJoin hS hb (fun g r hw => ?_)
    rw [← e] at hw ⊢
    exact FIN g r hw (by omega)
  · have c120 := (E 120 (by decide)).mp q120
    have e : prR bd b s = rsCross bd (nI (b.getD (s + 1) 0 - 48)) (nI (b.getD (s + 2) 0 - 97)) (if b.getD (s + 3) 0 = 43 then 1 else 0) := by
      unfold prR
      rw [if_neg (by omega), if_pos c120]
    rw [(hE.2.2.1 c120).1, (hE.2.2.1 c120).2]
    refine ⟨vp_nI (by omega) (by decide), vp_nI (by omega) (by decide), ?_⟩
    refine u8_refusesCross hS hb (by split <;> decide) (fun g r hw => ?_)
    rw [← e] at hw ⊢
    exact FIN g r (fun q => ⟨(hw q).1, (hw q).2.1⟩) (by omega)

def jX8_work_95 (P : Sk) (a : Nat) (L31 : St → Int32 → Int32 → Prop) (K : Int32 → St → Prop) (x1 : Int32) (x2 : Int32) (y1 : Int32) (y2 : Int32) (f : St) : Prop :=
  vp_in y1 160 ∧ (∀ g95 : St, g95 = setf f (a + 1) y1.toNatClampNeg y2 → K x1 g95)
def jX8_work_80 (P : Sk) (a : Nat) (L31 : St → Int32 → Int32 → Prop) (K : Int32 → St → Prop) (x1 : Int32) (x2 : Int32) (y1 : Int32) (y2 : Int32) (f : St) : Prop :=
  vp_in y1 160 ∧ (∀ g80 : St, g80 = setf f (a + 1) y1.toNatClampNeg y2 → (¬ x2 = 0 → jX8_work_95 P a L31 K x1 x2 3 x2 g80) ∧ (x2 = 0 → jX8_work_95 P a L31 K x1 x2 3 (-1) g80))
def jX8_work_66 (P : Sk) (a : Nat) (L31 : St → Int32 → Int32 → Prop) (K : Int32 → St → Prop) (x1 : Int32) (x2 : Int32) (f : St) : Prop :=
  (¬ x2 = 0 → jX8_work_80 P a L31 K x1 x2 2 x1 f) ∧ (x2 = 0 → jX8_work_80 P a L31 K x1 x2 2 (-1) f)
def jX8_work_61 (P : Sk) (a : Nat) (L31 : St → Int32 → Int32 → Prop) (K : Int32 → St → Prop) (x1 : Int32) (x2 : Int32) (y0 : Int32) (y1 : Int32) (f : St) : Prop :=
  ∀ x1_62 : Int32, x1_62 = y0 + y1 → L31 f x1_62 x2
def bX8_work_31 (P : Sk) (a : Nat) (L31 : St → Int32 → Int32 → Prop) (K : Int32 → St → Prop) (f : St) (x1 : Int32) (x2 : Int32) : Prop :=
  (f a 21 ≤ x1 → jX8_work_66 P a L31 K x1 x2 f) ∧ (¬ f a 21 ≤ x1 → (¬ x2 = 0 → jX8_work_66 P a L31 K x1 x2 f) ∧ (x2 = 0 → kX8_does P f a (4 * x1) (fun r47 g47 => (¬ r47 = 0 → jX8_work_61 P a L31 K x1 r47 x1 0 g47) ∧ (r47 = 0 → jX8_work_61 P a L31 K x1 r47 x1 1 g47))))
def vX8_work (P : Sk) (f : St) (a : Nat) (L31 : St → Int32 → Int32 → Prop) (K : Int32 → St → Prop) : Prop :=
  ∀ g2 : St, g2 = setf f a 0 0 → kX8_readsWorks P g2 a (fun r6 g6 => (¬ r6 = 0 → kX8_records P g6 a (fun g19 => ∀ g24 : St, g24 = setf g19 a 7 0 → L31 g24 0 0)) ∧ (r6 = 0 → kX8_fails P g6 a 1 (fun r14 g14 => K r14 g14)))
set_option maxRecDepth 20000 in
set_option maxHeartbeats 4000000 in
theorem mX8_work (l : Launch) (G : Gl) (P : Sk) (f : St) (sz : Nat) (a : Nat) (ha : IsModel P a) (K : Int32 → St → Prop) (I31 : St → Int32 → Int32 → Prop) (μ31 : St → Int32 → Int32 → Nat) 
  (h : vX8_work P f a I31 K)
  (h31 : ∀ (g : St) (x1 : Int32) (x2 : Int32) , I31 g x1 x2 → bX8_work_31 P a (fun g' z0 z1 => I31 g' z0 z1 ∧ μ31 g' z0 z1 < μ31 g x1 x2) K g x1 x2) :
  Met l yX8_work (wU yX8_work cX8_work 3 (some .int)) rmX8_work (PcW G P f sz [.ref a]) (QcI G P sz K) 0 0 (frA P sz) := by
  refine v_met (own := RX8) [.ref a] (by decide +kernel) rfl (Nat.le_of_ble_eq_true rfl) (fun p e s m args below meth c hsz o hr hnm => ?_)
  refine v_lv (lv2 := [(0, .ref a)]) rfl ?_
  have main : ∀ n : Nat, (∀ (g : St) (x1 : Int32) (x2 : Int32) , I31 g x1 x2 → μ31 g x1 x2 < n → V p l e rmX8_work s m args below meth c 3 G (frA P sz) (MQ below (QcI G P sz K) args s 0 0 (frA P sz)) 0 0 P [(0, .ref a), (1, .int x1), (2, .int x2)] [] 31 g) := by
    intro n
    induction n with
    | zero => exact fun g x1 x2 hI hm => absurd hm (Nat.not_lt_zero _)
    | succ n ih =>
      intro g x1 x2 hI hm
      have h := h31 g x1 x2 hI
      clear hI
      have J95 : ∀ (x1_95 : Int32) (x2_95 : Int32) (y1_95 : Int32) (y2_95 : Int32) (g95 : St), jX8_work_95 P a (fun g' z0 z1 => I31 g' z0 z1 ∧ μ31 g' z0 z1 < μ31 g x1 x2) K x1_95 x2_95 y1_95 y2_95 g95 → V p l e rmX8_work s m args below meth c 3 G (frA P sz) (MQ below (QcI G P sz K) args s 0 0 (frA P sz)) 0 0 P [(0, .ref a), (1, .int x1_95), (2, .int x2_95)] [.int y2_95, .int y1_95, .ref (a + 1)] 95 g95 := by
        intro x1_95 x2_95 y1_95 y2_95 g95  h
        unfold jX8_work_95 at h
        refine v_iast o (wfModel_t1 ha) (wfModel_n1 ha) h.1 dX8_work_95 ?_
        replace h := h.2
        refine v_nmf (fun g95 eg95 => ?_)
        replace h := h g95 eg95
        refine v_iload_n o 1 dX8_work_96 rfl ?_
        exact v_iret o rfl hr dX8_work_97 h
      have J80 : ∀ (x1_80 : Int32) (x2_80 : Int32) (y1_80 : Int32) (y2_80 : Int32) (g80 : St), jX8_work_80 P a (fun g' z0 z1 => I31 g' z0 z1 ∧ μ31 g' z0 z1 < μ31 g x1 x2) K x1_80 x2_80 y1_80 y2_80 g80 → V p l e rmX8_work s m args below meth c 3 G (frA P sz) (MQ below (QcI G P sz K) args s 0 0 (frA P sz)) 0 0 P [(0, .ref a), (1, .int x1_80), (2, .int x2_80)] [.int y2_80, .int y1_80, .ref (a + 1)] 80 g80 := by
        intro x1_80 x2_80 y1_80 y2_80 g80  h
        unfold jX8_work_80 at h
        refine v_iast o (wfModel_t1 ha) (wfModel_n1 ha) h.1 dX8_work_80 ?_
        replace h := h.2
        refine v_nmf (fun g80 eg80 => ?_)
        replace h := h g80 eg80
        refine v_aload_n o 0 dX8_work_81 rfl ?_
        refine v_gfR o lkX8_7 (by decide) (wfModel_o ha) (wfModel_r1 ha) dX8_work_82 ?_
        refine v_iconst o (v := 3) dX8_work_85 (by decide) ?_
        refine v_iload_n o 2 dX8_work_86 rfl ?_
        refine v_if_ne o (tgt := 94) dX8_work_87 (by decide) (fun c87 => ?_) (fun c87 => ?_)
        · replace h := h.1 c87
          refine v_iload_n o 2 dX8_work_94 rfl ?_
          refine v_sub [0, 1, 2] (lv2 := [(0, .ref a), (1, .int x1_80), (2, .int x2_80)]) rfl ?_
          exact J95 x1_80 x2_80 3 x2_80 g80  h
        · replace h := h.2 c87
          refine v_iconst o (v := (-1)) dX8_work_90 (by decide) ?_
          refine v_goto o (tgt := 95) dX8_work_91 (by decide) ?_
          refine v_sub [0, 1, 2] (lv2 := [(0, .ref a), (1, .int x1_80), (2, .int x2_80)]) rfl ?_
          exact J95 x1_80 x2_80 3 (-1) g80  h
      have J66 : ∀ (x1_66 : Int32) (x2_66 : Int32) (g66 : St), jX8_work_66 P a (fun g' z0 z1 => I31 g' z0 z1 ∧ μ31 g' z0 z1 < μ31 g x1 x2) K x1_66 x2_66 g66 → V p l e rmX8_work s m args below meth c 3 G (frA P sz) (MQ below (QcI G P sz K) args s 0 0 (frA P sz)) 0 0 P [(0, .ref a), (1, .int x1_66), (2, .int x2_66)] [] 66 g66 := by
        intro x1_66 x2_66 g66  h
        unfold jX8_work_66 at h
        refine v_aload_n o 0 dX8_work_66 rfl ?_
        refine v_gfR o lkX8_7 (by decide) (wfModel_o ha) (wfModel_r1 ha) dX8_work_67 ?_
        refine v_iconst o (v := 2) dX8_work_70 (by decide) ?_
        refine v_iload_n o 2 dX8_work_71 rfl ?_
        refine v_if_ne o (tgt := 79) dX8_work_72 (by decide) (fun c72 => ?_) (fun c72 => ?_)
        · replace h := h.1 c72
          refine v_iload_n o 1 dX8_work_79 rfl ?_
          refine v_sub [0, 1, 2] (lv2 := [(0, .ref a), (1, .int x1_66), (2, .int x2_66)]) rfl ?_
          exact J80 x1_66 x2_66 2 x1_66 g66  h
        · replace h := h.2 c72
          refine v_iconst o (v := (-1)) dX8_work_75 (by decide) ?_
          refine v_goto o (tgt := 80) dX8_work_76 (by decide) ?_
          refine v_sub [0, 1, 2] (lv2 := [(0, .ref a), (1, .int x1_66), (2, .int x2_66)]) rfl ?_
          exact J80 x1_66 x2_66 2 (-1) g66  h
      have J61 : ∀ (x1_61 : Int32) (x2_61 : Int32) (y0_61 : Int32) (y1_61 : Int32) (g61 : St), jX8_work_61 P a (fun g' z0 z1 => I31 g' z0 z1 ∧ μ31 g' z0 z1 < μ31 g x1 x2) K x1_61 x2_61 y0_61 y1_61 g61 → V p l e rmX8_work s m args below meth c 3 G (frA P sz) (MQ below (QcI G P sz K) args s 0 0 (frA P sz)) 0 0 P [(0, .ref a), (1, .int x1_61), (2, .int x2_61)] [.int y1_61, .int y0_61] 61 g61 := by
        intro x1_61 x2_61 y0_61 y1_61 g61  h
        unfold jX8_work_61 at h
        refine v_iadd o dX8_work_61 ?_
        refine v_topi (fun x1_62 ex1_62 => ?_)
        replace h := h x1_62 ex1_62
        refine v_istore_n o (lv' := [(1, .int x1_62), (0, .ref a), (2, .int x2_61)]) dX8_work_62 rfl (by decide) rfl ?_
        refine v_goto o (tgt := 31) dX8_work_63 (by decide) ?_
        refine v_sub [1, 0, 2] (lv2 := [(0, .ref a), (1, .int x1_62), (2, .int x2_61)]) rfl ?_
        exact ih g61 x1_62 x2_61  h.1 (by have := h.2; omega)
      unfold bX8_work_31 at h
      refine v_iload_n o 1 dX8_work_31 rfl ?_
      refine v_aload_n o 0 dX8_work_32 rfl ?_
      refine v_gfI o lkX8_168 (by decide) (wfModel_o ha) dX8_work_33 ?_
      refine v_icmp_ge o (tgt := 66) dX8_work_36 (by decide) (fun c36 => ?_) (fun c36 => ?_)
      · replace h := h.1 c36
        refine v_sub [0, 1, 2] (lv2 := [(0, .ref a), (1, .int x1), (2, .int x2)]) rfl ?_
        exact J66 x1 x2 g  h
      · replace h := h.2 c36
        refine v_iload_n o 2 dX8_work_39 rfl ?_
        refine v_if_ne o (tgt := 66) dX8_work_40 (by decide) (fun c40 => ?_) (fun c40 => ?_)
        · replace h := h.1 c40
          refine v_sub [0, 1, 2] (lv2 := [(0, .ref a), (1, .int x1), (2, .int x2)]) rfl ?_
          exact J66 x1 x2 g  h
        · replace h := h.2 c40
          refine v_aload_n o 0 dX8_work_43 rfl ?_
          refine v_iconst o (v := 4) dX8_work_44 (by decide) ?_
          refine v_iload_n o 1 dX8_work_45 rfl ?_
          refine v_imul o dX8_work_46 ?_
          refine v_cVi o [.int (4 * x1)] [] (fun sz => metX8_does l G P g sz a ha (4 * x1) _ h) (cwX8_180 o.1.2.2.2.2 (by decide)) ⟨_, _, rfl⟩ (by decide) (wfModel_o ha) rfl (Nat.le_of_ble_eq_true rfl) ⟨Nat.le_of_ble_eq_true rfl, Nat.le_of_ble_eq_true rfl⟩ dX8_work_47 rfl (fun r47 g47 h => ?_)
          refine v_istore_n o (lv' := [(2, .int r47), (0, .ref a), (1, .int x1)]) dX8_work_50 rfl (by decide) rfl ?_
          refine v_iload_n o 2 dX8_work_51 rfl ?_
          refine v_iload_n o 0 dX8_work_52 rfl ?_
          refine v_if_ne o (tgt := 60) dX8_work_53 (by decide) (fun c53 => ?_) (fun c53 => ?_)
          · replace h := h.1 c53
            refine v_iconst o (v := 0) dX8_work_60 (by decide) ?_
            refine v_sub [1, 2, 0] (lv2 := [(0, .ref a), (1, .int x1), (2, .int r47)]) rfl ?_
            exact J61 x1 r47 x1 0 g47  h
          · replace h := h.2 c53
            refine v_iconst o (v := 1) dX8_work_56 (by decide) ?_
            refine v_goto o (tgt := 61) dX8_work_57 (by decide) ?_
            refine v_sub [1, 2, 0] (lv2 := [(0, .ref a), (1, .int x1), (2, .int r47)]) rfl ?_
            exact J61 x1 r47 x1 1 g47  h
  unfold vX8_work at h
  refine v_aload_n o 0 dX8_work_0 rfl ?_
  refine v_iconst o (v := 0) dX8_work_1 (by decide) ?_
  refine v_pf o lpX8_40 (wfModel_o ha) ⟨rfl, rfl⟩ dX8_work_2 ?_
  refine v_nmf (fun g2 eg2 => ?_)
  replace h := h g2 eg2
  refine v_aload_n o 0 dX8_work_5 rfl ?_
  refine v_cVi o [] [] (fun sz => metX8_readsWorks l G P g2 sz a ha _ h) (cwX8_174 o.1.2.2.2.2 (by decide)) ⟨_, _, rfl⟩ (by decide) (wfModel_o ha) rfl (Nat.le_of_ble_eq_true rfl) ⟨Nat.le_of_ble_eq_true rfl, Nat.le_of_ble_eq_true rfl⟩ dX8_work_6 rfl (fun r6 g6 h => ?_)
  refine v_if_ne o (tgt := 18) dX8_work_9 (by decide) (fun c9 => ?_) (fun c9 => ?_)
  · replace h := h.1 c9
    refine v_aload_n o 0 dX8_work_18 rfl ?_
    refine v_cVv o [] [] (fun sz => metX8_records l G P g6 sz a ha _ h) (cwX8_127 o.1.2.2.2.2 (by decide)) ⟨_, _, rfl⟩ (by decide) (wfModel_o ha) rfl (Nat.le_of_ble_eq_true rfl) ⟨Nat.le_of_ble_eq_true rfl, Nat.le_of_ble_eq_true rfl⟩ dX8_work_19 rfl (fun g19 h => ?_)
    refine v_aload_n o 0 dX8_work_22 rfl ?_
    refine v_iconst o (v := 0) dX8_work_23 (by decide) ?_
    refine v_pf o lpX8_133 (wfModel_o ha) ⟨rfl, rfl⟩ dX8_work_24 ?_
    refine v_nmf (fun g24 eg24 => ?_)
    replace h := h g24 eg24
    refine v_iconst o (v := 0) dX8_work_27 (by decide) ?_
    refine v_istore_n o (lv' := [(1, .int 0), (0, .ref a)]) dX8_work_28 rfl (by decide) rfl ?_
    refine v_iconst o (v := 0) dX8_work_29 (by decide) ?_
    refine v_istore_n o (lv' := [(2, .int 0), (1, .int 0), (0, .ref a)]) dX8_work_30 rfl (by decide) rfl ?_
    refine v_sub [2, 1, 0] (lv2 := [(0, .ref a), (1, .int 0), (2, .int 0)]) rfl ?_
    exact (main (μ31 g24 0 0 + 1)) g24 0 0  h (Nat.lt_succ_self _)
  · replace h := h.2 c9
    refine v_aload_n o 0 dX8_work_12 rfl ?_
    refine v_iconst o (v := 1) dX8_work_13 (by decide) ?_
    refine v_cVi o [.int 1] [] (fun sz => metX8_fails l G P g6 sz a ha 1 _ h) (cwX8_123 o.1.2.2.2.2 (by decide)) ⟨_, _, rfl⟩ (by decide) (wfModel_o ha) rfl (Nat.le_of_ble_eq_true rfl) ⟨Nat.le_of_ble_eq_true rfl, Nat.le_of_ble_eq_true rfl⟩ dX8_work_14 rfl (fun r14 g14 h => ?_)
    exact v_iret o rfl hr dX8_work_17 h
def WX8_work (P : Sk) (f : St) (a : Nat) (K : Int32 → St → Prop) : Prop := ∃ (I31 : St → Int32 → Int32 → Prop) (μ31 : St → Int32 → Int32 → Nat), (vX8_work P f a I31 K) ∧ (∀ (g : St) (x1 : Int32) (x2 : Int32) , I31 g x1 x2 → bX8_work_31 P a (fun g' z0 z1 => I31 g' z0 z1 ∧ μ31 g' z0 z1 < μ31 g x1 x2) K g x1 x2)
def kX8_work (P : Sk) (f : St) (a : Nat) (K : Int32 → St → Prop) : Prop := ∃ A, MIs f a A ∧ FinM f a (opWork A) K
theorem wkF_end {b : List Nat} {s n : Nat} {bd : Bd} (h : b.length ≤ s) : ∀ fu, wkF b fu s n bd = (n, 0, bd)
  | 0 => rfl
  | fu + 1 => by
    rw [wkF, if_pos h]
theorem mi_stop {g g2 : St} {a : Nat} {bd : Bd} {hs : List Bd} {T : Option Bd × List Nat} {v w : Int32} (hM : MIs g a (bd, hs, T)) (e : g2 = setf (setf g (a + 1) 2 v) (a + 1) 3 w) : MIs g2 a ((bd.1, bd.2.1, v, w), hs, T) ∧ MF g g2 a (fun i => i = 1) (fun _ => False) := by
  have r : MF g g2 a (fun i => i = 1) (fun _ => False) := by
    rw [e]
    exact (mf_arr (A := fun i => i = 1) (i := 1) g rfl (by decide)).trans (mf_arr (i := 1) _ rfl (by decide))
  have o : ∀ j, j ≠ 2 → j ≠ 3 → g2 (a + 1) j = g (a + 1) j := fun j h1 h2 => by rw [e, setf_off (Or.inr h2), setf_off (Or.inr h1)]
  have hS := hM.1
  have hb := hM.bok
  refine ⟨mi_mk (A := (bd, hs, T)) hM (r.mono (fun i hi => by omega) (fun j hj => absurd hj id)) ⟨(o 0 (by decide) (by decide)).trans hS.1, (o 1 (by decide) (by decide)).trans hS.2.1, ?_, ?_, fun i hi => ?_⟩ hb (hM.2.1.row (r.1 (a + 2) (by omega) (fun i hi => by omega)) (r.2 3 id)) hM.hok, r⟩
  · show g2 (a + 1) 2 = v
    rw [e, setf_off (Or.inr (by decide)), setf_same]
  · show g2 (a + 1) 3 = w
    rw [e, setf_same]
  · exact (hS.2.2.2.2 i hi).far (hb.at (i := i) hi).1.2.2.1 (fun j h1 h2 => o j (by omega) (by omega))
theorem RdA.row {f g : St} {a m : Nat} {b : List Nat} (h : RdA f a m b) (e : g (a + 10) = f (a + 10)) : RdA g a m b := fun k hk => ⟨(h k hk).1.row (fun j _ => by rw [e]), (h k hk).2⟩
theorem wX8_work (P : Sk) (f : St) (a : Nat) (ha : IsModel P a) (K : Int32 → St → Prop) (h : kX8_work P f a K) : WX8_work P f a K := by
  obtain ⟨A, hM, hF⟩ := h
  have hk := hM.tok
  have hl := hk.1
  unfold opWork at hF
  refine ⟨fun g x1 x2 => stB A.2.2.2 A.2.2.2.length = 7 ∧ ∃ n r bd m, x1 = nI n ∧ x2 = nI r ∧ r < 8 ∧ n ≤ m ∧ m ≤ 20 ∧ An f g a ∧ g a 0 = 0 ∧ MIs g a (bd, svH A.2.1 A.1, A.2.2.1, []) ∧ g a 21 = nI m ∧ psB A.2.2.2 m = A.2.2.2.length + 1 ∧ RdA g a m A.2.2.2 ∧ ((r = 0 ∧ ∃ fu, 61 ≤ fu + psB A.2.2.2 n ∧ wkR A = wkF A.2.2.2 fu (psB A.2.2.2 n) n bd) ∨ (r ≠ 0 ∧ wkR A = (n, r, bd))),
    fun g x1 x2 => 100 - x1.toNatClampNeg + (if x2 = 0 then 1 else 0), ?_, ?_⟩
  · unfold vX8_work
    intro g2 e2
    obtain ⟨M, z, r0⟩ := mi_start hM e2
    refine ⟨A.2.2.2, M.txm, M.tok, fun g m r h7 k21 hm hpm hA => ?_, fun g e r h7 _ _ => ?_⟩
    · refine ⟨fun _ => ?_, fun q => absurd q (by decide)⟩
      have s : Scr g2 g a := r.mono (fun i hi => by omega) (fun j hj => by omega)
      have M1 := M.scr s
      refine ⟨A.2.1, A.1, M1.2.1, M1.hok, M1.1, M1.bok, fun g3 r3 H3 => ?_⟩
      intro g4 e4
      have M3 : MIs g3 a (A.1, svH A.2.1 A.1, A.2.2) := mi_mk M1 (r3.mono (fun i hi => by omega) (fun j hj => by omega)) (M1.1.row (r3.1 (a + 1) (by omega) (fun i hi => by omega))) M1.bok H3 (M1.hok.sv M1.bok)
      obtain ⟨M4, r4⟩ := M3.clr e4
      refine ⟨h7, 0, 0, A.1, m, rfl, rfl, by decide, Nat.zero_le _, hm, MF.trans r0 (MF.trans s.an (MF.trans (r3.an (fun i hi => by omega)) (r4.an (fun i hi => absurd hi id)))), ?_, M4, ?_, hpm, ?_, Or.inl ⟨rfl, 61, by omega, rfl⟩⟩
      · rw [r4.2 0 (by decide), r3.2 0 (by decide), s.2 0 (by omega)]
        exact z
      · rw [r4.2 21 (by decide), r3.2 21 (by decide)]
        exact k21
      · exact (hA.row (r3.1 (a + 10) (by omega) (fun i hi => by omega))).row (r4.1 (a + 10) (by omega) (fun i hi => absurd hi id))
    · refine ⟨fun q => absurd rfl q, fun _ => ?_⟩
      rw [cif_neg h7] at hF
      have s : Scr g2 g a := r.mono (fun i hi => by omega) (fun j hj => by omega)
      exact u8_fails (hF.no (M.scr s) (MF.trans r0 s.an))
  · rintro g x1 x2 ⟨h7, n, r, bd, m, rfl, rfl, hr, hn, hm, rA, z, M, k21, hpm, hA, hx⟩
    rw [cif_pos h7] at hF
    have in2 : vp_in 2 160 := vp_nI (i := 2) (by decide) (by decide)
    have in3 : vp_in 3 160 := vp_nI (i := 3) (by decide) (by decide)
    have fin : wkR A = (n, r, bd) → jX8_work_66 P a (fun g' z0 z1 => (stB A.2.2.2 A.2.2.2.length = 7 ∧ ∃ n r bd m, z0 = nI n ∧ z1 = nI r ∧ r < 8 ∧ n ≤ m ∧ m ≤ 20 ∧ An f g' a ∧ g' a 0 = 0 ∧ MIs g' a (bd, svH A.2.1 A.1, A.2.2.1, []) ∧ g' a 21 = nI m ∧ psB A.2.2.2 m = A.2.2.2.length + 1 ∧ RdA g' a m A.2.2.2 ∧ ((r = 0 ∧ ∃ fu, 61 ≤ fu + psB A.2.2.2 n ∧ wkR A = wkF A.2.2.2 fu (psB A.2.2.2 n) n bd) ∨ (r ≠ 0 ∧ wkR A = (n, r, bd)))) ∧ 100 - z0.toNatClampNeg + (if z1 = 0 then 1 else 0) < 100 - (nI n).toNatClampNeg + (if nI r = 0 then 1 else 0)) K (nI n) (nI r) g := by
      intro e
      rw [e] at hF
      unfold jX8_work_66 jX8_work_80 jX8_work_95
      rw [show (0 : Int32) = nI 0 from rfl, nI_eq (by omega) (by omega)]
      have cl2 : (2 : Int32).toNatClampNeg = 2 := by decide
      have cl3 : (3 : Int32).toNatClampNeg = 3 := by decide
      rw [cl2, cl3]
      have done : ∀ v w g2 g3, g2 = setf g (a + 1) 2 v → g3 = setf g2 (a + 1) 3 w → v = (if r = 0 then -1 else nI n) → w = (if r = 0 then -1 else nI r) → K (nI n) g3 := by
        intro v w g2 g3 e2 e3 ev ew
        rw [e2] at e3
        obtain ⟨M3, r3⟩ := mi_stop M e3
        rw [ev, ew] at M3
        refine hF.ok M3 ?_ (MF.trans rA (r3.an (fun i hi => by omega)))
        rw [r3.2 0 id]
        exact z
      refine ⟨fun c => ⟨in2, fun g2 e2 => ⟨fun _ => ⟨in3, fun g3 e3 => done _ _ g2 g3 e2 e3 ?_ ?_⟩, fun q => absurd q c⟩⟩, fun c => ⟨in2, fun g2 e2 => ⟨fun q => absurd c q, fun _ => ⟨in3, fun g3 e3 => done _ _ g2 g3 e2 e3 ?_ ?_⟩⟩⟩⟩
      · rw [if_neg c]
      · rw [if_neg c]
      · rw [if_pos c]
      · rw [if_pos c]
    unfold bX8_work_31
    rw [k21, nI_leI (by omega) (by omega)]
    refine ⟨fun q => fin ?_, fun q => ⟨fun q2 => fin ?_, fun q2 => ?_⟩⟩
    · rcases hx with ⟨e0, fu, hfu, e⟩ | ⟨_, e⟩
      · have en : n = m := by omega
        rw [e, en, hpm, wkF_end (by omega), e0]
      · exact e
    · rcases hx with ⟨e0, fu, hfu, e⟩ | ⟨_, e⟩
      · rw [e0] at q2
        exact absurd rfl q2
      · exact e
    · rcases hx with ⟨e0, fu, hfu, e⟩ | ⟨c0, _⟩
      · obtain ⟨hE, hs0, hsl⟩ := hA n (by omega)
        have hP := partT h7 hsl hs0
        have hR8 := prR_lt bd A.2.2.2 (psB A.2.2.2 n)
        obtain ⟨fu2, rfl⟩ : ∃ fu2, fu = fu2 + 1 := ⟨fu - 1, by omega⟩
        rw [wkF, if_neg (by omega)] at e
        rw [show (4 : Int32) = nI 4 from rfl, nI_mul]
        refine u8_does (bd := bd) M.1 M.bok hE hP hk (by omega) (fun g2 r2 hy hno => ?_)
        have rA2 : An f g2 a := MF.trans rA (r2.an (fun i hi => by omega))
        have z2 : g2 a 0 = 0 := by
          rw [r2.2 0 (by omega)]
          exact z
        have k212 : g2 a 21 = nI m := by
          rw [r2.2 21 (by omega)]
          exact k21
        have hA2 := hA.row (r2.1 (a + 10) (by omega) (fun i hi => by omega))
        have mk : ∀ bd2, Bok bd2 → StM g2 (a + 1) 0 bd2 → MIs g2 a (bd2, svH A.2.1 A.1, A.2.2.1, []) := fun bd2 hb2 S2 => mi_mk (A := (bd, svH A.2.1 A.1, A.2.2.1, [])) M (r2.mono (fun i hi => by omega) (fun j hj => by omega)) S2 hb2 (M.2.1.row (r2.1 (a + 2) (by omega) (fun i hi => by omega)) (r2.2 3 (by omega))) M.hok
        unfold jX8_work_61
        have E0 : nI (prR bd A.2.2.2 (psB A.2.2.2 n)).1 = nI 0 ↔ (prR bd A.2.2.2 (psB A.2.2.2 n)).1 = 0 := nI_eq (by omega) (by decide)
        refine ⟨fun c1 y ey => ?_, fun c1 y ey => ?_⟩
        · have c : (prR bd A.2.2.2 (psB A.2.2.2 n)).1 ≠ 0 := fun h => c1 (E0.mpr h)
          rw [if_neg c] at e
          rw [Int32.add_zero] at ey
          refine ⟨⟨h7, n, (prR bd A.2.2.2 (psB A.2.2.2 n)).1, bd, m, ey, rfl, hR8, hn, hm, rA2, z2, mk bd M.bok (hno c), k212, hpm, hA2, Or.inr ⟨c, e⟩⟩, ?_⟩
          show 100 - y.toNatClampNeg + (if nI (prR bd A.2.2.2 (psB A.2.2.2 n)).1 = nI 0 then 1 else 0) < 100 - (nI n).toNatClampNeg + (if nI r = nI 0 then 1 else 0)
          rw [ey, e0, if_pos rfl, if_neg (show ¬ nI (prR bd A.2.2.2 (psB A.2.2.2 n)).1 = nI 0 from c1)]
          omega
        · have c : (prR bd A.2.2.2 (psB A.2.2.2 n)).1 = 0 := E0.mp c1
          rw [if_pos c] at e
          rw [nI_1] at ey
          refine ⟨⟨h7, n + 1, (prR bd A.2.2.2 (psB A.2.2.2 n)).1, prB bd A.2.2.2 (psB A.2.2.2 n), m, ey, rfl, hR8, by omega, hm, rA2, z2, mk _ (prB_ok M.bok c) (hy c), k212, hpm, hA2, Or.inl ⟨c, fu2, ?_, e⟩⟩, ?_⟩
          · show 61 ≤ fu2 + (psB A.2.2.2 n + psz (A.2.2.2.getD (psB A.2.2.2 n) 0) + 1)
            omega
          · show 100 - y.toNatClampNeg + (if nI (prR bd A.2.2.2 (psB A.2.2.2 n)).1 = nI 0 then 1 else 0) < 100 - (nI n).toNatClampNeg + (if nI r = nI 0 then 1 else 0)
            rw [ey, e0, c, if_pos rfl, nI_clamp (by omega), nI_clamp (by omega)]
            omega
      · exact absurd q2 (fun h => c0 ((nI_eq (by omega) (by decide)).mp h))

theorem metX8_work (l : Launch) (G : Gl) (P : Sk) (f : St) (sz : Nat) (a : Nat) (ha : IsModel P a) (K : Int32 → St → Prop) (h : kX8_work P f a K) : Met l yX8_work (wU yX8_work cX8_work 3 (some .int)) rmX8_work (PcW G P f sz [.ref a]) (QcI G P sz K) 0 0 (frA P sz) := by
  obtain ⟨I31, μ31, qh, qh31⟩ := wX8_work P f a ha K h
  exact mX8_work l G P f sz a ha K I31 μ31 qh qh31

