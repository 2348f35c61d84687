def jX8_readsPart_189 (P : Sk) (a : Nat) (K : St → Prop) (x1 : Int32) (x2 : Int32) (y1 : Int32) (y2 : Int32) (f : St) : Prop :=
  ∀ g190 : St, g190 = setf f a 21 (y1 + y2) → K g190
def jX8_readsPart_172 (P : Sk) (a : Nat) (K : St → Prop) (x1 : Int32) (x2 : Int32) (f : St) : Prop :=
  (f a 19 = 0 → jX8_readsPart_189 P a K x1 x2 (f a 21) 0 f) ∧ (¬ f a 19 = 0 → jX8_readsPart_189 P a K x1 x2 (f a 21) 1 f)
def jX8_readsPart_141 (P : Sk) (a : Nat) (K : St → Prop) (x1 : Int32) (x2 : Int32) (f : St) : Prop :=
  (¬ x2 = 106 → jX8_readsPart_172 P a K x1 x2 f) ∧ (x2 = 106 → kX8_reads P f a 47 47 (fun r152 g152 => kX8_reads P g152 a 48 53 (fun r168 g168 => vp_in (x1 + 2) 132 ∧ (∀ g171 : St, g171 = setf g168 (a + 10) (x1 + 2).toNatClampNeg r168 → jX8_readsPart_172 P a K x1 x2 g171))))
def jX8_readsPart_80 (P : Sk) (a : Nat) (K : St → Prop) (x1 : Int32) (x2 : Int32) (y1 : Int32) (y2 : Int32) (f : St) : Prop :=
  ∀ g81 : St, g81 = setf f a 18 (y1 + y2) → vp_in x1 132 ∧ (∀ g90 : St, g90 = setf g81 (a + 10) x1.toNatClampNeg x2 → kX8_reads P g90 a 48 53 (fun r103 g103 => vp_in (x1 + 1) 132 ∧ (∀ g106 : St, g106 = setf g103 (a + 10) (x1 + 1).toNatClampNeg r103 → (¬ x2 = 120 → jX8_readsPart_141 P a K x1 x2 g106) ∧ (x2 = 120 → kX8_reads P g106 a 97 102 (fun r125 g125 => vp_in (x1 + 2) 132 ∧ (∀ g128 : St, g128 = setf g125 (a + 10) (x1 + 2).toNatClampNeg r125 → kX8_readsSide P g128 a (fun r137 g137 => vp_in (x1 + 3) 132 ∧ (∀ g140 : St, g140 = setf g137 (a + 10) (x1 + 3).toNatClampNeg r137 → jX8_readsPart_141 P a K x1 x2 g140))))))))
def jX8_readsPart_60 (P : Sk) (a : Nat) (K : St → Prop) (x1 : Int32) (x2 : Int32) (y1 : Int32) (f : St) : Prop :=
  (y1 = 0 ∨ y1 = 1) ∧ (∀ g60 : St, g60 = setf f a 19 y1 → (g60 a 19 = 0 → jX8_readsPart_80 P a K x1 x2 (g60 a 18) 0 g60) ∧ (¬ g60 a 19 = 0 → jX8_readsPart_80 P a K x1 x2 (g60 a 18) 1 g60))
def jX8_readsPart_55 (P : Sk) (a : Nat) (K : St → Prop) (x1 : Int32) (x2 : Int32) (f : St) : Prop :=
  jX8_readsPart_60 P a K x1 x2 1 f
def vX8_readsPart (P : Sk) (f : St) (a : Nat) (K : St → Prop) : Prop :=
  ∀ x1_6 : Int32, x1_6 = 4 * (f a 21) → kX8_sign P f a (fun r8 g8 => (r8 = 120 → jX8_readsPart_55 P a K x1_6 r8 g8) ∧ (¬ r8 = 120 → (r8 = 109 → jX8_readsPart_55 P a K x1_6 r8 g8) ∧ (¬ r8 = 109 → (r8 = 116 → jX8_readsPart_55 P a K x1_6 r8 g8) ∧ (¬ r8 = 116 → (r8 = 114 → jX8_readsPart_55 P a K x1_6 r8 g8) ∧ (¬ r8 = 114 → (r8 = 108 → jX8_readsPart_55 P a K x1_6 r8 g8) ∧ (¬ r8 = 108 → (r8 = 106 → jX8_readsPart_55 P a K x1_6 r8 g8) ∧ (¬ r8 = 106 → (¬ r8 = 122 → jX8_readsPart_60 P a K x1_6 r8 0 g8) ∧ (r8 = 122 → jX8_readsPart_55 P a K x1_6 r8 g8))))))))
set_option maxRecDepth 20000 in
set_option maxHeartbeats 4000000 in
theorem mX8_readsPart (l : Launch) (G : Gl) (P : Sk) (f : St) (sz : Nat) (a : Nat) (ha : IsModel P a) (K : St → Prop) (h : vX8_readsPart P f a K)  :
  Met l yX8_readsPart (wU yX8_readsPart cX8_readsPart 3 none) rmX8_readsPart (PcW G P f sz [.ref a]) (QcV G P sz K) 0 0 (frA P sz) := by
  refine v_met (own := RX8) [.ref a] (by decide +kernel) rfl (Nat.le_of_ble_eq_true rfl) (fun p e s m args below meth c hsz o hr hnm => ?_)
  refine v_lv (lv2 := [(0, .ref a)]) rfl ?_
  have J189 : ∀ (x1_189 : Int32) (x2_189 : Int32) (y1_189 : Int32) (y2_189 : Int32) (g189 : St), jX8_readsPart_189 P a K x1_189 x2_189 y1_189 y2_189 g189 → V p l e rmX8_readsPart s m args below meth c 3 G (frA P sz) (MQ below (QcV G P sz K) args s 0 0 (frA P sz)) 0 0 P [(0, .ref a), (1, .int x1_189), (2, .int x2_189)] [.int y2_189, .int y1_189, .ref a] 189 g189 := by
    intro x1_189 x2_189 y1_189 y2_189 g189  h
    unfold jX8_readsPart_189 at h
    refine v_iadd o dX8_readsPart_189 ?_
    refine v_pf o lpX8_168 (wfModel_o ha) ⟨rfl, rfl⟩ dX8_readsPart_190 ?_
    refine v_nmf (fun g190 eg190 => ?_)
    replace h := h g190 eg190
    exact v_vret o rfl hr dX8_readsPart_193 h
  have J172 : ∀ (x1_172 : Int32) (x2_172 : Int32) (g172 : St), jX8_readsPart_172 P a K x1_172 x2_172 g172 → V p l e rmX8_readsPart s m args below meth c 3 G (frA P sz) (MQ below (QcV G P sz K) args s 0 0 (frA P sz)) 0 0 P [(0, .ref a), (1, .int x1_172), (2, .int x2_172)] [] 172 g172 := by
    intro x1_172 x2_172 g172  h
    unfold jX8_readsPart_172 at h
    refine v_aload_n o 0 dX8_readsPart_172 rfl ?_
    refine v_dup o dX8_readsPart_173 rfl ?_
    refine v_gfI o lkX8_168 (by decide) (wfModel_o ha) dX8_readsPart_174 ?_
    refine v_aload_n o 0 dX8_readsPart_177 rfl ?_
    refine v_gfI o lkX8_155 (by decide) (wfModel_o ha) dX8_readsPart_178 ?_
    refine v_if_eq o (tgt := 188) dX8_readsPart_181 (by decide) (fun c181 => ?_) (fun c181 => ?_)
    · replace h := h.1 c181
      refine v_iconst o (v := 0) dX8_readsPart_188 (by decide) ?_
      refine v_sub [0, 1, 2] (lv2 := [(0, .ref a), (1, .int x1_172), (2, .int x2_172)]) rfl ?_
      exact J189 x1_172 x2_172 (g172 a 21) 0 g172  h
    · replace h := h.2 c181
      refine v_iconst o (v := 1) dX8_readsPart_184 (by decide) ?_
      refine v_goto o (tgt := 189) dX8_readsPart_185 (by decide) ?_
      refine v_sub [0, 1, 2] (lv2 := [(0, .ref a), (1, .int x1_172), (2, .int x2_172)]) rfl ?_
      exact J189 x1_172 x2_172 (g172 a 21) 1 g172  h
  have J141 : ∀ (x1_141 : Int32) (x2_141 : Int32) (g141 : St), jX8_readsPart_141 P a K x1_141 x2_141 g141 → V p l e rmX8_readsPart s m args below meth c 3 G (frA P sz) (MQ below (QcV G P sz K) args s 0 0 (frA P sz)) 0 0 P [(0, .ref a), (1, .int x1_141), (2, .int x2_141)] [] 141 g141 := by
    intro x1_141 x2_141 g141  h
    unfold jX8_readsPart_141 at h
    refine v_iload_n o 2 dX8_readsPart_141 rfl ?_
    refine v_bipush o (v := 106) dX8_readsPart_142 (by decide) ?_
    refine v_icmp_ne o (tgt := 172) dX8_readsPart_144 (by decide) (fun c144 => ?_) (fun c144 => ?_)
    · replace h := h.1 c144
      refine v_sub [0, 1, 2] (lv2 := [(0, .ref a), (1, .int x1_141), (2, .int x2_141)]) rfl ?_
      exact J172 x1_141 x2_141 g141  h
    · replace h := h.2 c144
      refine v_aload_n o 0 dX8_readsPart_147 rfl ?_
      refine v_bipush o (v := 47) dX8_readsPart_148 (by decide) ?_
      refine v_bipush o (v := 47) dX8_readsPart_150 (by decide) ?_
      refine v_cVi o [.int 47, .int 47] [] (fun sz => metX8_reads l G P g141 sz a ha 47 47 _ h) (cwX8_162 o.1.2.2.2.2 (by decide)) ⟨_, _, rfl⟩ (by decide) (wfModel_o ha) rfl (Nat.le_of_ble_eq_true rfl) ⟨Nat.le_of_ble_eq_true rfl, Nat.le_of_ble_eq_true rfl⟩ dX8_readsPart_152 rfl (fun r152 g152 h => ?_)
      refine v_pop o dX8_readsPart_155 rfl ?_
      refine v_aload_n o 0 dX8_readsPart_156 rfl ?_
      refine v_gfR o lkX8_37 (by decide) (wfModel_o ha) (wfModel_r20 ha) dX8_readsPart_157 ?_
      refine v_iload_n o 1 dX8_readsPart_160 rfl ?_
      refine v_iconst o (v := 2) dX8_readsPart_161 (by decide) ?_
      refine v_iadd o dX8_readsPart_162 ?_
      refine v_aload_n o 0 dX8_readsPart_163 rfl ?_
      refine v_bipush o (v := 48) dX8_readsPart_164 (by decide) ?_
      refine v_bipush o (v := 53) dX8_readsPart_166 (by decide) ?_
      refine v_cVi o [.int 48, .int 53] [.int (x1_141 + 2), .ref (a + 10)] (fun sz => metX8_reads l G P g152 sz a ha 48 53 _ h) (cwX8_162 o.1.2.2.2.2 (by decide)) ⟨_, _, rfl⟩ (by decide) (wfModel_o ha) rfl (Nat.le_of_ble_eq_true rfl) ⟨Nat.le_of_ble_eq_true rfl, Nat.le_of_ble_eq_true rfl⟩ dX8_readsPart_168 rfl (fun r168 g168 h => ?_)
      refine v_iast o (wfModel_t20 ha) (wfModel_n20 ha) h.1 dX8_readsPart_171 ?_
      replace h := h.2
      refine v_nmf (fun g171 eg171 => ?_)
      replace h := h g171 eg171
      refine v_sub [0, 1, 2] (lv2 := [(0, .ref a), (1, .int x1_141), (2, .int x2_141)]) rfl ?_
      exact J172 x1_141 x2_141 g171  h
  have J80 : ∀ (x1_80 : Int32) (x2_80 : Int32) (y1_80 : Int32) (y2_80 : Int32) (g80 : St), jX8_readsPart_80 P a K x1_80 x2_80 y1_80 y2_80 g80 → V p l e rmX8_readsPart s m args below meth c 3 G (frA P sz) (MQ below (QcV G P sz K) args s 0 0 (frA P sz)) 0 0 P [(0, .ref a), (1, .int x1_80), (2, .int x2_80)] [.int y2_80, .int y1_80, .ref a] 80 g80 := by
    intro x1_80 x2_80 y1_80 y2_80 g80  h
    unfold jX8_readsPart_80 at h
    refine v_iadd o dX8_readsPart_80 ?_
    refine v_pf o lpX8_152 (wfModel_o ha) ⟨rfl, rfl⟩ dX8_readsPart_81 ?_
    refine v_nmf (fun g81 eg81 => ?_)
    replace h := h g81 eg81
    refine v_aload_n o 0 dX8_readsPart_84 rfl ?_
    refine v_gfR o lkX8_37 (by decide) (wfModel_o ha) (wfModel_r20 ha) dX8_readsPart_85 ?_
    refine v_iload_n o 1 dX8_readsPart_88 rfl ?_
    refine v_iload_n o 2 dX8_readsPart_89 rfl ?_
    refine v_iast o (wfModel_t20 ha) (wfModel_n20 ha) h.1 dX8_readsPart_90 ?_
    replace h := h.2
    refine v_nmf (fun g90 eg90 => ?_)
    replace h := h g90 eg90
    refine v_aload_n o 0 dX8_readsPart_91 rfl ?_
    refine v_gfR o lkX8_37 (by decide) (wfModel_o ha) (wfModel_r20 ha) dX8_readsPart_92 ?_
    refine v_iload_n o 1 dX8_readsPart_95 rfl ?_
    refine v_iconst o (v := 1) dX8_readsPart_96 (by decide) ?_
    refine v_iadd o dX8_readsPart_97 ?_
    refine v_aload_n o 0 dX8_readsPart_98 rfl ?_
    refine v_bipush o (v := 48) dX8_readsPart_99 (by decide) ?_
    refine v_bipush o (v := 53) dX8_readsPart_101 (by decide) ?_
    refine v_cVi o [.int 48, .int 53] [.int (x1_80 + 1), .ref (a + 10)] (fun sz => metX8_reads l G P g90 sz a ha 48 53 _ h) (cwX8_162 o.1.2.2.2.2 (by decide)) ⟨_, _, rfl⟩ (by decide) (wfModel_o ha) rfl (Nat.le_of_ble_eq_true rfl) ⟨Nat.le_of_ble_eq_true rfl, Nat.le_of_ble_eq_true rfl⟩ dX8_readsPart_103 rfl (fun r103 g103 h => ?_)
    refine v_iast o (wfModel_t20 ha) (wfModel_n20 ha) h.1 dX8_readsPart_106 ?_
    replace h := h.2
    refine v_nmf (fun g106 eg106 => ?_)
    replace h := h g106 eg106
    refine v_iload_n o 2 dX8_readsPart_107 rfl ?_
    refine v_bipush o (v := 120) dX8_readsPart_108 (by decide) ?_
    refine v_icmp_ne o (tgt := 141) dX8_readsPart_110 (by decide) (fun c110 => ?_) (fun c110 => ?_)
    · replace h := h.1 c110
      refine v_sub [0, 1, 2] (lv2 := [(0, .ref a), (1, .int x1_80), (2, .int x2_80)]) rfl ?_
      exact J141 x1_80 x2_80 g106  h
    · replace h := h.2 c110
      refine v_aload_n o 0 dX8_readsPart_113 rfl ?_
      refine v_gfR o lkX8_37 (by decide) (wfModel_o ha) (wfModel_r20 ha) dX8_readsPart_114 ?_
      refine v_iload_n o 1 dX8_readsPart_117 rfl ?_
      refine v_iconst o (v := 2) dX8_readsPart_118 (by decide) ?_
      refine v_iadd o dX8_readsPart_119 ?_
      refine v_aload_n o 0 dX8_readsPart_120 rfl ?_
      refine v_bipush o (v := 97) dX8_readsPart_121 (by decide) ?_
      refine v_bipush o (v := 102) dX8_readsPart_123 (by decide) ?_
      refine v_cVi o [.int 97, .int 102] [.int (x1_80 + 2), .ref (a + 10)] (fun sz => metX8_reads l G P g106 sz a ha 97 102 _ h) (cwX8_162 o.1.2.2.2.2 (by decide)) ⟨_, _, rfl⟩ (by decide) (wfModel_o ha) rfl (Nat.le_of_ble_eq_true rfl) ⟨Nat.le_of_ble_eq_true rfl, Nat.le_of_ble_eq_true rfl⟩ dX8_readsPart_125 rfl (fun r125 g125 h => ?_)
      refine v_iast o (wfModel_t20 ha) (wfModel_n20 ha) h.1 dX8_readsPart_128 ?_
      replace h := h.2
      refine v_nmf (fun g128 eg128 => ?_)
      replace h := h g128 eg128
      refine v_aload_n o 0 dX8_readsPart_129 rfl ?_
      refine v_gfR o lkX8_37 (by decide) (wfModel_o ha) (wfModel_r20 ha) dX8_readsPart_130 ?_
      refine v_iload_n o 1 dX8_readsPart_133 rfl ?_
      refine v_iconst o (v := 3) dX8_readsPart_134 (by decide) ?_
      refine v_iadd o dX8_readsPart_135 ?_
      refine v_aload_n o 0 dX8_readsPart_136 rfl ?_
      refine v_cVi o [] [.int (x1_80 + 3), .ref (a + 10)] (fun sz => metX8_readsSide l G P g128 sz a ha _ h) (cwX8_165 o.1.2.2.2.2 (by decide)) ⟨_, _, rfl⟩ (by decide) (wfModel_o ha) rfl (Nat.le_of_ble_eq_true rfl) ⟨Nat.le_of_ble_eq_true rfl, Nat.le_of_ble_eq_true rfl⟩ dX8_readsPart_137 rfl (fun r137 g137 h => ?_)
      refine v_iast o (wfModel_t20 ha) (wfModel_n20 ha) h.1 dX8_readsPart_140 ?_
      replace h := h.2
      refine v_nmf (fun g140 eg140 => ?_)
      replace h := h g140 eg140
      refine v_sub [0, 1, 2] (lv2 := [(0, .ref a), (1, .int x1_80), (2, .int x2_80)]) rfl ?_
      exact J141 x1_80 x2_80 g140  h
  have J60 : ∀ (x1_60 : Int32) (x2_60 : Int32) (y1_60 : Int32) (g60 : St), jX8_readsPart_60 P a K x1_60 x2_60 y1_60 g60 → V p l e rmX8_readsPart s m args below meth c 3 G (frA P sz) (MQ below (QcV G P sz K) args s 0 0 (frA P sz)) 0 0 P [(0, .ref a), (1, .int x1_60), (2, .int x2_60)] [.int y1_60, .ref a] 60 g60 := by
    intro x1_60 x2_60 y1_60 g60  h
    unfold jX8_readsPart_60 at h
    refine v_pf o lpX8_155 (wfModel_o ha) (bzz h.1) dX8_readsPart_60 ?_
    replace h := h.2
    refine v_nmf (fun g60 eg60 => ?_)
    replace h := h g60 eg60
    refine v_aload_n o 0 dX8_readsPart_63 rfl ?_
    refine v_dup o dX8_readsPart_64 rfl ?_
    refine v_gfI o lkX8_152 (by decide) (wfModel_o ha) dX8_readsPart_65 ?_
    refine v_aload_n o 0 dX8_readsPart_68 rfl ?_
    refine v_gfI o lkX8_155 (by decide) (wfModel_o ha) dX8_readsPart_69 ?_
    refine v_if_eq o (tgt := 79) dX8_readsPart_72 (by decide) (fun c72 => ?_) (fun c72 => ?_)
    · replace h := h.1 c72
      refine v_iconst o (v := 0) dX8_readsPart_79 (by decide) ?_
      refine v_sub [0, 1, 2] (lv2 := [(0, .ref a), (1, .int x1_60), (2, .int x2_60)]) rfl ?_
      exact J80 x1_60 x2_60 (g60 a 18) 0 g60  h
    · replace h := h.2 c72
      refine v_iconst o (v := 1) dX8_readsPart_75 (by decide) ?_
      refine v_goto o (tgt := 80) dX8_readsPart_76 (by decide) ?_
      refine v_sub [0, 1, 2] (lv2 := [(0, .ref a), (1, .int x1_60), (2, .int x2_60)]) rfl ?_
      exact J80 x1_60 x2_60 (g60 a 18) 1 g60  h
  have J55 : ∀ (x1_55 : Int32) (x2_55 : Int32) (g55 : St), jX8_readsPart_55 P a K x1_55 x2_55 g55 → V p l e rmX8_readsPart s m args below meth c 3 G (frA P sz) (MQ below (QcV G P sz K) args s 0 0 (frA P sz)) 0 0 P [(0, .ref a), (1, .int x1_55), (2, .int x2_55)] [.ref a] 55 g55 := by
    intro x1_55 x2_55 g55  h
    unfold jX8_readsPart_55 at h
    refine v_iconst o (v := 1) dX8_readsPart_55 (by decide) ?_
    refine v_goto o (tgt := 60) dX8_readsPart_56 (by decide) ?_
    refine v_sub [0, 1, 2] (lv2 := [(0, .ref a), (1, .int x1_55), (2, .int x2_55)]) rfl ?_
    exact J60 x1_55 x2_55 1 g55  h
  unfold vX8_readsPart at h
  refine v_iconst o (v := 4) dX8_readsPart_0 (by decide) ?_
  refine v_aload_n o 0 dX8_readsPart_1 rfl ?_
  refine v_gfI o lkX8_168 (by decide) (wfModel_o ha) dX8_readsPart_2 ?_
  refine v_imul o dX8_readsPart_5 ?_
  refine v_topi (fun x1_6 ex1_6 => ?_)
  replace h := h x1_6 ex1_6
  refine v_istore_n o (lv' := [(1, .int x1_6), (0, .ref a)]) dX8_readsPart_6 rfl (by decide) rfl ?_
  refine v_aload_n o 1 dX8_readsPart_7 rfl ?_
  refine v_cVi o [] [] (fun sz => metX8_sign l G P f sz a ha _ h) (cwX8_159 o.1.2.2.2.2 (by decide)) ⟨_, _, rfl⟩ (by decide) (wfModel_o ha) rfl (Nat.le_of_ble_eq_true rfl) ⟨Nat.le_of_ble_eq_true rfl, Nat.le_of_ble_eq_true rfl⟩ dX8_readsPart_8 rfl (fun r8 g8 h => ?_)
  refine v_istore_n o (lv' := [(2, .int r8), (1, .int x1_6), (0, .ref a)]) dX8_readsPart_11 rfl (by decide) rfl ?_
  refine v_aload_n o 2 dX8_readsPart_12 rfl ?_
  refine v_iload_n o 0 dX8_readsPart_13 rfl ?_
  refine v_bipush o (v := 120) dX8_readsPart_14 (by decide) ?_
  refine v_icmp_eq o (tgt := 55) dX8_readsPart_16 (by decide) (fun c16 => ?_) (fun c16 => ?_)
  · replace h := h.1 c16
    refine v_sub [2, 1, 0] (lv2 := [(0, .ref a), (1, .int x1_6), (2, .int r8)]) rfl ?_
    exact J55 x1_6 r8 g8  h
  · replace h := h.2 c16
    refine v_iload_n o 0 dX8_readsPart_19 rfl ?_
    refine v_bipush o (v := 109) dX8_readsPart_20 (by decide) ?_
    refine v_icmp_eq o (tgt := 55) dX8_readsPart_22 (by decide) (fun c22 => ?_) (fun c22 => ?_)
    · replace h := h.1 c22
      refine v_sub [2, 1, 0] (lv2 := [(0, .ref a), (1, .int x1_6), (2, .int r8)]) rfl ?_
      exact J55 x1_6 r8 g8  h
    · replace h := h.2 c22
      refine v_iload_n o 0 dX8_readsPart_25 rfl ?_
      refine v_bipush o (v := 116) dX8_readsPart_26 (by decide) ?_
      refine v_icmp_eq o (tgt := 55) dX8_readsPart_28 (by decide) (fun c28 => ?_) (fun c28 => ?_)
      · replace h := h.1 c28
        refine v_sub [2, 1, 0] (lv2 := [(0, .ref a), (1, .int x1_6), (2, .int r8)]) rfl ?_
        exact J55 x1_6 r8 g8  h
      · replace h := h.2 c28
        refine v_iload_n o 0 dX8_readsPart_31 rfl ?_
        refine v_bipush o (v := 114) dX8_readsPart_32 (by decide) ?_
        refine v_icmp_eq o (tgt := 55) dX8_readsPart_34 (by decide) (fun c34 => ?_) (fun c34 => ?_)
        · replace h := h.1 c34
          refine v_sub [2, 1, 0] (lv2 := [(0, .ref a), (1, .int x1_6), (2, .int r8)]) rfl ?_
          exact J55 x1_6 r8 g8  h
        · replace h := h.2 c34
          refine v_iload_n o 0 dX8_readsPart_37 rfl ?_
          refine v_bipush o (v := 108) dX8_readsPart_38 (by decide) ?_
          refine v_icmp_eq o (tgt := 55) dX8_readsPart_40 (by decide) (fun c40 => ?_) (fun c40 => ?_)
          · replace h := h.1 c40
            refine v_sub [2, 1, 0] (lv2 := [(0, .ref a), (1, .int x1_6), (2, .int r8)]) rfl ?_
            exact J55 x1_6 r8 g8  h
          · replace h := h.2 c40
            refine v_iload_n o 0 dX8_readsPart_43 rfl ?_
            refine v_bipush o (v := 106) dX8_readsPart_44 (by decide) ?_
            refine v_icmp_eq o (tgt := 55) dX8_readsPart_46 (by decide) (fun c46 => ?_) (fun c46 => ?_)
            · replace h := h.1 c46
              refine v_sub [2, 1, 0] (lv2 := [(0, .ref a), (1, .int x1_6), (2, .int r8)]) rfl ?_
              exact J55 x1_6 r8 g8  h
            · replace h := h.2 c46
              refine v_iload_n o 0 dX8_readsPart_49 rfl ?_
              refine v_bipush o (v := 122) dX8_readsPart_50 (by decide) ?_
              refine v_icmp_ne o (tgt := 59) dX8_readsPart_52 (by decide) (fun c52 => ?_) (fun c52 => ?_)
              · replace h := h.1 c52
                refine v_iconst o (v := 0) dX8_readsPart_59 (by decide) ?_
                refine v_sub [2, 1, 0] (lv2 := [(0, .ref a), (1, .int x1_6), (2, .int r8)]) rfl ?_
                exact J60 x1_6 r8 0 g8  h
              · replace h := h.2 c52
                refine v_sub [2, 1, 0] (lv2 := [(0, .ref a), (1, .int x1_6), (2, .int r8)]) rfl ?_
                exact J55 x1_6 r8 g8  h
abbrev kX8_readsPart := @vX8_readsPart
abbrev metX8_readsPart := @mX8_readsPart
/-- works are read: what may have changed; it has gone wrong; it goes well up to a place -/
def RdF (f g : St) (a n : Nat) : Prop := MF f g a (fun i => i = 10) (fun j => j = 18 ∨ j = 19 ∨ j = 21) ∧ ∀ j, j < 4 * n → g (a + 10) j = f (a + 10) j
def RBad (f g : St) (a n : Nat) (b : List Nat) : Prop := RdF f g a n ∧ ∃ e, g a 18 = nI e ∧ g a 19 = 0 ∧ FeW b e ∧ stB b b.length ≠ 7
def RGood (f g : St) (a n : Nat) (b : List Nat) (s : Nat) : Prop := RdF f g a n ∧ g a 18 = nI s ∧ g a 19 = 1 ∧ g a 21 = nI n ∧ s ≤ b.length ∧ ∀ j, j ≤ s → stB b j ≠ 8
/-- an entry of what is read -/
def RdE (g : St) (a n : Nat) (b : List Nat) (s : Nat) : Prop := g (a + 10) (4 * n) = nI (b.getD s 0) ∧ g (a + 10) (4 * n + 1) = nI (b.getD (s + 1) 0 - 48) ∧ (b.getD s 0 = 120 → g (a + 10) (4 * n + 2) = nI (b.getD (s + 2) 0 - 97) ∧ g (a + 10) (4 * n + 3) = nI (if b.getD (s + 3) 0 = 43 then 1 else 0)) ∧ (b.getD s 0 = 106 → g (a + 10) (4 * n + 2) = nI (b.getD (s + 3) 0 - 48))
theorem RdF.st {f g : St} {a n i : Nat} {v : Int32} (h : RdF f g a n) (hi : 4 * n ≤ i) : RdF f (setf g (a + 10) i v) a n := ⟨h.1.trans (mf_arr g rfl (by decide)), fun j hj => by rw [setf_off (Or.inr (by omega))]; exact h.2 j hj⟩
theorem RdF.rd {f g k : St} {a n : Nat} (h : RdF f g a n) (r : MF g k a (fun _ => False) (fun j => j = 18 ∨ j = 19)) : RdF f k a n := ⟨h.1.trans (r.mono (fun i hi => absurd hi id) (fun j hj => by omega)), fun j hj => by rw [r.1 (a + 10) (by omega) (fun i hi => absurd hi id)]; exact h.2 j hj⟩
theorem RdF.tx {f g : St} {a n : Nat} {b : List Nat} (h : RdF f g a n) (hT : TxM f a b) : TxM g a b := hT.keep h.1 (fun i hi => by omega) (by omega)
theorem RBad.st {f g : St} {a n i : Nat} {b : List Nat} {v : Int32} (h : RBad f g a n b) (hi : 4 * n ≤ i) : RBad f (setf g (a + 10) i v) a n b := by
  obtain ⟨h1, e, h2, h3, h4, h5⟩ := h
  exact ⟨h1.st hi, e, by rw [setf_off (Or.inl (by omega))]; exact h2, by rw [setf_off (Or.inl (by omega))]; exact h3, h4, h5⟩
theorem RGood.st {f g : St} {a n i s : Nat} {b : List Nat} {v : Int32} (h : RGood f g a n b s) (hi : 4 * n ≤ i) : RGood f (setf g (a + 10) i v) a n b s := by
  obtain ⟨h1, h2, h3, h4, h5, h6⟩ := h
  exact ⟨h1.st hi, by rw [setf_off (Or.inl (by omega))]; exact h2, by rw [setf_off (Or.inl (by omega))]; exact h3, by rw [setf_off (Or.inl (by omega))]; exact h4, h5, h6⟩
theorem bad_reads {P : Sk} {f g : St} {a n lo hi : Nat} {b : List Nat} {K : Int32 → St → Prop} (hT : TxM f a b) (hk : Tok b) (hB : RBad f g a n b) (hlo : 1 ≤ lo) (hlo2 : lo < 1000) (hhi : hi < 1000) (hK : ∀ k v, RBad f k a n b → K v k) : kX8_reads P g a (nI lo) (nI hi) K := by
  obtain ⟨h1, e, h2, h3, h4, h5⟩ := hB
  have h6 := hk.1
  have := h4.1
  exact u8_reads (wl := 0) (h1.tx hT) hk h2 (by omega) h3 (by decide) hlo hlo2 hhi (fun k r q => absurd q (by decide)) (fun k v r _ k1 k2 => hK k v ⟨h1.rd r, e, k1, k2, h4, h5⟩)
theorem bad_side {P : Sk} {f g : St} {a n : Nat} {b : List Nat} {K : Int32 → St → Prop} (hT : TxM f a b) (hk : Tok b) (hB : RBad f g a n b) (hK : ∀ k v, RBad f k a n b → K v k) : kX8_readsSide P g a K := by
  obtain ⟨h1, e, h2, h3, h4, h5⟩ := hB
  have h6 := hk.1
  have := h4.1
  exact u8_readsSide (wl := 0) (h1.tx hT) hk h2 (by omega) h3 (by decide) (fun k r q => absurd q (by decide)) (fun k v r _ k1 k2 => hK k v ⟨h1.rd r, e, k1, k2, h4, h5⟩)
theorem few_at {b : List Nat} {s : Nat} (hs : s ≤ b.length) (h8 : ∀ j, j ≤ s → stB b j ≠ 8) (hn : s < b.length → stB b (s + 1) = 8) (h7 : s = b.length → stB b s ≠ 7) : FeW b s ∧ stB b b.length ≠ 7 := by
  by_cases c : s = b.length
  · refine ⟨⟨hs, h8, Or.inl c⟩, ?_⟩
    rw [← c]
    exact h7 c
  · have h := hn (by omega)
    refine ⟨⟨hs, h8, Or.inr h⟩, ?_⟩
    have := stB_8 b (s + 1) h (b.length - (s + 1))
    rw [show s + 1 + (b.length - (s + 1)) = b.length by omega] at this
    rw [this]
    decide
theorem good_reads {P : Sk} {f g : St} {a n lo hi s : Nat} {b : List Nat} {K : Int32 → St → Prop} (hT : TxM f a b) (hk : Tok b) (hG : RGood f g a n b s) (hlo : 1 ≤ lo) (hlo2 : lo < 1000) (hhi : hi < 1000) (hy : ∀ c, lo ≤ c → c ≤ hi → stF (stB b s) c ≠ 8) (hn : ∀ c, ¬ (lo ≤ c ∧ c ≤ hi) → stF (stB b s) c = 8) (h7 : s = b.length → stB b s ≠ 7)
  (hK1 : ∀ k, RGood f k a n b (s + 1) → k (a + 10) = g (a + 10) → s < b.length → lo ≤ b.getD s 0 → b.getD s 0 ≤ hi → K (nI (b.getD s 0 - lo)) k) (hK0 : ∀ k v, RBad f k a n b → K v k) : kX8_reads P g a (nI lo) (nI hi) K := by
  obtain ⟨h1, h2, h3, h4, h5, h6⟩ := hG
  have hl := hk.1
  refine u8_reads (wl := 1) (h1.tx hT) hk h2 (by omega) h3 (by decide) hlo hlo2 hhi (fun k r _ q q1 q2 k1 k2 => ?_) (fun k v r q k1 k2 => ?_)
  · refine hK1 k ⟨h1.rd r, k1, k2, ?_, by omega, fun j hj => ?_⟩ (r.1 (a + 10) (by omega) (fun i hi => absurd hi id)) q q1 q2
    · rw [r.2 21 (by omega)]
      exact h4
    · by_cases c : j ≤ s
      · exact h6 j c
      · rw [show j = s + 1 by omega]
        exact hy _ q1 q2
  · obtain ⟨w1, w2⟩ := few_at h5 h6 (fun hs => hn _ (q rfl hs)) h7
    exact hK0 k v ⟨h1.rd r, s, k1, k2, w1, w2⟩
theorem good_side {P : Sk} {f g : St} {a n s : Nat} {b : List Nat} {K : Int32 → St → Prop} (hT : TxM f a b) (hk : Tok b) (hG : RGood f g a n b s) (h4s : stB b s = 4)
  (hK1 : ∀ k, RGood f k a n b (s + 1) → k (a + 10) = g (a + 10) → s < b.length → stB b (s + 1) = 7 → K (nI (if b.getD s 0 = 43 then 1 else 0)) k) (hK0 : ∀ k v, RBad f k a n b → K v k) : kX8_readsSide P g a K := by
  obtain ⟨h1, h2, h3, h4, h5, h6⟩ := hG
  have hl := hk.1
  have nx : stB b (s + 1) = if b.getD s 0 = 43 ∨ b.getD s 0 = 45 then 7 else 8 := by
    show stF (stB b s) (b.getD s 0) = _
    rw [h4s]
    rfl
  refine u8_readsSide (wl := 1) (h1.tx hT) hk h2 (by omega) h3 (by decide) (fun k r _ q q1 k1 k2 => ?_) (fun k v r q k1 k2 => ?_)
  · rw [if_pos q1] at nx
    refine hK1 k ⟨h1.rd r, k1, k2, ?_, by omega, fun j hj => ?_⟩ (r.1 (a + 10) (by omega) (fun i hi => absurd hi id)) q nx
    · rw [r.2 21 (by omega)]
      exact h4
    · by_cases c : j ≤ s
      · exact h6 j c
      · rw [show j = s + 1 by omega, nx]
        decide
  · obtain ⟨w1, w2⟩ := few_at h5 h6 (fun hs => by rw [nx, if_neg (q rfl hs)]) (fun _ => by rw [h4s]; decide)
    exact hK0 k v ⟨h1.rd r, s, k1, k2, w1, w2⟩
theorem st_dig {s c : Nat} {v : Nat} (h : s = 1 ∧ v = 7 ∨ s = 2 ∧ v = 3 ∨ s = 5 ∧ v = 6) : stF s c = if 48 ≤ c ∧ c ≤ 53 then v else 8 := by
  rcases h with ⟨rfl, rfl⟩ | ⟨rfl, rfl⟩ | ⟨rfl, rfl⟩ <;> rfl
theorem good_dig {P : Sk} {f g : St} {a n s v : Nat} {b : List Nat} {K : Int32 → St → Prop} (hT : TxM f a b) (hk : Tok b) (hG : RGood f g a n b s) (hs : stB b s = 1 ∧ v = 7 ∨ stB b s = 2 ∧ v = 3 ∨ stB b s = 5 ∧ v = 6)
  (hK1 : ∀ k, RGood f k a n b (s + 1) → k (a + 10) = g (a + 10) → s < b.length → stB b (s + 1) = v → K (nI (b.getD s 0 - 48)) k) (hK0 : ∀ k v, RBad f k a n b → K v k) : kX8_reads P g a 48 53 K := by
  have st : ∀ c, stF (stB b s) c = if 48 ≤ c ∧ c ≤ 53 then v else 8 := fun c => st_dig hs
  refine good_reads (lo := 48) (hi := 53) hT hk hG (by decide) (by decide) (by decide) (fun c h1 h2 => ?_) (fun c h => ?_) (fun _ => by omega) (fun k r e q q1 q2 => hK1 k r e q ?_) hK0
  · rw [st, if_pos ⟨h1, h2⟩]
    omega
  · rw [st, if_neg h]
  · show stF (stB b s) (b.getD s 0) = v
    rw [st, if_pos ⟨q1, q2⟩]
theorem u8_readsPart {P : Sk} {f : St} {a n t : Nat} {b : List Nat} {K : St → Prop} (hT : TxM f a b) (hk : Tok b) (hn : n ≤ 32) (hG : RGood f f a n b t) (h0 : stB b t = 0)
  (hY : ∀ g, RdF f g a n → g a 18 = nI (t + psz (b.getD t 0)) → g a 19 = 1 → g a 21 = nI (n + 1) → t < b.length → t + psz (b.getD t 0) ≤ b.length → stB b (t + psz (b.getD t 0)) = 7 → (∀ j, j ≤ t + psz (b.getD t 0) → stB b j ≠ 8) → RdE g a n b t → K g)
  (hN : ∀ g, RBad f g a n b → K g) : kX8_readsPart P f a K := by
  show vX8_readsPart P f a K
  unfold vX8_readsPart
  intro x1 ex1
  have hl := hk.1
  obtain ⟨hr, h18, h19, h21, hs, h8⟩ := hG
  rw [h21, show (4 : Int32) = nI 4 from rfl, nI_mul] at ex1
  subst ex1
  have x1e : nI (4 * n) + 1 = nI (4 * n + 1) := nI_1 _
  have x2e : nI (4 * n) + 2 = nI (4 * n + 2) := nI_add _ 2
  have x3e : nI (4 * n) + 3 = nI (4 * n + 3) := nI_add _ 3
  have i0 : vp_in (nI (4 * n)) 132 := vp_nI (by omega) (by decide)
  have i1 : vp_in (nI (4 * n + 1)) 132 := vp_nI (by omega) (by decide)
  have i2 : vp_in (nI (4 * n + 2)) 132 := vp_nI (by omega) (by decide)
  have i3 : vp_in (nI (4 * n + 3)) 132 := vp_nI (by omega) (by decide)
  have c0 : (nI (4 * n)).toNatClampNeg = 4 * n := nI_clamp (by omega)
  have c1 : (nI (4 * n + 1)).toNatClampNeg = 4 * n + 1 := nI_clamp (by omega)
  have c2 : (nI (4 * n + 2)).toNatClampNeg = 4 * n + 2 := nI_clamp (by omega)
  have c3 : (nI (4 * n + 3)).toNatClampNeg = 4 * n + 3 := nI_clamp (by omega)
  have F172 : ∀ x2 g, RBad f g a n b → jX8_readsPart_172 P a K (nI (4 * n)) x2 g := by
    intro x2 g hB
    unfold jX8_readsPart_172 jX8_readsPart_189
    obtain ⟨q1, e, q2, q3, q4, q5⟩ := hB
    refine ⟨fun _ g2 e2 => hN g2 ⟨⟨?_, fun j hj => ?_⟩, e, ?_, ?_, q4, q5⟩, fun q => absurd q3 q⟩
    · rw [e2]
      exact q1.1.trans (mf_fld g (Or.inr (Or.inr rfl)))
    · rw [e2, setf_off (Or.inl (by omega))]
      exact q1.2 j hj
    · rw [e2, setf_off (Or.inr (by decide))]
      exact q2
    · rw [e2, setf_off (Or.inr (by decide))]
      exact q3
  have F141 : ∀ x2 g, RBad f g a n b → jX8_readsPart_141 P a K (nI (4 * n)) x2 g := by
    intro x2 g hB
    unfold jX8_readsPart_141
    refine ⟨fun _ => F172 x2 g hB, fun _ => ?_⟩
    refine bad_reads (lo := 47) (hi := 47) hT hk hB (by decide) (by decide) (by decide) (fun g2 _ hB2 => ?_)
    refine bad_reads (lo := 48) (hi := 53) hT hk hB2 (by decide) (by decide) (by decide) (fun g3 v3 hB3 => ?_)
    rw [x2e, c2]
    exact ⟨i2, fun g4 e4 => F172 x2 g4 (by rw [e4]; exact hB3.st (by omega))⟩
  have G172 : ∀ x2 g, RGood f g a n b (t + psz (b.getD t 0)) → t < b.length → stB b (t + psz (b.getD t 0)) = 7 → RdE g a n b t → jX8_readsPart_172 P a K (nI (4 * n)) x2 g := by
    intro x2 g hGd htl h7 hE
    unfold jX8_readsPart_172 jX8_readsPart_189
    obtain ⟨q1, q2, q3, q4, q5, q6⟩ := hGd
    refine ⟨fun q => absurd (q3.symm.trans q) (by decide), fun _ g2 e2 => ?_⟩
    rw [q4, nI_1] at e2
    have o : g2 (a + 10) = g (a + 10) := by rw [e2, setf_row (by omega)]
    refine hY g2 ⟨?_, fun j hj => ?_⟩ ?_ ?_ ?_ htl q5 h7 q6 ?_
    · rw [e2]
      exact q1.1.trans (mf_fld g (Or.inr (Or.inr rfl)))
    · rw [o]
      exact q1.2 j hj
    · rw [e2, setf_off (Or.inr (by decide))]
      exact q2
    · rw [e2, setf_off (Or.inr (by decide))]
      exact q3
    · rw [e2, setf_same]
    · unfold RdE at hE ⊢
      rw [o]
      exact hE
  have no : ∀ x2, (t < b.length → stB b (t + 1) = 8) → ¬ x2 = 120 → jX8_readsPart_60 P a K (nI (4 * n)) x2 0 f := by
    intro x2 hst h120
    unfold jX8_readsPart_60 jX8_readsPart_80
    refine ⟨Or.inl rfl, fun g e => ?_⟩
    have e19 : g a 19 = 0 := by rw [e, setf_same]
    refine ⟨fun _ g2 e2 => ?_, fun q => absurd e19 q⟩
    rw [c0]
    refine ⟨i0, fun g3 e3 => ?_⟩
    obtain ⟨w1, w2⟩ := few_at hs h8 hst (fun _ => by rw [h0]; decide)
    have e18 : g a 18 = nI t := by rw [e, setf_off (Or.inr (by decide))]; exact h18
    have hB2 : RBad f g2 a n b := by
      refine ⟨⟨?_, fun j hj => ?_⟩, t, ?_, ?_, w1, w2⟩
      · rw [e2, e]
        exact (mf_fld f (Or.inr (Or.inl rfl))).trans (mf_fld _ (Or.inl rfl))
      · rw [e2, setf_off (Or.inl (by omega)), e, setf_off (Or.inl (by omega))]
      · rw [e2, setf_same, e18, Int32.add_zero]
      · rw [e2, setf_off (Or.inr (by decide))]
        exact e19
    have hB3 : RBad f g3 a n b := by
      rw [e3]
      exact hB2.st (by omega)
    refine bad_reads (lo := 48) (hi := 53) hT hk hB3 (by decide) (by decide) (by decide) (fun g4 v4 hB4 => ?_)
    rw [x1e, c1]
    refine ⟨i1, fun g5 e5 => ⟨fun _ => F141 x2 g5 (by rw [e5]; exact hB4.st (by omega)), fun q => absurd q h120⟩⟩
  refine u8_sign hT hk h18 (by omega) (fun htl => ?_) (fun htl => ?_)
  · have hc := (hk.at htl).2
    generalize ec : b.getD t 0 = c at *
    have nx : stB b (t + 1) = if c = 106 then 5 else if c = 108 ∨ c = 109 ∨ c = 114 ∨ c = 116 ∨ c = 122 then 1 else if c = 120 then 2 else 8 := by
      show stF (stB b t) (b.getD t 0) = _
      rw [h0, ec]
      rfl
    have E : ∀ k, k < 1000 → (nI c = nI k ↔ c = k) := fun k hk => nI_eq (by omega) (by omega)
    have yes : stB b (t + 1) ≠ 8 → jX8_readsPart_60 P a K (nI (4 * n)) (nI c) 1 f := by
      intro hst
      unfold jX8_readsPart_60 jX8_readsPart_80
      refine ⟨Or.inr rfl, fun g e => ?_⟩
      have e19 : g a 19 = 1 := by rw [e, setf_same]
      refine ⟨fun q => absurd (e19.symm.trans q) (by decide), fun _ g2 e2 => ?_⟩
      rw [c0]
      refine ⟨i0, fun g3 e3 => ?_⟩
      have e18 : g a 18 = nI t := by rw [e, setf_off (Or.inr (by decide))]; exact h18
      have hG2 : RGood f g2 a n b (t + 1) := by
        refine ⟨⟨?_, fun j hj => ?_⟩, ?_, ?_, ?_, by omega, fun j hj => ?_⟩
        · rw [e2, e]
          exact (mf_fld f (Or.inr (Or.inl rfl))).trans (mf_fld _ (Or.inl rfl))
        · rw [e2, setf_off (Or.inl (by omega)), e, setf_off (Or.inl (by omega))]
        · rw [e2, setf_same, e18, nI_1]
        · rw [e2, setf_off (Or.inr (by decide))]
          exact e19
        · rw [e2, setf_off (Or.inr (by decide)), e, setf_off (Or.inr (by decide))]
          exact h21
        · by_cases cj : j ≤ t
          · exact h8 j cj
          · rw [show j = t + 1 by omega]
            exact hst
      have hG3 : RGood f g3 a n b (t + 1) := by
        rw [e3]
        exact hG2.st (by omega)
      have a0 : g3 (a + 10) (4 * n) = nI c := by rw [e3, setf_same]
      by_cases k120 : c = 120
      · have s1 : stB b (t + 1) = 2 := by
          rw [nx, if_neg (by omega), if_neg (by omega), if_pos k120]
        have ep : psz c = 4 := by
          unfold psz
          rw [if_pos (Or.inl k120)]
        rw [ep] at hY G172
        have FS : ∀ g5, RBad f g5 a n b → kX8_readsSide P g5 a (fun r137 g137 => vp_in (nI (4 * n) + 3) 132 ∧ (∀ g140 : St, g140 = setf g137 (a + 10) (nI (4 * n) + 3).toNatClampNeg r137 → jX8_readsPart_141 P a K (nI (4 * n)) (nI c) g140)) := by
          intro g5 hB5
          refine bad_side hT hk hB5 (fun g6 v6 hB6 => ?_)
          rw [x3e, c3]
          exact ⟨i3, fun g7 e7 => F141 _ g7 (by rw [e7]; exact hB6.st (by omega))⟩
        refine good_dig (v := 3) hT hk hG3 (Or.inr (Or.inl ⟨s1, rfl⟩)) (fun g4 hG4 o4 l4 s4 => ?_) (fun g4 v4 hB4 => ?_)
        · rw [x1e, c1]
          refine ⟨i1, fun g5 e5 => ⟨fun q => absurd ((E 120 (by decide)).mpr k120) q, fun _ => ?_⟩⟩
          have hG5 : RGood f g5 a n b (t + 2) := by
            rw [e5]
            exact hG4.st (by omega)
          have st3 : ∀ d, stF (stB b (t + 2)) d = if 97 ≤ d ∧ d ≤ 102 then 4 else 8 := fun d => by
            rw [show stB b (t + 2) = 3 from s4]
            rfl
          refine good_reads (lo := 97) (hi := 102) hT hk hG5 (by decide) (by decide) (by decide) (fun d h1 h2 => ?_) (fun d h => ?_) (fun _ => by rw [show stB b (t + 2) = 3 from s4]; decide) (fun g6 hG6 o6 l6 p1 p2 => ?_) (fun g6 v6 hB6 => ?_)
          · rw [st3, if_pos ⟨h1, h2⟩]
            decide
          · rw [st3, if_neg h]
          · rw [x2e, c2]
            refine ⟨i2, fun g7 e7 => ?_⟩
            have hG7 : RGood f g7 a n b (t + 3) := by
              rw [e7]
              exact hG6.st (by omega)
            have s7 : stB b (t + 3) = 4 := by
              show stF (stB b (t + 2)) (b.getD (t + 2) 0) = 4
              rw [st3, if_pos ⟨p1, p2⟩]
            refine good_side hT hk hG7 s7 (fun g8 hG8 o8 l8 s8 => ?_) (fun g8 v8 hB8 => ?_)
            · rw [x3e, c3]
              refine ⟨i3, fun g9 e9 => ?_⟩
              unfold jX8_readsPart_141
              refine ⟨fun _ => G172 _ g9 (by rw [e9]; exact hG8.st (by omega)) htl s8 ⟨?_, ?_, fun _ => ⟨?_, ?_⟩, fun q => absurd (ec.symm.trans q) (by omega)⟩, fun q => absurd ((E 106 (by decide)).mp q) (by omega)⟩
              · rw [ec, e9, setf_off (Or.inr (by omega)), o8, e7, setf_off (Or.inr (by omega)), o6, e5, setf_off (Or.inr (by omega)), o4]
                exact a0
              · rw [e9, setf_off (Or.inr (by omega)), o8, e7, setf_off (Or.inr (by omega)), o6, e5, setf_same]
              · rw [e9, setf_off (Or.inr (by omega)), o8, e7, setf_same]
              · rw [e9, setf_same]
            · rw [x3e, c3]
              exact ⟨i3, fun g9 e9 => F141 _ g9 (by rw [e9]; exact hB8.st (by omega))⟩
          · rw [x2e, c2]
            exact ⟨i2, fun g7 e7 => FS g7 (by rw [e7]; exact hB6.st (by omega))⟩
        · rw [x1e, c1]
          refine ⟨i1, fun g5 e5 => ⟨fun q => absurd ((E 120 (by decide)).mpr k120) q, fun _ => ?_⟩⟩
          have hB5 : RBad f g5 a n b := by
            rw [e5]
            exact hB4.st (by omega)
          refine bad_reads (lo := 97) (hi := 102) hT hk hB5 (by decide) (by decide) (by decide) (fun g6 v6 hB6 => ?_)
          rw [x2e, c2]
          exact ⟨i2, fun g7 e7 => FS g7 (by rw [e7]; exact hB6.st (by omega))⟩
      · by_cases k106 : c = 106
        · have s1 : stB b (t + 1) = 5 := by
            rw [nx, if_pos k106]
          have ep : psz c = 4 := by
            unfold psz
            rw [if_pos (Or.inr k106)]
          rw [ep] at hY G172
          refine good_dig (v := 6) hT hk hG3 (Or.inr (Or.inr ⟨s1, rfl⟩)) (fun g4 hG4 o4 l4 s4 => ?_) (fun g4 v4 hB4 => ?_)
          · rw [x1e, c1]
            refine ⟨i1, fun g5 e5 => ⟨fun _ => ?_, fun q => absurd ((E 120 (by decide)).mp q) k120⟩⟩
            have hG5 : RGood f g5 a n b (t + 2) := by
              rw [e5]
              exact hG4.st (by omega)
            have st6 : ∀ d, stF (stB b (t + 2)) d = if d = 47 then 1 else 8 := fun d => by
              rw [show stB b (t + 2) = 6 from s4]
              rfl
            unfold jX8_readsPart_141
            refine ⟨fun q => absurd ((E 106 (by decide)).mpr k106) q, fun _ => ?_⟩
            refine good_reads (lo := 47) (hi := 47) hT hk hG5 (by decide) (by decide) (by decide) (fun d h1 h2 => ?_) (fun d h => ?_) (fun _ => by rw [show stB b (t + 2) = 6 from s4]; decide) (fun g6 hG6 o6 l6 p1 p2 => ?_) (fun g6 v6 hB6 => ?_)
            · rw [st6, if_pos (by omega)]
              decide
            · rw [st6, if_neg (by omega)]
            · have s6 : stB b (t + 3) = 1 := by
                show stF (stB b (t + 2)) (b.getD (t + 2) 0) = 1
                rw [st6, if_pos (by omega)]
              refine good_dig (v := 7) hT hk hG6 (Or.inl ⟨s6, rfl⟩) (fun g7 hG7 o7 l7 s7 => ?_) (fun g7 v7 hB7 => ?_)
              · rw [x2e, c2]
                refine ⟨i2, fun g8 e8 => G172 _ g8 (by rw [e8]; exact hG7.st (by omega)) htl s7 ⟨?_, ?_, fun q => absurd (ec.symm.trans q) k120, fun _ => ?_⟩⟩
                · rw [ec, e8, setf_off (Or.inr (by omega)), o7, o6, e5, setf_off (Or.inr (by omega)), o4]
                  exact a0
                · rw [e8, setf_off (Or.inr (by omega)), o7, o6, e5, setf_same]
                · rw [e8, setf_same]
              · rw [x2e, c2]
                exact ⟨i2, fun g8 e8 => F172 _ g8 (by rw [e8]; exact hB7.st (by omega))⟩
            · refine bad_reads (lo := 48) (hi := 53) hT hk hB6 (by decide) (by decide) (by decide) (fun g7 v7 hB7 => ?_)
              rw [x2e, c2]
              exact ⟨i2, fun g8 e8 => F172 _ g8 (by rw [e8]; exact hB7.st (by omega))⟩
          · rw [x1e, c1]
            exact ⟨i1, fun g5 e5 => ⟨fun _ => F141 _ g5 (by rw [e5]; exact hB4.st (by omega)), fun q => absurd ((E 120 (by decide)).mp q) k120⟩⟩
        · have k5 : c = 108 ∨ c = 109 ∨ c = 114 ∨ c = 116 ∨ c = 122 := by
            by_cases q : c = 108 ∨ c = 109 ∨ c = 114 ∨ c = 116 ∨ c = 122
            · exact q
            · rw [nx, if_neg k106, if_neg q, if_neg k120] at hst
              exact absurd rfl hst
          have s1 : stB b (t + 1) = 1 := by
            rw [nx, if_neg k106, if_pos k5]
          have ep : psz c = 2 := by
            unfold psz
            rw [if_neg (by omega)]
          rw [ep] at hY G172
          refine good_dig (v := 7) hT hk hG3 (Or.inl ⟨s1, rfl⟩) (fun g4 hG4 o4 l4 s4 => ?_) (fun g4 v4 hB4 => ?_)
          · rw [x1e, c1]
            refine ⟨i1, fun g5 e5 => ⟨fun _ => ?_, fun q => absurd ((E 120 (by decide)).mp q) k120⟩⟩
            unfold jX8_readsPart_141
            refine ⟨fun _ => G172 _ g5 (by rw [e5]; exact hG4.st (by omega)) htl s4 ⟨?_, ?_, fun q => absurd (ec.symm.trans q) k120, fun q => absurd (ec.symm.trans q) k106⟩, fun q => absurd ((E 106 (by decide)).mp q) k106⟩
            · rw [ec, e5, setf_off (Or.inr (by omega)), o4]
              exact a0
            · rw [e5, setf_same]
          · rw [x1e, c1]
            exact ⟨i1, fun g5 e5 => ⟨fun _ => F141 _ g5 (by rw [e5]; exact hB4.st (by omega)), fun q => absurd ((E 120 (by decide)).mp q) k120⟩⟩
    have nok : ¬ (c = 106 ∨ c = 108 ∨ c = 109 ∨ c = 114 ∨ c = 116 ∨ c = 122 ∨ c = 120) → jX8_readsPart_60 P a K (nI (4 * n)) (nI c) 0 f := by
      intro q
      refine no _ (fun _ => ?_) (fun q2 => absurd ((E 120 (by decide)).mp q2) (by omega))
      rw [nx, if_neg (by omega), if_neg (by omega), if_neg (by omega)]
    have yk : (c = 106 ∨ c = 108 ∨ c = 109 ∨ c = 114 ∨ c = 116 ∨ c = 122 ∨ c = 120) → stB b (t + 1) ≠ 8 := by
      intro q
      rw [nx]
      repeat (first | omega | split)
    unfold jX8_readsPart_55
    exact ⟨fun q => yes (yk (by have := (E 120 (by decide)).mp q; omega)), fun q1 => ⟨fun q => yes (yk (by have := (E 109 (by decide)).mp q; omega)), fun q2 => ⟨fun q => yes (yk (by have := (E 116 (by decide)).mp q; omega)), fun q3 => ⟨fun q => yes (yk (by have := (E 114 (by decide)).mp q; omega)), fun q4 => ⟨fun q => yes (yk (by have := (E 108 (by decide)).mp q; omega)), fun q5 => ⟨fun q => yes (yk (by have := (E 106 (by decide)).mp q; omega)), fun q6 => ⟨fun q7 => nok (fun h => by
      rcases h with h | h | h | h | h | h | h
      · exact q6 ((E 106 (by decide)).mpr h)
      · exact q5 ((E 108 (by decide)).mpr h)
      · exact q2 ((E 109 (by decide)).mpr h)
      · exact q4 ((E 114 (by decide)).mpr h)
      · exact q3 ((E 116 (by decide)).mpr h)
      · exact q7 ((E 122 (by decide)).mpr h)
      · exact q1 ((E 120 (by decide)).mpr h)), fun q => yes (yk (by have := (E 122 (by decide)).mp q; omega))⟩⟩⟩⟩⟩⟩⟩
  · unfold jX8_readsPart_55
    have n0 := no 0 (fun q => absurd q (by omega)) (by decide)
    exact ⟨fun q => absurd q (by decide), fun _ => ⟨fun q => absurd q (by decide), fun _ => ⟨fun q => absurd q (by decide), fun _ => ⟨fun q => absurd q (by decide), fun _ => ⟨fun q => absurd q (by decide), fun _ => ⟨fun q => absurd q (by decide), fun _ => ⟨fun _ => n0, fun q => absurd q (by decide)⟩⟩⟩⟩⟩⟩⟩

def jX8_readsWorks_60 (P : Sk) (a : Nat) (L19 : St → Prop) (K : Int32 → St → Prop) (f : St) : Prop :=
  (f a 19 = 0 ∨ f a 19 = 1) ∧ K (f a 19) f
def bX8_readsWorks_19 (P : Sk) (a : Nat) (L19 : St → Prop) (K : Int32 → St → Prop) (f : St) : Prop :=
  (f a 19 = 0 → jX8_readsWorks_60 P a L19 K  f) ∧ (¬ f a 19 = 0 → (f a 7 ≤ f a 18 → jX8_readsWorks_60 P a L19 K  f) ∧ (¬ f a 7 ≤ f a 18 → kX8_reads P f a 59 59 (fun r42 g42 => (g42 a 19 = 0 → L19 g42) ∧ (¬ g42 a 19 = 0 → kX8_readsPart P g42 a (fun g54 => L19 g54)))))
def vX8_readsWorks (P : Sk) (f : St) (a : Nat) (L19 : St → Prop) (K : Int32 → St → Prop) : Prop :=
  ∀ g2 : St, g2 = setf f a 18 0 → ∀ g7 : St, g7 = setf g2 a 21 0 → ∀ g12 : St, g12 = setf g7 a 19 1 → kX8_readsPart P g12 a (fun g16 => L19 g16)
set_option maxRecDepth 20000 in
set_option maxHeartbeats 4000000 in
theorem mX8_readsWorks (l : Launch) (G : Gl) (P : Sk) (f : St) (sz : Nat) (a : Nat) (ha : IsModel P a) (K : Int32 → St → Prop) (I19 : St → Prop) (μ19 : St → Nat) 
  (h : vX8_readsWorks P f a I19 K)
  (h19 : ∀ (g : St) , I19 g  → bX8_readsWorks_19 P a (fun g'  => I19 g'  ∧ μ19 g'  < μ19 g ) K g ) :
  Met l yX8_readsWorks (wU yX8_readsWorks cX8_readsWorks 1 (some .boolean)) rmX8_readsWorks (PcW G P f sz [.ref a]) (QcI G P sz K) 0 0 (frA P sz) := by
  refine v_met (own := RX8) [.ref a] (by decide +kernel) rfl (Nat.le_of_ble_eq_true rfl) (fun p e s m args below meth c hsz o hr hnm => ?_)
  refine v_lv (lv2 := [(0, .ref a)]) rfl ?_
  have main : ∀ n : Nat, (∀ (g : St) , I19 g  → μ19 g  < n → V p l e rmX8_readsWorks s m args below meth c 1 G (frA P sz) (MQ below (QcI G P sz K) args s 0 0 (frA P sz)) 0 0 P [(0, .ref a)] [] 19 g) := by
    intro n
    induction n with
    | zero => exact fun g  hI hm => absurd hm (Nat.not_lt_zero _)
    | succ n ih =>
      intro g  hI hm
      have h := h19 g  hI
      clear hI
      have J60 : ∀ (g60 : St), jX8_readsWorks_60 P a (fun g'  => I19 g'  ∧ μ19 g'  < μ19 g ) K  g60 → V p l e rmX8_readsWorks s m args below meth c 1 G (frA P sz) (MQ below (QcI G P sz K) args s 0 0 (frA P sz)) 0 0 P [(0, .ref a)] [] 60 g60 := by
        intro  g60  h
        unfold jX8_readsWorks_60 at h
        refine v_aload_n o 0 dX8_readsWorks_60 rfl ?_
        refine v_gfI o lkX8_155 (by decide) (wfModel_o ha) dX8_readsWorks_61 ?_
        exact v_zret o rfl hr (bzz h.1).1 dX8_readsWorks_64 h.2
      unfold bX8_readsWorks_19 at h
      refine v_aload_n o 0 dX8_readsWorks_19 rfl ?_
      refine v_gfI o lkX8_155 (by decide) (wfModel_o ha) dX8_readsWorks_20 ?_
      refine v_if_eq o (tgt := 60) dX8_readsWorks_23 (by decide) (fun c23 => ?_) (fun c23 => ?_)
      · replace h := h.1 c23
        refine v_sub [0] (lv2 := [(0, .ref a)]) rfl ?_
        exact J60  g  h
      · replace h := h.2 c23
        refine v_aload_n o 0 dX8_readsWorks_26 rfl ?_
        refine v_gfI o lkX8_152 (by decide) (wfModel_o ha) dX8_readsWorks_27 ?_
        refine v_aload_n o 0 dX8_readsWorks_30 rfl ?_
        refine v_gfI o lkX8_133 (by decide) (wfModel_o ha) dX8_readsWorks_31 ?_
        refine v_icmp_ge o (tgt := 60) dX8_readsWorks_34 (by decide) (fun c34 => ?_) (fun c34 => ?_)
        · replace h := h.1 c34
          refine v_sub [0] (lv2 := [(0, .ref a)]) rfl ?_
          exact J60  g  h
        · replace h := h.2 c34
          refine v_aload_n o 0 dX8_readsWorks_37 rfl ?_
          refine v_bipush o (v := 59) dX8_readsWorks_38 (by decide) ?_
          refine v_bipush o (v := 59) dX8_readsWorks_40 (by decide) ?_
          refine v_cVi o [.int 59, .int 59] [] (fun sz => metX8_reads l G P g sz a ha 59 59 _ h) (cwX8_162 o.1.2.2.2.2 (by decide)) ⟨_, _, rfl⟩ (by decide) (wfModel_o ha) rfl (Nat.le_of_ble_eq_true rfl) ⟨Nat.le_of_ble_eq_true rfl, Nat.le_of_ble_eq_true rfl⟩ dX8_readsWorks_42 rfl (fun r42 g42 h => ?_)
          refine v_pop o dX8_readsWorks_45 rfl ?_
          refine v_aload_n o 0 dX8_readsWorks_46 rfl ?_
          refine v_gfI o lkX8_155 (by decide) (wfModel_o ha) dX8_readsWorks_47 ?_
          refine v_if_eq o (tgt := 19) dX8_readsWorks_50 (by decide) (fun c50 => ?_) (fun c50 => ?_)
          · replace h := h.1 c50
            refine v_sub [0] (lv2 := [(0, .ref a)]) rfl ?_
            exact ih g42   h.1 (by have := h.2; omega)
          · replace h := h.2 c50
            refine v_aload_n o 0 dX8_readsWorks_53 rfl ?_
            refine v_cVv o [] [] (fun sz => metX8_readsPart l G P g42 sz a ha _ h) (cwX8_171 o.1.2.2.2.2 (by decide)) ⟨_, _, rfl⟩ (by decide) (wfModel_o ha) rfl (Nat.le_of_ble_eq_true rfl) ⟨Nat.le_of_ble_eq_true rfl, Nat.le_of_ble_eq_true rfl⟩ dX8_readsWorks_54 rfl (fun g54 h => ?_)
            refine v_goto o (tgt := 19) dX8_readsWorks_57 (by decide) ?_
            refine v_sub [0] (lv2 := [(0, .ref a)]) rfl ?_
            exact ih g54   h.1 (by have := h.2; omega)
  unfold vX8_readsWorks at h
  refine v_aload_n o 0 dX8_readsWorks_0 rfl ?_
  refine v_iconst o (v := 0) dX8_readsWorks_1 (by decide) ?_
  refine v_pf o lpX8_152 (wfModel_o ha) ⟨rfl, rfl⟩ dX8_readsWorks_2 ?_
  refine v_nmf (fun g2 eg2 => ?_)
  replace h := h g2 eg2
  refine v_aload_n o 0 dX8_readsWorks_5 rfl ?_
  refine v_iconst o (v := 0) dX8_readsWorks_6 (by decide) ?_
  refine v_pf o lpX8_168 (wfModel_o ha) ⟨rfl, rfl⟩ dX8_readsWorks_7 ?_
  refine v_nmf (fun g7 eg7 => ?_)
  replace h := h g7 eg7
  refine v_aload_n o 0 dX8_readsWorks_10 rfl ?_
  refine v_iconst o (v := 1) dX8_readsWorks_11 (by decide) ?_
  refine v_pf o lpX8_155 (wfModel_o ha) bz1 dX8_readsWorks_12 ?_
  refine v_nmf (fun g12 eg12 => ?_)
  replace h := h g12 eg12
  refine v_aload_n o 0 dX8_readsWorks_15 rfl ?_
  refine v_cVv o [] [] (fun sz => metX8_readsPart l G P g12 sz a ha _ h) (cwX8_171 o.1.2.2.2.2 (by decide)) ⟨_, _, rfl⟩ (by decide) (wfModel_o ha) rfl (Nat.le_of_ble_eq_true rfl) ⟨Nat.le_of_ble_eq_true rfl, Nat.le_of_ble_eq_true rfl⟩ dX8_readsWorks_16 rfl (fun g16 h => ?_)
  refine v_sub [0] (lv2 := [(0, .ref a)]) rfl ?_
  exact (main (μ19 g16  + 1)) g16   h (Nat.lt_succ_self _)
def WX8_readsWorks (P : Sk) (f : St) (a : Nat) (K : Int32 → St → Prop) : Prop := ∃ (I19 : St → Prop) (μ19 : St → Nat), (vX8_readsWorks P f a I19 K) ∧ (∀ (g : St) , I19 g  → bX8_readsWorks_19 P a (fun g'  => I19 g'  ∧ μ19 g'  < μ19 g ) K g)
/-- where the parts of works begin -/
def psB (b : List Nat) : Nat → Nat
  | 0 => 0
  | k + 1 => psB b k + psz (b.getD (psB b k) 0) + 1
def RdA (g : St) (a m : Nat) (b : List Nat) : Prop := ∀ k, k < m → RdE g a k b (psB b k) ∧ stB b (psB b k) = 0 ∧ psB b k < b.length
def kX8_readsWorks (P : Sk) (f : St) (a : Nat) (K : Int32 → St → Prop) : Prop := ∃ b, TxM f a b ∧ Tok b ∧ (∀ g m, MF f g a (fun i => i = 10) (fun j => 18 ≤ j ∧ j ≤ 21) → stB b b.length = 7 → g a 21 = nI m → m ≤ 20 → psB b m = b.length + 1 → RdA g a m b → K 1 g) ∧ ∀ g e, MF f g a (fun i => i = 10) (fun j => 18 ≤ j ∧ j ≤ 21) → stB b b.length ≠ 7 → FeW b e → g a 18 = nI e → K 0 g
theorem RdE.row {f g : St} {a n s : Nat} {b : List Nat} (h : RdE f a n b s) (e : ∀ j, j < 4 * n + 4 → g (a + 10) j = f (a + 10) j) : RdE g a n b s := ⟨(e _ (by omega)).trans h.1, (e _ (by omega)).trans h.2.1, fun q => ⟨(e _ (by omega)).trans (h.2.2.1 q).1, (e _ (by omega)).trans (h.2.2.1 q).2⟩, fun q => (e _ (by omega)).trans (h.2.2.2 q)⟩
theorem wX8_readsWorks (P : Sk) (f : St) (a : Nat) (ha : IsModel P a) (K : Int32 → St → Prop) (h : kX8_readsWorks P f a K) : WX8_readsWorks P f a K := by
  obtain ⟨b, hT, hk, hK1, hK0⟩ := h
  have h6 := hk.1
  have fr : ∀ g g2 n, MF f g a (fun i => i = 10) (fun j => 18 ≤ j ∧ j ≤ 21) → RdF g g2 a n → MF f g2 a (fun i => i = 10) (fun j => 18 ≤ j ∧ j ≤ 21) := fun g g2 n r r2 => r.trans (r2.1.mono (fun _ h => h) (fun j h => by omega))
  refine ⟨fun g => MF f g a (fun i => i = 10) (fun j => 18 ≤ j ∧ j ≤ 21) ∧ ((∃ e, g a 18 = nI e ∧ g a 19 = 0 ∧ FeW b e ∧ stB b b.length ≠ 7) ∨ (∃ m p, 1 ≤ m ∧ 3 * m ≤ p + 1 ∧ psB b m = p + 1 ∧ p ≤ b.length ∧ g a 18 = nI p ∧ g a 19 = 1 ∧ g a 21 = nI m ∧ stB b p = 7 ∧ (∀ j, j ≤ p → stB b j ≠ 8) ∧ RdA g a m b)), fun g => 100 * (g a 19).toNatClampNeg + (60 - (g a 18).toNatClampNeg), ?_, ?_⟩
  · unfold vX8_readsWorks
    intro g2 e2 g7 e7 g12 e12
    have r12 : MF f g12 a (fun i => i = 10) (fun j => 18 ≤ j ∧ j ≤ 21) := by
      rw [e12, e7, e2]
      exact (mf_fld f (by omega)).trans ((mf_fld _ (by omega)).trans (mf_fld _ (by omega)))
    have a18 : g12 a 18 = nI 0 := by
      rw [e12, setf_off (Or.inr (by decide)), e7, setf_off (Or.inr (by decide)), e2, setf_same]
      rfl
    have a19 : g12 a 19 = 1 := by rw [e12, setf_same]
    have a21 : g12 a 21 = nI 0 := by
      rw [e12, setf_off (Or.inr (by decide)), e7, setf_same]
      rfl
    have hT12 := hT.keep r12 (fun i hi => by omega) (by omega)
    refine u8_readsPart (n := 0) (t := 0) hT12 hk (by decide) ⟨⟨MF.refl _ _ _ _, fun _ _ => rfl⟩, a18, a19, a21, Nat.zero_le _, fun j hj => ?_⟩ rfl (fun g r k18 k19 k21 hl hp h7 h8 hE => ?_) (fun g hB => ?_)
    · rw [show j = 0 by omega]
      show (0 : Nat) ≠ 8
      decide
    · have p2 : 2 ≤ psz (b.getD 0 0) := by
        unfold psz
        split <;> omega
      rw [Nat.zero_add] at k18 hp h7 h8
      refine ⟨fr _ _ _ r12 r, Or.inr ⟨1, psz (b.getD 0 0), by decide, by omega, ?_, hp, k18, k19, k21, h7, h8, fun k hk => ?_⟩⟩
      · show 0 + psz (b.getD 0 0) + 1 = _
        omega
      · rw [show k = 0 by omega]
        exact ⟨hE, rfl, hl⟩
    · obtain ⟨r, e, k1, k2, k3, k4⟩ := hB
      exact ⟨fr _ _ _ r12 r, Or.inl ⟨e, k1, k2, k3, k4⟩⟩
  · rintro g ⟨r, hx⟩
    unfold bX8_readsWorks_19 jX8_readsWorks_60
    have hTg := hT.keep r (fun i hi => by omega) (by omega)
    rcases hx with ⟨e, k18, k19, kf, k7⟩ | ⟨m, p, hm1, hm3, hpm, hp, k18, k19, k21, h7, h8, hA⟩
    · rw [k19]
      exact ⟨fun _ => ⟨Or.inl rfl, hK0 g e r k7 kf k18⟩, fun q => absurd rfl q⟩
    · rw [k19, k18, hTg.1, nI_leI (by omega) (by omega)]
      refine ⟨fun q => absurd q (by decide), fun _ => ⟨fun q => ⟨Or.inr rfl, ?_⟩, fun q => ?_⟩⟩
      · have e : p = b.length := by omega
        rw [e] at h7 hpm
        exact hK1 g m r h7 k21 (by omega) hpm hA
      · have mu : ∀ g2 : St, g2 a 19 = 0 → 100 * (g2 a 19).toNatClampNeg + (60 - (g2 a 18).toNatClampNeg) < 100 * (g a 19).toNatClampNeg + (60 - (g a 18).toNatClampNeg) := by
          intro g2 e
          rw [e, k19, tn0, tn1]
          omega
        have st7 : ∀ d, stF (stB b p) d = if d = 59 then 0 else 8 := fun d => by
          rw [h7]
          rfl
        have bad : ∀ g2 n, RBad g g2 a n b → (MF f g2 a (fun i => i = 10) (fun j => 18 ≤ j ∧ j ≤ 21) ∧ ((∃ e, g2 a 18 = nI e ∧ g2 a 19 = 0 ∧ FeW b e ∧ stB b b.length ≠ 7) ∨ (∃ m p, 1 ≤ m ∧ 3 * m ≤ p + 1 ∧ psB b m = p + 1 ∧ p ≤ b.length ∧ g2 a 18 = nI p ∧ g2 a 19 = 1 ∧ g2 a 21 = nI m ∧ stB b p = 7 ∧ (∀ j, j ≤ p → stB b j ≠ 8) ∧ RdA g2 a m b))) ∧ 100 * (g2 a 19).toNatClampNeg + (60 - (g2 a 18).toNatClampNeg) < 100 * (g a 19).toNatClampNeg + (60 - (g a 18).toNatClampNeg) := by
          intro g2 n hB
          obtain ⟨r2, e, k1, k2, k3, k4⟩ := hB
          exact ⟨⟨fr _ _ _ r r2, Or.inl ⟨e, k1, k2, k3, k4⟩⟩, mu g2 k2⟩
        refine good_reads (n := m) (lo := 59) (hi := 59) hTg hk ⟨⟨MF.refl _ _ _ _, fun _ _ => rfl⟩, k18, k19, k21, hp, h8⟩ (by decide) (by decide) (by decide) (fun d h1 h2 => ?_) (fun d h => ?_) (fun e => absurd e (by omega)) (fun g2 hG2 o2 l2 p1 p2 => ?_) (fun g2 v2 hB2 => ?_)
        · rw [st7, if_pos (by omega)]
          decide
        · rw [st7, if_neg (by omega)]
        · have s0 : stB b (p + 1) = 0 := by
            show stF (stB b p) (b.getD p 0) = 0
            rw [st7, if_pos (by omega)]
          obtain ⟨q1, q2, q3, q4, q5, q6⟩ := hG2
          refine ⟨fun q => absurd (q3.symm.trans q) (by decide), fun _ => ?_⟩
          have r2 := fr _ _ _ r q1
          have hT2 := hT.keep r2 (fun i hi => by omega) (by omega)
          refine u8_readsPart (n := m) (t := p + 1) hT2 hk (by omega) ⟨⟨MF.refl _ _ _ _, fun _ _ => rfl⟩, q2, q3, q4, q5, q6⟩ s0 (fun g3 r3 d18 d19 d21 dl dp d7 d8 dE => ?_) (fun g3 hB3 => ?_)
          · have p2 : 2 ≤ psz (b.getD (p + 1) 0) := by
              unfold psz
              split <;> omega
            refine ⟨⟨fr _ _ _ r2 r3, Or.inr ⟨m + 1, p + 1 + psz (b.getD (p + 1) 0), by omega, by omega, ?_, dp, d18, d19, d21, d7, d8, fun k hk2 => ?_⟩⟩, ?_⟩
            · show psB b m + psz (b.getD (psB b m) 0) + 1 = _
              rw [hpm]
            · by_cases c : k = m
              · rw [c, hpm]
                exact ⟨dE, s0, dl⟩
              · obtain ⟨v1, v2, v3⟩ := hA k (by omega)
                refine ⟨v1.row (fun j hj => ?_), v2, v3⟩
                rw [r3.2 j (by omega), o2]
            · show 100 * (g3 a 19).toNatClampNeg + (60 - (g3 a 18).toNatClampNeg) < 100 * (g a 19).toNatClampNeg + (60 - (g a 18).toNatClampNeg)
              rw [d18, d19, k18, k19, nI_clamp (by omega), nI_clamp (by omega), tn1]
              omega
          · obtain ⟨r3, e, k1, k2, k3, k4⟩ := hB3
            exact ⟨⟨fr _ _ _ r2 r3, Or.inl ⟨e, k1, k2, k3, k4⟩⟩, mu g3 k2⟩
        · have hB := hB2
          obtain ⟨_, e, k1, k2, k3, k4⟩ := hB2
          exact ⟨fun _ => bad g2 m hB, fun q => absurd k2 q⟩

theorem metX8_readsWorks (l : Launch) (G : Gl) (P : Sk) (f : St) (sz : Nat) (a : Nat) (ha : IsModel P a) (K : Int32 → St → Prop) (h : kX8_readsWorks P f a K) : Met l yX8_readsWorks (wU yX8_readsWorks cX8_readsWorks 1 (some .boolean)) rmX8_readsWorks (PcW G P f sz [.ref a]) (QcI G P sz K) 0 0 (frA P sz) := by
  obtain ⟨I19, μ19, qh, qh19⟩ := wX8_readsWorks P f a ha K h
  exact mX8_readsWorks l G P f sz a ha K I19 μ19 qh qh19

def jX8_firstError_20 (P : Sk) (a : Nat) (p1 : Int32) (K : Int32 → St → Prop) (y0 : Int32) (f : St) : Prop :=
  (y0 = 0 → K (f a 18) f) ∧ (¬ y0 = 0 → K (f a 7) f)
def vX8_firstError (P : Sk) (f : St) (a : Nat) (p1 : Int32) (K : Int32 → St → Prop) : Prop :=
  ∀ g2 : St, g2 = setf f a 0 0 → (p1 = 0 → kX8_readsLoaf P g2 a (fun r17 g17 => jX8_firstError_20 P a p1 K r17 g17)) ∧ (¬ p1 = 0 → kX8_readsWorks P g2 a (fun r10 g10 => jX8_firstError_20 P a p1 K r10 g10))
set_option maxRecDepth 20000 in
set_option maxHeartbeats 4000000 in
theorem mX8_firstError (l : Launch) (G : Gl) (P : Sk) (f : St) (sz : Nat) (a : Nat) (ha : IsModel P a) (p1 : Int32) (K : Int32 → St → Prop) (h : vX8_firstError P f a p1 K)  :
  Met l yX8_firstError (wU yX8_firstError cX8_firstError 3 (some .int)) rmX8_firstError (PcW G P f sz [.ref a, .int p1]) (QcI G P sz K) 0 0 (frA P sz) := by
  refine v_met (own := RX8) [.ref a, .int p1] (by decide +kernel) rfl (Nat.le_of_ble_eq_true rfl) (fun p e s m args below meth c hsz o hr hnm => ?_)
  refine v_lv (lv2 := [(0, .ref a), (1, .int p1)]) rfl ?_
  have J20 : ∀ (y0_20 : Int32) (g20 : St), jX8_firstError_20 P a p1 K y0_20 g20 → V p l e rmX8_firstError s m args below meth c 3 G (frA P sz) (MQ below (QcI G P sz K) args s 0 0 (frA P sz)) 0 0 P [(0, .ref a), (1, .int p1)] [.int y0_20] 20 g20 := by
    intro y0_20 g20  h
    unfold jX8_firstError_20 at h
    refine v_istore_n o (lv' := [(2, .int y0_20), (0, .ref a), (1, .int p1)]) dX8_firstError_20 rfl (by decide) rfl ?_
    refine v_iload_n o 0 dX8_firstError_21 rfl ?_
    refine v_if_eq o (tgt := 32) dX8_firstError_22 (by decide) (fun c22 => ?_) (fun c22 => ?_)
    · replace h := h.1 c22
      refine v_aload_n o 1 dX8_firstError_32 rfl ?_
      refine v_gfI o lkX8_152 (by decide) (wfModel_o ha) dX8_firstError_33 ?_
      exact v_iret o rfl hr dX8_firstError_36 h
    · replace h := h.2 c22
      refine v_aload_n o 1 dX8_firstError_25 rfl ?_
      refine v_gfI o lkX8_133 (by decide) (wfModel_o ha) dX8_firstError_26 ?_
      refine v_goto o (tgt := 36) dX8_firstError_29 (by decide) ?_
      exact v_iret o rfl hr dX8_firstError_36 h
  unfold vX8_firstError at h
  refine v_aload_n o 0 dX8_firstError_0 rfl ?_
  refine v_iconst o (v := 0) dX8_firstError_1 (by decide) ?_
  refine v_pf o lpX8_40 (wfModel_o ha) ⟨rfl, rfl⟩ dX8_firstError_2 ?_
  refine v_nmf (fun g2 eg2 => ?_)
  replace h := h g2 eg2
  refine v_iload_n o 1 dX8_firstError_5 rfl ?_
  refine v_if_eq o (tgt := 16) dX8_firstError_6 (by decide) (fun c6 => ?_) (fun c6 => ?_)
  · replace h := h.1 c6
    refine v_aload_n o 0 dX8_firstError_16 rfl ?_
    refine v_cVi o [] [] (fun sz => metX8_readsLoaf l G P g2 sz a ha _ h) (cwX8_119 o.1.2.2.2.2 (by decide)) ⟨_, _, rfl⟩ (by decide) (wfModel_o ha) rfl (Nat.le_of_ble_eq_true rfl) ⟨Nat.le_of_ble_eq_true rfl, Nat.le_of_ble_eq_true rfl⟩ dX8_firstError_17 rfl (fun r17 g17 h => ?_)
    refine v_sub [0, 1] (lv2 := [(0, .ref a), (1, .int p1)]) rfl ?_
    exact J20 r17 g17  h
  · replace h := h.2 c6
    refine v_aload_n o 0 dX8_firstError_9 rfl ?_
    refine v_cVi o [] [] (fun sz => metX8_readsWorks l G P g2 sz a ha _ h) (cwX8_174 o.1.2.2.2.2 (by decide)) ⟨_, _, rfl⟩ (by decide) (wfModel_o ha) rfl (Nat.le_of_ble_eq_true rfl) ⟨Nat.le_of_ble_eq_true rfl, Nat.le_of_ble_eq_true rfl⟩ dX8_firstError_10 rfl (fun r10 g10 h => ?_)
    refine v_goto o (tgt := 20) dX8_firstError_13 (by decide) ?_
    refine v_sub [0, 1] (lv2 := [(0, .ref a), (1, .int p1)]) rfl ?_
    exact J20 r10 g10  h
abbrev kX8_firstError := @vX8_firstError
abbrev metX8_firstError := @mX8_firstError
theorem FeL_all {b : List Nat} (h : LoafT b) : feL b = b.length := (feL_ok b).uniq ⟨Nat.le_refl _, h.2.2, Or.inl rfl⟩
theorem FeW_all {b : List Nat} (h : stB b b.length = 7) : feW b = b.length := (feW_ok b).uniq ⟨Nat.le_refl _, fun j hj => stB_ok h hj, Or.inl rfl⟩
theorem u8_firstError {P : Sk} {f : St} {a : Nat} {p : Int32} {A : Ab} {K : Int32 → St → Prop} (hM : MIs f a A) (hF : FinM f a (opFE A p) K) : kX8_firstError P f a p K := by
  show vX8_firstError P f a p K
  unfold vX8_firstError jX8_firstError_20
  intro g2 e2
  obtain ⟨M, z, r0⟩ := mi_start hM e2
  unfold opFE at hF
  refine ⟨fun q => ?_, fun q => ?_⟩
  · rw [if_pos q] at hF
    refine ⟨A.2.2.2, M.txm, M.tok, fun g s hl _ _ _ => ?_, fun g e s hl he h18 => ?_⟩
    · refine ⟨fun q => absurd q (by decide), fun _ => ?_⟩
      have M3 := M.scr s
      rw [M3.txm.1]
      rw [FeL_all hl] at hF
      exact hF.ok M3 (by rw [s.2 0 (by omega)]; exact z) (MF.trans r0 s.an)
    · refine ⟨fun _ => ?_, fun q => absurd rfl q⟩
      rw [h18, ← (feL_ok A.2.2.2).uniq he]
      exact hF.ok (M.scr s) (by rw [s.2 0 (by omega)]; exact z) (MF.trans r0 s.an)
  · rw [if_neg q] at hF
    have sc : ∀ g, MF g2 g a (fun i => i = 10) (fun j => 18 ≤ j ∧ j ≤ 21) → Scr g2 g a := fun g r => r.mono (fun i hi => by omega) (fun j hj => by omega)
    refine ⟨A.2.2.2, M.txm, M.tok, fun g m r h7 _ _ _ _ => ?_, fun g e r h7 he h18 => ?_⟩
    · refine ⟨fun q => absurd q (by decide), fun _ => ?_⟩
      have s := sc g r
      have M3 := M.scr s
      rw [M3.txm.1]
      rw [FeW_all h7] at hF
      exact hF.ok M3 (by rw [s.2 0 (by omega)]; exact z) (MF.trans r0 s.an)
    · refine ⟨fun _ => ?_, fun q => absurd rfl q⟩
      have s := sc g r
      rw [h18, ← (feW_ok A.2.2.2).uniq he]
      exact hF.ok (M.scr s) (by rw [s.2 0 (by omega)]; exact z) (MF.trans r0 s.an)

