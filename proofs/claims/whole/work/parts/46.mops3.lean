def vX8_append (P : Sk) (f : St) (a : Nat) (p1 : Int32) (K : Int32 → St → Prop) : Prop :=
  ∀ g2 : St, g2 = setf f a 0 0 → kX8_in P g2 p1 33 126 (fun r10 g10 => (¬ r10 = 0 → (¬ g10 a 7 = 60 → vp_in (g10 a 7) 60 ∧ (∀ g46 : St, g46 = setf g10 (a + 4) (g10 a 7).toNatClampNeg p1 → ∀ g54 : St, g54 = setf g46 a 7 ((g46 a 7) + 1) → K (g54 a 7) g54)) ∧ (g10 a 7 = 60 → kX8_fails P g10 a 2 (fun r33 g33 => K r33 g33))) ∧ (r10 = 0 → kX8_fails P g10 a 1 (fun r18 g18 => K r18 g18)))
set_option maxRecDepth 20000 in
set_option maxHeartbeats 4000000 in
theorem mX8_append (l : Launch) (G : Gl) (P : Sk) (f : St) (sz : Nat) (a : Nat) (ha : IsModel P a) (p1 : Int32) (K : Int32 → St → Prop) (h : vX8_append P f a p1 K)  :
  Met l yX8_append (wU yX8_append cX8_append 2 (some .int)) rmX8_append (PcW G P f sz [.ref a, .int p1]) (QcI G P sz K) 0 0 (frA P sz) := by
  refine v_met (own := RX8) [.ref a, .int p1] (by decide +kernel) rfl (Nat.le_of_ble_eq_true rfl) (fun p e s m args below meth c hsz o hr hnm => ?_)
  refine v_lv (lv2 := [(0, .ref a), (1, .int p1)]) rfl ?_
  unfold vX8_append at h
  refine v_aload_n o 0 dX8_append_0 rfl ?_
  refine v_iconst o (v := 0) dX8_append_1 (by decide) ?_
  refine v_pf o lpX8_40 (wfModel_o ha) ⟨rfl, rfl⟩ dX8_append_2 ?_
  refine v_nmf (fun g2 eg2 => ?_)
  replace h := h g2 eg2
  refine v_iload_n o 1 dX8_append_5 rfl ?_
  refine v_bipush o (v := 33) dX8_append_6 (by decide) ?_
  refine v_bipush o (v := 126) dX8_append_8 (by decide) ?_
  refine v_cSi o [.int p1, .int 33, .int 126] [] (fun sz => metX8_in l G P g2 sz p1 33 126 _ h) (cwX8_44 o.1.2.2.2.2 (by decide)) rfl (Nat.le_of_ble_eq_true rfl) ⟨Nat.le_of_ble_eq_true rfl, Nat.le_of_ble_eq_true rfl⟩ dX8_append_10 rfl (fun r10 g10 h => ?_)
  refine v_if_ne o (tgt := 22) dX8_append_13 (by decide) (fun c13 => ?_) (fun c13 => ?_)
  · replace h := h.1 c13
    refine v_aload_n o 0 dX8_append_22 rfl ?_
    refine v_gfI o lkX8_133 (by decide) (wfModel_o ha) dX8_append_23 ?_
    refine v_bipush o (v := 60) dX8_append_26 (by decide) ?_
    refine v_icmp_ne o (tgt := 37) dX8_append_28 (by decide) (fun c28 => ?_) (fun c28 => ?_)
    · replace h := h.1 c28
      refine v_aload_n o 0 dX8_append_37 rfl ?_
      refine v_gfR o lkX8_19 (by decide) (wfModel_o ha) (wfModel_r6 ha) dX8_append_38 ?_
      refine v_aload_n o 0 dX8_append_41 rfl ?_
      refine v_gfI o lkX8_133 (by decide) (wfModel_o ha) dX8_append_42 ?_
      refine v_iload_n o 1 dX8_append_45 rfl ?_
      refine v_iast o (wfModel_t6 ha) (wfModel_n6 ha) h.1 dX8_append_46 ?_
      replace h := h.2
      refine v_nmf (fun g46 eg46 => ?_)
      replace h := h g46 eg46
      refine v_aload_n o 0 dX8_append_47 rfl ?_
      refine v_dup o dX8_append_48 rfl ?_
      refine v_gfI o lkX8_133 (by decide) (wfModel_o ha) dX8_append_49 ?_
      refine v_iconst o (v := 1) dX8_append_52 (by decide) ?_
      refine v_iadd o dX8_append_53 ?_
      refine v_pf o lpX8_133 (wfModel_o ha) ⟨rfl, rfl⟩ dX8_append_54 ?_
      refine v_nmf (fun g54 eg54 => ?_)
      replace h := h g54 eg54
      refine v_aload_n o 0 dX8_append_57 rfl ?_
      refine v_gfI o lkX8_133 (by decide) (wfModel_o ha) dX8_append_58 ?_
      exact v_iret o rfl hr dX8_append_61 h
    · replace h := h.2 c28
      refine v_aload_n o 0 dX8_append_31 rfl ?_
      refine v_iconst o (v := 2) dX8_append_32 (by decide) ?_
      refine v_cVi o [.int 2] [] (fun sz => metX8_fails l G P g10 sz a ha 2 _ h) (cwX8_123 o.1.2.2.2.2 (by decide)) ⟨_, _, rfl⟩ (by decide) (wfModel_o ha) rfl (Nat.le_of_ble_eq_true rfl) ⟨Nat.le_of_ble_eq_true rfl, Nat.le_of_ble_eq_true rfl⟩ dX8_append_33 rfl (fun r33 g33 h => ?_)
      exact v_iret o rfl hr dX8_append_36 h
  · replace h := h.2 c13
    refine v_aload_n o 0 dX8_append_16 rfl ?_
    refine v_iconst o (v := 1) dX8_append_17 (by decide) ?_
    refine v_cVi o [.int 1] [] (fun sz => metX8_fails l G P g10 sz a ha 1 _ h) (cwX8_123 o.1.2.2.2.2 (by decide)) ⟨_, _, rfl⟩ (by decide) (wfModel_o ha) rfl (Nat.le_of_ble_eq_true rfl) ⟨Nat.le_of_ble_eq_true rfl, Nat.le_of_ble_eq_true rfl⟩ dX8_append_18 rfl (fun r18 g18 h => ?_)
    exact v_iret o rfl hr dX8_append_21 h
abbrev kX8_append := @vX8_append
abbrev metX8_append := @mX8_append
theorem in_iff {p : Int32} {lo hi : Nat} (h1 : lo ≤ hi) (h2 : hi < 2 ^ 30) : (¬ p < nI lo ∧ ¬ nI hi < p) ↔ (¬ p < 0 ∧ lo ≤ p.toNatClampNeg ∧ p.toNatClampNeg ≤ hi) := by
  by_cases c : p < 0
  · refine ⟨fun h => absurd ?_ h.1, fun h => absurd c h.1⟩
    rw [Int32.lt_iff_toInt_lt] at c ⊢
    rw [nI_toInt (by omega)]
    have h0 : (0 : Int32).toInt = 0 := by decide
    omega
  · obtain ⟨j, hj, rfl⟩ := nI_of c
    rw [nI_clamp hj, nI_ltI hj (by omega), nI_ltI (by omega) hj]
    exact ⟨fun h => ⟨c, by omega, by omega⟩, fun h => ⟨by omega, by omega⟩⟩
theorem u8_append {P : Sk} {f : St} {a : Nat} {p : Int32} {A : Ab} {K : Int32 → St → Prop} (hM : MIs f a A) (hF : FinM f a (opAppend A p) K) : kX8_append P f a p K := by
  show vX8_append P f a p K
  unfold vX8_append
  intro g2 e2
  obtain ⟨M, z, r0⟩ := mi_start hM e2
  unfold opAppend at hF
  have hk := M.tok
  have h6 := hk.1
  have hi := in_iff (p := p) (lo := 33) (hi := 126) (by decide) (by decide)
  refine u8_in (fun q1 q2 => ?_) (fun q0 => ?_)
  · have c := hi.mp ⟨q1, q2⟩
    rw [cif_pos c] at hF
    refine ⟨fun _ => ?_, fun q => absurd q (by decide)⟩
    rw [M.txm.1, show (60 : Int32) = nI 60 from rfl, nI_eq (by omega) (by omega), nI_clamp (by omega)]
    refine ⟨fun q => ?_, fun q => ?_⟩
    · rw [cif_pos (by omega)] at hF
      refine ⟨vp_nI (by omega) (by decide), fun g3 e3 g4 e4 => ?_⟩
      have h7 : g3 a 7 = nI A.2.2.2.length := by rw [e3, setf_off (Or.inl (by omega)), M.txm.1]
      rw [h7, nI_1] at e4
      have r4 : MF g2 g4 a (fun i => i = 4) (fun j => j = 7) := by
        rw [e4, e3]
        exact (mf_arr (A := fun i => i = 4) (i := 4) g2 rfl (by decide)).trans (mf_fld _ rfl)
      have e5 : g4 a 7 = nI (A.2.2.2.length + 1) := by rw [e4, setf_same]
      rw [e5]
      have hl : (A.2.2.2 ++ [p.toNatClampNeg]).length = A.2.2.2.length + 1 := by
        rw [List.length_append]
        rfl
      refine hF.ok ⟨M.1.row (r4.1 (a + 1) (by omega) (fun i hi => by omega)), M.2.1.row (r4.1 (a + 2) (by omega) (fun i hi => by omega)) (r4.2 3 (by decide)), M.2.2.1.keep (r4.1 (a + 3) (by omega) (fun i hi => by omega)) (r4.2 5 (by decide)), ⟨?_, fun i hi => ?_⟩, hk.snoc (by omega) c.2.1 c.2.2, M.bok, M.hok⟩ ?_ (MF.trans r0 (r4.an (fun i hi => by omega)))
      · rw [e5, ← hl]
      · have hi2 : i < A.2.2.2.length + 1 := by
          rw [← hl]
          exact hi
        rw [e4, setf_off (Or.inl (by omega)), e3]
        show setf g2 (a + 4) A.2.2.2.length p (a + 4) i = nI ((A.2.2.2 ++ [p.toNatClampNeg]).getD i 0)
        by_cases ci : i = A.2.2.2.length
        · have := getD_app2 A.2.2.2 [p.toNatClampNeg] 0
          rw [Nat.add_zero] at this
          rw [ci, setf_same, this]
          exact nI_cl c.1
        · rw [setf_off (Or.inr ci), getD_app1 _ _ _ (by omega)]
          exact M.txm.2 i (by omega)
      · rw [r4.2 0 (by decide)]
        exact z
    · rw [cif_neg (by omega)] at hF
      exact u8_fails (hF.no M r0)
  · refine ⟨fun q => absurd rfl q, fun _ => ?_⟩
    have c : ¬ (¬ p < 0 ∧ 33 ≤ p.toNatClampNeg ∧ p.toNatClampNeg ≤ 126) := fun h => by
      have h4 := hi.mpr h
      rcases q0 with q0 | q0
      · exact h4.1 q0
      · exact h4.2 q0
    rw [cif_neg c] at hF
    exact u8_fails (hF.no M r0)

def vX8_clearBuffer (P : Sk) (f : St) (a : Nat) (K : Int32 → St → Prop) : Prop :=
  ∀ g2 : St, g2 = setf f a 0 0 → ∀ x1_9 : Int32, x1_9 = g2 a 7 → ∀ g12 : St, g12 = setf g2 a 7 0 → K x1_9 g12
set_option maxRecDepth 20000 in
set_option maxHeartbeats 4000000 in
theorem mX8_clearBuffer (l : Launch) (G : Gl) (P : Sk) (f : St) (sz : Nat) (a : Nat) (ha : IsModel P a) (K : Int32 → St → Prop) (h : vX8_clearBuffer P f a K)  :
  Met l yX8_clearBuffer (wU yX8_clearBuffer cX8_clearBuffer 2 (some .int)) rmX8_clearBuffer (PcW G P f sz [.ref a]) (QcI G P sz K) 0 0 (frA P sz) := by
  refine v_met (own := RX8) [.ref a] (by decide +kernel) rfl (Nat.le_of_ble_eq_true rfl) (fun p e s m args below meth c hsz o hr hnm => ?_)
  refine v_lv (lv2 := [(0, .ref a)]) rfl ?_
  unfold vX8_clearBuffer at h
  refine v_aload_n o 0 dX8_clearBuffer_0 rfl ?_
  refine v_iconst o (v := 0) dX8_clearBuffer_1 (by decide) ?_
  refine v_pf o lpX8_40 (wfModel_o ha) ⟨rfl, rfl⟩ dX8_clearBuffer_2 ?_
  refine v_nmf (fun g2 eg2 => ?_)
  replace h := h g2 eg2
  refine v_aload_n o 0 dX8_clearBuffer_5 rfl ?_
  refine v_gfI o lkX8_133 (by decide) (wfModel_o ha) dX8_clearBuffer_6 ?_
  refine v_topi (fun x1_9 ex1_9 => ?_)
  replace h := h x1_9 ex1_9
  refine v_istore_n o (lv' := [(1, .int x1_9), (0, .ref a)]) dX8_clearBuffer_9 rfl (by decide) rfl ?_
  refine v_aload_n o 1 dX8_clearBuffer_10 rfl ?_
  refine v_iconst o (v := 0) dX8_clearBuffer_11 (by decide) ?_
  refine v_pf o lpX8_133 (wfModel_o ha) ⟨rfl, rfl⟩ dX8_clearBuffer_12 ?_
  refine v_nmf (fun g12 eg12 => ?_)
  replace h := h g12 eg12
  refine v_iload_n o 0 dX8_clearBuffer_15 rfl ?_
  exact v_iret o rfl hr dX8_clearBuffer_16 h
abbrev kX8_clearBuffer := @vX8_clearBuffer
abbrev metX8_clearBuffer := @mX8_clearBuffer
theorem u8_clearBuffer {P : Sk} {f : St} {a : Nat} {A : Ab} {K : Int32 → St → Prop} (hM : MIs f a A) (hF : FinM f a (opClear A) K) : kX8_clearBuffer P f a K := by
  show vX8_clearBuffer P f a K
  unfold vX8_clearBuffer
  intro g2 e2 x ex g3 e3
  obtain ⟨M, z, r0⟩ := mi_start hM e2
  rw [M.txm.1] at ex
  rw [ex]
  unfold opClear at hF
  obtain ⟨M3, r3⟩ := M.clr e3
  refine hF.ok M3 ?_ (MF.trans r0 (r3.an (fun i hi => absurd hi id)))
  rw [r3.2 0 (by decide)]
  exact z

def vX8_stopped (P : Sk) (f : St) (a : Nat) (p1 : Int32) (K : Int32 → St → Prop) : Prop :=
  ∀ g2 : St, g2 = setf f a 0 0 → kX8_in P g2 p1 0 1 (fun r8 g8 => (r8 = 0 → kX8_fails P g8 a 1 (fun r27 g27 => K r27 g27)) ∧ (¬ r8 = 0 → vp_in (2 + p1) 160 ∧ (K (g8 (a + 1) (2 + p1).toNatClampNeg) g8)))
set_option maxRecDepth 20000 in
set_option maxHeartbeats 4000000 in
theorem mX8_stopped (l : Launch) (G : Gl) (P : Sk) (f : St) (sz : Nat) (a : Nat) (ha : IsModel P a) (p1 : Int32) (K : Int32 → St → Prop) (h : vX8_stopped P f a p1 K)  :
  Met l yX8_stopped (wU yX8_stopped cX8_stopped 2 (some .int)) rmX8_stopped (PcW G P f sz [.ref a, .int p1]) (QcI G P sz K) 0 0 (frA P sz) := by
  refine v_met (own := RX8) [.ref a, .int p1] (by decide +kernel) rfl (Nat.le_of_ble_eq_true rfl) (fun p e s m args below meth c hsz o hr hnm => ?_)
  refine v_lv (lv2 := [(0, .ref a), (1, .int p1)]) rfl ?_
  unfold vX8_stopped at h
  refine v_aload_n o 0 dX8_stopped_0 rfl ?_
  refine v_iconst o (v := 0) dX8_stopped_1 (by decide) ?_
  refine v_pf o lpX8_40 (wfModel_o ha) ⟨rfl, rfl⟩ dX8_stopped_2 ?_
  refine v_nmf (fun g2 eg2 => ?_)
  replace h := h g2 eg2
  refine v_iload_n o 1 dX8_stopped_5 rfl ?_
  refine v_iconst o (v := 0) dX8_stopped_6 (by decide) ?_
  refine v_iconst o (v := 1) dX8_stopped_7 (by decide) ?_
  refine v_cSi o [.int p1, .int 0, .int 1] [] (fun sz => metX8_in l G P g2 sz p1 0 1 _ h) (cwX8_44 o.1.2.2.2.2 (by decide)) rfl (Nat.le_of_ble_eq_true rfl) ⟨Nat.le_of_ble_eq_true rfl, Nat.le_of_ble_eq_true rfl⟩ dX8_stopped_8 rfl (fun r8 g8 h => ?_)
  refine v_if_eq o (tgt := 25) dX8_stopped_11 (by decide) (fun c11 => ?_) (fun c11 => ?_)
  · replace h := h.1 c11
    refine v_aload_n o 0 dX8_stopped_25 rfl ?_
    refine v_iconst o (v := 1) dX8_stopped_26 (by decide) ?_
    refine v_cVi o [.int 1] [] (fun sz => metX8_fails l G P g8 sz a ha 1 _ h) (cwX8_123 o.1.2.2.2.2 (by decide)) ⟨_, _, rfl⟩ (by decide) (wfModel_o ha) rfl (Nat.le_of_ble_eq_true rfl) ⟨Nat.le_of_ble_eq_true rfl, Nat.le_of_ble_eq_true rfl⟩ dX8_stopped_27 rfl (fun r27 g27 h => ?_)
    exact v_iret o rfl hr dX8_stopped_30 h
  · replace h := h.2 c11
    refine v_aload_n o 0 dX8_stopped_14 rfl ?_
    refine v_gfR o lkX8_7 (by decide) (wfModel_o ha) (wfModel_r1 ha) dX8_stopped_15 ?_
    refine v_iconst o (v := 2) dX8_stopped_18 (by decide) ?_
    refine v_iload_n o 1 dX8_stopped_19 rfl ?_
    refine v_iadd o dX8_stopped_20 ?_
    refine v_iald o (wfModel_t1 ha) (wfModel_n1 ha) h.1 dX8_stopped_21 ?_
    replace h := h.2
    refine v_goto o (tgt := 30) dX8_stopped_22 (by decide) ?_
    exact v_iret o rfl hr dX8_stopped_30 h
abbrev kX8_stopped := @vX8_stopped
abbrev metX8_stopped := @mX8_stopped
theorem u8_stopped {P : Sk} {f : St} {a : Nat} {p : Int32} {A : Ab} {K : Int32 → St → Prop} (hM : MIs f a A) (hF : FinM f a (opStopped A p) K) : kX8_stopped P f a p K := by
  show vX8_stopped P f a p K
  unfold vX8_stopped
  intro g2 e2
  obtain ⟨M, z, r0⟩ := mi_start hM e2
  unfold opStopped at hF
  have hi := lt_iff2 (p := p) (m := 1) (by decide)
  refine u8_in (fun q1 q2 => ?_) (fun q0 => ?_)
  · have c := hi.mpr ⟨q1, q2⟩
    rw [cif_pos c] at hF
    refine ⟨fun q => absurd q (by decide), fun _ => ?_⟩
    have ep := nI_cl c.1
    generalize p.toNatClampNeg = j at ep c
    rw [ep] at hF ⊢
    rw [show (2 : Int32) = nI 2 from rfl, nI_add, nI_clamp (by omega)]
    refine ⟨vp_nI (by omega) (by decide), ?_⟩
    have hj : j = 0 ∨ j = 1 := by omega
    rcases hj with rfl | rfl
    · rw [if_pos (show nI 0 = 0 from rfl)] at hF
      rw [show g2 (a + 1) (2 + 0) = A.1.2.2.1 from M.1.2.2.1]
      exact hF.ok M z r0
    · rw [if_neg (show ¬ nI 1 = 0 by decide)] at hF
      rw [show g2 (a + 1) (2 + 1) = A.1.2.2.2 from M.1.2.2.2.1]
      exact hF.ok M z r0
  · refine ⟨fun _ => ?_, fun q => absurd rfl q⟩
    have c : ¬ (¬ p < 0 ∧ p.toNatClampNeg < 2) := fun h => by
      have h4 := hi.mp h
      rcases q0 with q0 | q0
      · exact h4.1 q0
      · exact h4.2 q0
    rw [cif_neg c] at hF
    exact u8_fails (hF.no M r0)

def bX8_undo_30 (P : Sk) (a : Nat) (L30 : St → Int32 → Prop) (K : Int32 → St → Prop) (f : St) (x1 : Int32) : Prop :=
  (160 ≤ x1 → K (f a 3) f) ∧ (¬ 160 ≤ x1 → vp_in ((160 * (f a 3)) + x1) 960 ∧ (vp_in x1 160 ∧ (∀ g57 : St, g57 = setf f (a + 1) x1.toNatClampNeg (f (a + 2) ((160 * (f a 3)) + x1).toNatClampNeg) → ∀ x1_58 : Int32, x1_58 = x1 + 1 → L30 g57 x1_58)))
def vX8_undo (P : Sk) (f : St) (a : Nat) (L30 : St → Int32 → Prop) (K : Int32 → St → Prop) : Prop :=
  ∀ g2 : St, g2 = setf f a 0 0 → (¬ g2 a 3 = 0 → ∀ g25 : St, g25 = setf g2 a 3 ((g2 a 3) - 1) → L30 g25 0) ∧ (g2 a 3 = 0 → kX8_fails P g2 a 1 (fun r14 g14 => K r14 g14))
set_option maxRecDepth 20000 in
set_option maxHeartbeats 4000000 in
theorem mX8_undo (l : Launch) (G : Gl) (P : Sk) (f : St) (sz : Nat) (a : Nat) (ha : IsModel P a) (K : Int32 → St → Prop) (I30 : St → Int32 → Prop) (μ30 : St → Int32 → Nat) 
  (h : vX8_undo P f a I30 K)
  (h30 : ∀ (g : St) (x1 : Int32) , I30 g x1 → bX8_undo_30 P a (fun g' z0 => I30 g' z0 ∧ μ30 g' z0 < μ30 g x1) K g x1) :
  Met l yX8_undo (wU yX8_undo cX8_undo 2 (some .int)) rmX8_undo (PcW G P f sz [.ref a]) (QcI G P sz K) 0 0 (frA P sz) := by
  refine v_met (own := RX8) [.ref a] (by decide +kernel) rfl (Nat.le_of_ble_eq_true rfl) (fun p e s m args below meth c hsz o hr hnm => ?_)
  refine v_lv (lv2 := [(0, .ref a)]) rfl ?_
  have main : ∀ n : Nat, (∀ (g : St) (x1 : Int32) , I30 g x1 → μ30 g x1 < n → V p l e rmX8_undo s m args below meth c 2 G (frA P sz) (MQ below (QcI G P sz K) args s 0 0 (frA P sz)) 0 0 P [(0, .ref a), (1, .int x1)] [] 30 g) := by
    intro n
    induction n with
    | zero => exact fun g x1 hI hm => absurd hm (Nat.not_lt_zero _)
    | succ n ih =>
      intro g x1 hI hm
      have h := h30 g x1 hI
      clear hI
      unfold bX8_undo_30 at h
      refine v_iload_n o 1 dX8_undo_30 rfl ?_
      refine v_sipush o (v := 160) dX8_undo_31 (by decide) ?_
      refine v_icmp_ge o (tgt := 64) dX8_undo_34 (by decide) (fun c34 => ?_) (fun c34 => ?_)
      · replace h := h.1 c34
        refine v_aload_n o 0 dX8_undo_64 rfl ?_
        refine v_gfI o lkX8_48 (by decide) (wfModel_o ha) dX8_undo_65 ?_
        exact v_iret o rfl hr dX8_undo_68 h
      · replace h := h.2 c34
        refine v_aload_n o 0 dX8_undo_37 rfl ?_
        refine v_gfR o lkX8_7 (by decide) (wfModel_o ha) (wfModel_r1 ha) dX8_undo_38 ?_
        refine v_iload_n o 1 dX8_undo_41 rfl ?_
        refine v_aload_n o 0 dX8_undo_42 rfl ?_
        refine v_gfR o lkX8_13 (by decide) (wfModel_o ha) (wfModel_r2 ha) dX8_undo_43 ?_
        refine v_sipush o (v := 160) dX8_undo_46 (by decide) ?_
        refine v_aload_n o 0 dX8_undo_49 rfl ?_
        refine v_gfI o lkX8_48 (by decide) (wfModel_o ha) dX8_undo_50 ?_
        refine v_imul o dX8_undo_53 ?_
        refine v_iload_n o 1 dX8_undo_54 rfl ?_
        refine v_iadd o dX8_undo_55 ?_
        refine v_iald o (wfModel_t2 ha) (wfModel_n2 ha) h.1 dX8_undo_56 ?_
        replace h := h.2
        refine v_iast o (wfModel_t1 ha) (wfModel_n1 ha) h.1 dX8_undo_57 ?_
        replace h := h.2
        refine v_nmf (fun g57 eg57 => ?_)
        replace h := h g57 eg57
        obtain ⟨x1_58, ex1_58⟩ : ∃ y : Int32, y = x1 + 1 := ⟨_, rfl⟩
        replace h := h x1_58 ex1_58
        refine v_iinc o (v := x1_58) (lv' := [(1, .int x1_58), (0, .ref a)]) 1 dX8_undo_58 rfl (by rw [ex1_58]; rfl) (by decide) rfl ?_
        refine v_goto o (tgt := 30) dX8_undo_61 (by decide) ?_
        refine v_sub [1, 0] (lv2 := [(0, .ref a), (1, .int x1_58)]) rfl ?_
        exact ih g57 x1_58  h.1 (by have := h.2; omega)
  unfold vX8_undo at h
  refine v_aload_n o 0 dX8_undo_0 rfl ?_
  refine v_iconst o (v := 0) dX8_undo_1 (by decide) ?_
  refine v_pf o lpX8_40 (wfModel_o ha) ⟨rfl, rfl⟩ dX8_undo_2 ?_
  refine v_nmf (fun g2 eg2 => ?_)
  replace h := h g2 eg2
  refine v_aload_n o 0 dX8_undo_5 rfl ?_
  refine v_gfI o lkX8_48 (by decide) (wfModel_o ha) dX8_undo_6 ?_
  refine v_if_ne o (tgt := 18) dX8_undo_9 (by decide) (fun c9 => ?_) (fun c9 => ?_)
  · replace h := h.1 c9
    refine v_aload_n o 0 dX8_undo_18 rfl ?_
    refine v_dup o dX8_undo_19 rfl ?_
    refine v_gfI o lkX8_48 (by decide) (wfModel_o ha) dX8_undo_20 ?_
    refine v_iconst o (v := 1) dX8_undo_23 (by decide) ?_
    refine v_isub o dX8_undo_24 ?_
    refine v_pf o lpX8_48 (wfModel_o ha) ⟨rfl, rfl⟩ dX8_undo_25 ?_
    refine v_nmf (fun g25 eg25 => ?_)
    replace h := h g25 eg25
    refine v_iconst o (v := 0) dX8_undo_28 (by decide) ?_
    refine v_istore_n o (lv' := [(1, .int 0), (0, .ref a)]) dX8_undo_29 rfl (by decide) rfl ?_
    refine v_sub [1, 0] (lv2 := [(0, .ref a), (1, .int 0)]) rfl ?_
    exact (main (μ30 g25 0 + 1)) g25 0  h (Nat.lt_succ_self _)
  · replace h := h.2 c9
    refine v_aload_n o 0 dX8_undo_12 rfl ?_
    refine v_iconst o (v := 1) dX8_undo_13 (by decide) ?_
    refine v_cVi o [.int 1] [] (fun sz => metX8_fails l G P g2 sz a ha 1 _ h) (cwX8_123 o.1.2.2.2.2 (by decide)) ⟨_, _, rfl⟩ (by decide) (wfModel_o ha) rfl (Nat.le_of_ble_eq_true rfl) ⟨Nat.le_of_ble_eq_true rfl, Nat.le_of_ble_eq_true rfl⟩ dX8_undo_14 rfl (fun r14 g14 h => ?_)
    exact v_iret o rfl hr dX8_undo_17 h
def WX8_undo (P : Sk) (f : St) (a : Nat) (K : Int32 → St → Prop) : Prop := ∃ (I30 : St → Int32 → Prop) (μ30 : St → Int32 → Nat), (vX8_undo P f a I30 K) ∧ (∀ (g : St) (x1 : Int32) , I30 g x1 → bX8_undo_30 P a (fun g' z0 => I30 g' z0 ∧ μ30 g' z0 < μ30 g x1) K g x1)
def kX8_undo (P : Sk) (f : St) (a : Nat) (K : Int32 → St → Prop) : Prop := ∃ A, MIs f a A ∧ FinM f a (opUndo A) K
theorem bd_take (hs : List Bd) {k i : Nat} (h : i < k) : bdAt (hs.take k) i = bdAt hs i := by
  unfold bdAt
  rw [List.getD_eq_getElem?_getD, List.getD_eq_getElem?_getD, List.getElem?_take, if_pos h]
theorem wX8_undo (P : Sk) (f : St) (a : Nat) (ha : IsModel P a) (K : Int32 → St → Prop) (h : kX8_undo P f a K) : WX8_undo P f a K := by
  obtain ⟨A, hM, hF⟩ := h
  have h6 := hM.hok.1
  unfold opUndo at hF
  refine ⟨fun g x => ∃ k, x = nI k ∧ k ≤ 160 ∧ A.2.1.length ≠ 0 ∧ MF f g a (fun i => i = 1) (fun j => j = 0 ∨ j = 3) ∧ g a 0 = 0 ∧ g a 3 = nI (A.2.1.length - 1) ∧ ∀ j, j < k → g (a + 1) j = f (a + 2) (160 * (A.2.1.length - 1) + j), fun g x => 160 - x.toNatClampNeg, ?_, ?_⟩
  · unfold vX8_undo
    intro g2 e2
    obtain ⟨M, z, r0⟩ := mi_start hM e2
    rw [M.2.1.1, show (0 : Int32) = nI 0 from rfl, nI_eq (by omega) (by omega)]
    refine ⟨fun q => ?_, fun q => ?_⟩
    · intro g3 e3
      rw [show (1 : Int32) = nI 1 from rfl, pk_sub (by omega)] at e3
      refine ⟨0, rfl, by decide, q, ?_, ?_, ?_, fun j hj => absurd hj (Nat.not_lt_zero _)⟩
      · rw [e3, e2]
        exact (mf_fld f (Or.inl rfl)).trans (mf_fld _ (Or.inr rfl))
      · rw [e3, setf_off (Or.inr (by decide))]
        exact z
      · rw [e3, setf_same]
    · rw [cif_pos q] at hF
      exact u8_fails (hF.no M r0)
  · rintro g x ⟨k, rfl, hk, hn, r, z, h3, hA⟩
    unfold bX8_undo_30
    have hrow : g (a + 2) = f (a + 2) := r.1 (a + 2) (by omega) (fun i hi => by omega)
    rw [h3, show (160 : Int32) = nI 160 from rfl, nI_leI (by omega) (by omega), nI_mul, nI_add, nI_clamp (by omega), nI_clamp (by omega), hrow]
    refine ⟨fun q => ?_, fun q => ?_⟩
    · rw [cif_neg hn] at hF
      have hb := hM.hok.2 _ (bd_mem (hs := A.2.1) (i := A.2.1.length - 1) (by omega))
      have S : StM g (a + 1) 0 (bdAt A.2.1 (A.2.1.length - 1)) := (hM.2.1.2 (A.2.1.length - 1) (by omega)).cp hb (fun j hj => by rw [Nat.zero_add]; exact hA j (by omega))
      have hl : (A.2.1.take (A.2.1.length - 1)).length = A.2.1.length - 1 := by
        rw [List.length_take]
        omega
      have H : HiM g a (A.2.1.take (A.2.1.length - 1)) := by
        refine ⟨by rw [h3, hl], fun i hi => ?_⟩
        rw [hl] at hi
        rw [bd_take _ hi]
        exact (hM.2.1.2 i (by omega)).row hrow
      have hk2 : Hok (A.2.1.take (A.2.1.length - 1)) := ⟨by omega, fun b hb => hM.hok.2 b (List.mem_of_mem_take hb)⟩
      exact hF.ok (mi_mk hM (r.mono (fun i hi => by omega) (fun j hj => by omega)) S hb H hk2) z (r.an (fun i hi => by omega))
    · refine ⟨vp_nI (by omega) (by decide), vp_nI (by omega) (by decide), fun g2 e2 y ey => ?_⟩
      rw [nI_1] at ey
      have r2 : MF g g2 a (fun i => i = 1) (fun _ => False) := by
        rw [e2]
        exact mf_arr g rfl (by decide)
      refine ⟨⟨k + 1, ey, by omega, hn, r.trans (r2.mono (fun _ h => h) (fun _ h => absurd h id)), ?_, ?_, fun j hj => ?_⟩, mu_up ey (by omega) (by omega)⟩
      · rw [r2.2 0 id]
        exact z
      · rw [r2.2 3 id]
        exact h3
      · rw [e2]
        by_cases c : j = k
        · rw [c, setf_same]
        · rw [setf_off (Or.inr c)]
          exact hA j (by omega)

theorem metX8_undo (l : Launch) (G : Gl) (P : Sk) (f : St) (sz : Nat) (a : Nat) (ha : IsModel P a) (K : Int32 → St → Prop) (h : kX8_undo P f a K) : Met l yX8_undo (wU yX8_undo cX8_undo 2 (some .int)) rmX8_undo (PcW G P f sz [.ref a]) (QcI G P sz K) 0 0 (frA P sz) := by
  obtain ⟨I30, μ30, qh, qh30⟩ := wX8_undo P f a ha K h
  exact mX8_undo l G P f sz a ha K I30 μ30 qh qh30

def bX8_keep_7 (P : Sk) (a : Nat) (L7 : St → Int32 → Prop) (K : Int32 → St → Prop) (f : St) (x1 : Int32) : Prop :=
  (160 ≤ x1 → ∀ g34 : St, g34 = setf f a 5 1 → vp_in 0 160 ∧ (K (g34 (a + 1) ((0 : Int32)).toNatClampNeg) g34)) ∧ (¬ 160 ≤ x1 → vp_in x1 160 ∧ (vp_in x1 160 ∧ (∀ g25 : St, g25 = setf f (a + 3) x1.toNatClampNeg (f (a + 1) x1.toNatClampNeg) → ∀ x1_26 : Int32, x1_26 = x1 + 1 → L7 g25 x1_26)))
def vX8_keep (P : Sk) (f : St) (a : Nat) (L7 : St → Int32 → Prop) (K : Int32 → St → Prop) : Prop :=
  ∀ g2 : St, g2 = setf f a 0 0 → L7 g2 0
set_option maxRecDepth 20000 in
set_option maxHeartbeats 4000000 in
theorem mX8_keep (l : Launch) (G : Gl) (P : Sk) (f : St) (sz : Nat) (a : Nat) (ha : IsModel P a) (K : Int32 → St → Prop) (I7 : St → Int32 → Prop) (μ7 : St → Int32 → Nat) 
  (h : vX8_keep P f a I7 K)
  (h7 : ∀ (g : St) (x1 : Int32) , I7 g x1 → bX8_keep_7 P a (fun g' z0 => I7 g' z0 ∧ μ7 g' z0 < μ7 g x1) K g x1) :
  Met l yX8_keep (wU yX8_keep cX8_keep 2 (some .int)) rmX8_keep (PcW G P f sz [.ref a]) (QcI G P sz K) 0 0 (frA P sz) := by
  refine v_met (own := RX8) [.ref a] (by decide +kernel) rfl (Nat.le_of_ble_eq_true rfl) (fun p e s m args below meth c hsz o hr hnm => ?_)
  refine v_lv (lv2 := [(0, .ref a)]) rfl ?_
  have main : ∀ n : Nat, (∀ (g : St) (x1 : Int32) , I7 g x1 → μ7 g x1 < n → V p l e rmX8_keep s m args below meth c 2 G (frA P sz) (MQ below (QcI G P sz K) args s 0 0 (frA P sz)) 0 0 P [(0, .ref a), (1, .int x1)] [] 7 g) := by
    intro n
    induction n with
    | zero => exact fun g x1 hI hm => absurd hm (Nat.not_lt_zero _)
    | succ n ih =>
      intro g x1 hI hm
      have h := h7 g x1 hI
      clear hI
      unfold bX8_keep_7 at h
      refine v_iload_n o 1 dX8_keep_7 rfl ?_
      refine v_sipush o (v := 160) dX8_keep_8 (by decide) ?_
      refine v_icmp_ge o (tgt := 32) dX8_keep_11 (by decide) (fun c11 => ?_) (fun c11 => ?_)
      · replace h := h.1 c11
        refine v_aload_n o 0 dX8_keep_32 rfl ?_
        refine v_iconst o (v := 1) dX8_keep_33 (by decide) ?_
        refine v_pf o lpX8_183 (wfModel_o ha) bz1 dX8_keep_34 ?_
        refine v_nmf (fun g34 eg34 => ?_)
        replace h := h g34 eg34
        refine v_aload_n o 0 dX8_keep_37 rfl ?_
        refine v_gfR o lkX8_7 (by decide) (wfModel_o ha) (wfModel_r1 ha) dX8_keep_38 ?_
        refine v_iconst o (v := 0) dX8_keep_41 (by decide) ?_
        refine v_iald o (wfModel_t1 ha) (wfModel_n1 ha) h.1 dX8_keep_42 ?_
        replace h := h.2
        exact v_iret o rfl hr dX8_keep_43 h
      · replace h := h.2 c11
        refine v_aload_n o 0 dX8_keep_14 rfl ?_
        refine v_gfR o lkX8_16 (by decide) (wfModel_o ha) (wfModel_r4 ha) dX8_keep_15 ?_
        refine v_iload_n o 1 dX8_keep_18 rfl ?_
        refine v_aload_n o 0 dX8_keep_19 rfl ?_
        refine v_gfR o lkX8_7 (by decide) (wfModel_o ha) (wfModel_r1 ha) dX8_keep_20 ?_
        refine v_iload_n o 1 dX8_keep_23 rfl ?_
        refine v_iald o (wfModel_t1 ha) (wfModel_n1 ha) h.1 dX8_keep_24 ?_
        replace h := h.2
        refine v_iast o (wfModel_t4 ha) (wfModel_n4 ha) h.1 dX8_keep_25 ?_
        replace h := h.2
        refine v_nmf (fun g25 eg25 => ?_)
        replace h := h g25 eg25
        obtain ⟨x1_26, ex1_26⟩ : ∃ y : Int32, y = x1 + 1 := ⟨_, rfl⟩
        replace h := h x1_26 ex1_26
        refine v_iinc o (v := x1_26) (lv' := [(1, .int x1_26), (0, .ref a)]) 1 dX8_keep_26 rfl (by rw [ex1_26]; rfl) (by decide) rfl ?_
        refine v_goto o (tgt := 7) dX8_keep_29 (by decide) ?_
        refine v_sub [1, 0] (lv2 := [(0, .ref a), (1, .int x1_26)]) rfl ?_
        exact ih g25 x1_26  h.1 (by have := h.2; omega)
  unfold vX8_keep at h
  refine v_aload_n o 0 dX8_keep_0 rfl ?_
  refine v_iconst o (v := 0) dX8_keep_1 (by decide) ?_
  refine v_pf o lpX8_40 (wfModel_o ha) ⟨rfl, rfl⟩ dX8_keep_2 ?_
  refine v_nmf (fun g2 eg2 => ?_)
  replace h := h g2 eg2
  refine v_iconst o (v := 0) dX8_keep_5 (by decide) ?_
  refine v_istore_n o (lv' := [(1, .int 0), (0, .ref a)]) dX8_keep_6 rfl (by decide) rfl ?_
  refine v_sub [1, 0] (lv2 := [(0, .ref a), (1, .int 0)]) rfl ?_
  exact (main (μ7 g2 0 + 1)) g2 0  h (Nat.lt_succ_self _)
def WX8_keep (P : Sk) (f : St) (a : Nat) (K : Int32 → St → Prop) : Prop := ∃ (I7 : St → Int32 → Prop) (μ7 : St → Int32 → Nat), (vX8_keep P f a I7 K) ∧ (∀ (g : St) (x1 : Int32) , I7 g x1 → bX8_keep_7 P a (fun g' z0 => I7 g' z0 ∧ μ7 g' z0 < μ7 g x1) K g x1)
def kX8_keep (P : Sk) (f : St) (a : Nat) (K : Int32 → St → Prop) : Prop := ∃ A, MIs f a A ∧ FinM f a (opKeep A) K
theorem wX8_keep (P : Sk) (f : St) (a : Nat) (ha : IsModel P a) (K : Int32 → St → Prop) (h : kX8_keep P f a K) : WX8_keep P f a K := by
  obtain ⟨A, hM, hF⟩ := h
  have in0 : vp_in 0 160 := vp_nI (i := 0) (by decide) (by decide)
  unfold opKeep at hF
  refine ⟨fun g x => ∃ k, x = nI k ∧ k ≤ 160 ∧ MF f g a (fun i => i = 3) (fun j => j = 0) ∧ g a 0 = 0 ∧ ∀ j, j < k → g (a + 3) j = f (a + 1) j, fun g x => 160 - x.toNatClampNeg, ?_, ?_⟩
  · unfold vX8_keep
    intro g2 e2
    obtain ⟨M, z, r0⟩ := mi_start hM e2
    refine ⟨0, rfl, by decide, ?_, z, fun j hj => absurd hj (Nat.not_lt_zero _)⟩
    rw [e2]
    exact mf_fld f rfl
  · rintro g x ⟨k, rfl, hk, r, z, hA⟩
    unfold bX8_keep_7
    have hrow : g (a + 1) = f (a + 1) := r.1 (a + 1) (by omega) (fun i hi => by omega)
    rw [show (160 : Int32) = nI 160 from rfl, nI_leI (by omega) (by omega), nI_clamp (by omega), hrow]
    refine ⟨fun q => ?_, fun q => ?_⟩
    · intro g2 e2
      have r2 : MF f g2 a (fun i => i = 3) (fun j => j = 0 ∨ j = 5) := by
        rw [e2]
        exact (r.mono (fun _ h => h) (fun j h => Or.inl h)).trans (mf_fld g (Or.inr rfl))
      have rr : ∀ i, 0 < i → i ≠ 3 → g2 (a + i) = f (a + i) := fun i h1 h2 => r2.1 _ (by omega) (fun j hj => by omega)
      have row3 : g2 (a + 3) = g (a + 3) := by rw [e2, setf_row (by omega)]
      refine ⟨in0, ?_⟩
      rw [tn0, rr 1 (by decide) (by decide), show f (a + 1) 0 = nI A.1.1.length from hM.1.1]
      refine hF.ok ⟨hM.1.row (rr 1 (by decide) (by decide)), hM.2.1.row (rr 2 (by decide) (by decide)) (r2.2 3 (by decide)), Or.inr ⟨A.1, rfl, ?_, ?_, hM.bok⟩, hM.txm.keep r2 (fun i hi => by omega) (by decide), hM.tok, hM.bok, hM.hok⟩ ?_ (r2.an (fun i hi => by omega))
      · rw [e2, setf_same]
      · refine hM.1.cp hM.bok (fun j hj => ?_)
        rw [row3, Nat.zero_add]
        exact hA j (by omega)
      · rw [e2, setf_off (Or.inr (by decide))]
        exact z
    · refine ⟨vp_nI (by omega) (by decide), vp_nI (by omega) (by decide), fun g2 e2 y ey => ?_⟩
      rw [nI_1] at ey
      refine ⟨⟨k + 1, ey, by omega, ?_, ?_, fun j hj => ?_⟩, mu_up ey (by omega) (by omega)⟩
      · rw [e2]
        exact r.trans (mf_arr g rfl (by decide))
      · rw [e2, setf_off (Or.inl (by omega))]
        exact z
      · rw [e2]
        by_cases c : j = k
        · rw [c, setf_same]
        · rw [setf_off (Or.inr c)]
          exact hA j (by omega)

theorem metX8_keep (l : Launch) (G : Gl) (P : Sk) (f : St) (sz : Nat) (a : Nat) (ha : IsModel P a) (K : Int32 → St → Prop) (h : kX8_keep P f a K) : Met l yX8_keep (wU yX8_keep cX8_keep 2 (some .int)) rmX8_keep (PcW G P f sz [.ref a]) (QcI G P sz K) 0 0 (frA P sz) := by
  obtain ⟨I7, μ7, qh, qh7⟩ := wX8_keep P f a ha K h
  exact mX8_keep l G P f sz a ha K I7 μ7 qh qh7

def bX8_restore_24 (P : Sk) (a : Nat) (L24 : St → Int32 → Prop) (K : Int32 → St → Prop) (f : St) (x1 : Int32) : Prop :=
  (160 ≤ x1 → vp_in 0 160 ∧ (K (f (a + 1) ((0 : Int32)).toNatClampNeg) f)) ∧ (¬ 160 ≤ x1 → vp_in x1 160 ∧ (vp_in x1 160 ∧ (∀ g42 : St, g42 = setf f (a + 1) x1.toNatClampNeg (f (a + 3) x1.toNatClampNeg) → ∀ x1_43 : Int32, x1_43 = x1 + 1 → L24 g42 x1_43)))
def vX8_restore (P : Sk) (f : St) (a : Nat) (L24 : St → Int32 → Prop) (K : Int32 → St → Prop) : Prop :=
  ∀ g2 : St, g2 = setf f a 0 0 → (¬ g2 a 5 = 0 → kX8_records P g2 a (fun g19 => L24 g19 0)) ∧ (g2 a 5 = 0 → kX8_fails P g2 a 1 (fun r14 g14 => K r14 g14))
set_option maxRecDepth 20000 in
set_option maxHeartbeats 4000000 in
theorem mX8_restore (l : Launch) (G : Gl) (P : Sk) (f : St) (sz : Nat) (a : Nat) (ha : IsModel P a) (K : Int32 → St → Prop) (I24 : St → Int32 → Prop) (μ24 : St → Int32 → Nat) 
  (h : vX8_restore P f a I24 K)
  (h24 : ∀ (g : St) (x1 : Int32) , I24 g x1 → bX8_restore_24 P a (fun g' z0 => I24 g' z0 ∧ μ24 g' z0 < μ24 g x1) K g x1) :
  Met l yX8_restore (wU yX8_restore cX8_restore 2 (some .int)) rmX8_restore (PcW G P f sz [.ref a]) (QcI G P sz K) 0 0 (frA P sz) := by
  refine v_met (own := RX8) [.ref a] (by decide +kernel) rfl (Nat.le_of_ble_eq_true rfl) (fun p e s m args below meth c hsz o hr hnm => ?_)
  refine v_lv (lv2 := [(0, .ref a)]) rfl ?_
  have main : ∀ n : Nat, (∀ (g : St) (x1 : Int32) , I24 g x1 → μ24 g x1 < n → V p l e rmX8_restore s m args below meth c 2 G (frA P sz) (MQ below (QcI G P sz K) args s 0 0 (frA P sz)) 0 0 P [(0, .ref a), (1, .int x1)] [] 24 g) := by
    intro n
    induction n with
    | zero => exact fun g x1 hI hm => absurd hm (Nat.not_lt_zero _)
    | succ n ih =>
      intro g x1 hI hm
      have h := h24 g x1 hI
      clear hI
      unfold bX8_restore_24 at h
      refine v_iload_n o 1 dX8_restore_24 rfl ?_
      refine v_sipush o (v := 160) dX8_restore_25 (by decide) ?_
      refine v_icmp_ge o (tgt := 49) dX8_restore_28 (by decide) (fun c28 => ?_) (fun c28 => ?_)
      · replace h := h.1 c28
        refine v_aload_n o 0 dX8_restore_49 rfl ?_
        refine v_gfR o lkX8_7 (by decide) (wfModel_o ha) (wfModel_r1 ha) dX8_restore_50 ?_
        refine v_iconst o (v := 0) dX8_restore_53 (by decide) ?_
        refine v_iald o (wfModel_t1 ha) (wfModel_n1 ha) h.1 dX8_restore_54 ?_
        replace h := h.2
        exact v_iret o rfl hr dX8_restore_55 h
      · replace h := h.2 c28
        refine v_aload_n o 0 dX8_restore_31 rfl ?_
        refine v_gfR o lkX8_7 (by decide) (wfModel_o ha) (wfModel_r1 ha) dX8_restore_32 ?_
        refine v_iload_n o 1 dX8_restore_35 rfl ?_
        refine v_aload_n o 0 dX8_restore_36 rfl ?_
        refine v_gfR o lkX8_16 (by decide) (wfModel_o ha) (wfModel_r4 ha) dX8_restore_37 ?_
        refine v_iload_n o 1 dX8_restore_40 rfl ?_
        refine v_iald o (wfModel_t4 ha) (wfModel_n4 ha) h.1 dX8_restore_41 ?_
        replace h := h.2
        refine v_iast o (wfModel_t1 ha) (wfModel_n1 ha) h.1 dX8_restore_42 ?_
        replace h := h.2
        refine v_nmf (fun g42 eg42 => ?_)
        replace h := h g42 eg42
        obtain ⟨x1_43, ex1_43⟩ : ∃ y : Int32, y = x1 + 1 := ⟨_, rfl⟩
        replace h := h x1_43 ex1_43
        refine v_iinc o (v := x1_43) (lv' := [(1, .int x1_43), (0, .ref a)]) 1 dX8_restore_43 rfl (by rw [ex1_43]; rfl) (by decide) rfl ?_
        refine v_goto o (tgt := 24) dX8_restore_46 (by decide) ?_
        refine v_sub [1, 0] (lv2 := [(0, .ref a), (1, .int x1_43)]) rfl ?_
        exact ih g42 x1_43  h.1 (by have := h.2; omega)
  unfold vX8_restore at h
  refine v_aload_n o 0 dX8_restore_0 rfl ?_
  refine v_iconst o (v := 0) dX8_restore_1 (by decide) ?_
  refine v_pf o lpX8_40 (wfModel_o ha) ⟨rfl, rfl⟩ dX8_restore_2 ?_
  refine v_nmf (fun g2 eg2 => ?_)
  replace h := h g2 eg2
  refine v_aload_n o 0 dX8_restore_5 rfl ?_
  refine v_gfI o lkX8_183 (by decide) (wfModel_o ha) dX8_restore_6 ?_
  refine v_if_ne o (tgt := 18) dX8_restore_9 (by decide) (fun c9 => ?_) (fun c9 => ?_)
  · replace h := h.1 c9
    refine v_aload_n o 0 dX8_restore_18 rfl ?_
    refine v_cVv o [] [] (fun sz => metX8_records l G P g2 sz a ha _ h) (cwX8_127 o.1.2.2.2.2 (by decide)) ⟨_, _, rfl⟩ (by decide) (wfModel_o ha) rfl (Nat.le_of_ble_eq_true rfl) ⟨Nat.le_of_ble_eq_true rfl, Nat.le_of_ble_eq_true rfl⟩ dX8_restore_19 rfl (fun g19 h => ?_)
    refine v_iconst o (v := 0) dX8_restore_22 (by decide) ?_
    refine v_istore_n o (lv' := [(1, .int 0), (0, .ref a)]) dX8_restore_23 rfl (by decide) rfl ?_
    refine v_sub [1, 0] (lv2 := [(0, .ref a), (1, .int 0)]) rfl ?_
    exact (main (μ24 g19 0 + 1)) g19 0  h (Nat.lt_succ_self _)
  · replace h := h.2 c9
    refine v_aload_n o 0 dX8_restore_12 rfl ?_
    refine v_iconst o (v := 1) dX8_restore_13 (by decide) ?_
    refine v_cVi o [.int 1] [] (fun sz => metX8_fails l G P g2 sz a ha 1 _ h) (cwX8_123 o.1.2.2.2.2 (by decide)) ⟨_, _, rfl⟩ (by decide) (wfModel_o ha) rfl (Nat.le_of_ble_eq_true rfl) ⟨Nat.le_of_ble_eq_true rfl, Nat.le_of_ble_eq_true rfl⟩ dX8_restore_14 rfl (fun r14 g14 h => ?_)
    exact v_iret o rfl hr dX8_restore_17 h
def WX8_restore (P : Sk) (f : St) (a : Nat) (K : Int32 → St → Prop) : Prop := ∃ (I24 : St → Int32 → Prop) (μ24 : St → Int32 → Nat), (vX8_restore P f a I24 K) ∧ (∀ (g : St) (x1 : Int32) , I24 g x1 → bX8_restore_24 P a (fun g' z0 => I24 g' z0 ∧ μ24 g' z0 < μ24 g x1) K g x1)
def kX8_restore (P : Sk) (f : St) (a : Nat) (K : Int32 → St → Prop) : Prop := ∃ A, MIs f a A ∧ FinM f a (opRestore A) K
theorem wX8_restore (P : Sk) (f : St) (a : Nat) (ha : IsModel P a) (K : Int32 → St → Prop) (h : kX8_restore P f a K) : WX8_restore P f a K := by
  obtain ⟨A, hM, hF⟩ := h
  have in0 : vp_in 0 160 := vp_nI (i := 0) (by decide) (by decide)
  unfold opRestore at hF
  refine ⟨fun g x => ∃ k s, x = nI k ∧ k ≤ 160 ∧ A.2.2.1 = some s ∧ StM f (a + 3) 0 s ∧ Bok s ∧ MF f g a (fun i => i = 1 ∨ i = 2) (fun j => j = 0 ∨ j = 3) ∧ g a 0 = 0 ∧ HiM g a (svH A.2.1 A.1) ∧ ∀ j, j < k → g (a + 1) j = f (a + 3) j, fun g x => 160 - x.toNatClampNeg, ?_, ?_⟩
  · unfold vX8_restore
    intro g2 e2
    obtain ⟨M, z, r0⟩ := mi_start hM e2
    rcases hM.2.2.1 with ⟨e, e5⟩ | ⟨s, e, e5, hS, ho⟩
    · rw [e] at hF
      have e52 : g2 a 5 = 0 := by rw [e2, setf_off (Or.inr (by decide)), e5]
      rw [e52]
      exact ⟨fun q => absurd rfl q, fun _ => u8_fails (hF.no M r0)⟩
    · have e52 : g2 a 5 = 1 := by rw [e2, setf_off (Or.inr (by decide)), e5]
      rw [e52]
      refine ⟨fun _ => ?_, fun q => absurd q (by decide)⟩
      refine ⟨A.2.1, A.1, M.2.1, M.hok, M.1, M.bok, fun g3 r3 H3 => ?_⟩
      refine ⟨0, s, rfl, by decide, e, hS, ho, ?_, ?_, H3, fun j hj => absurd hj (Nat.not_lt_zero _)⟩
      · have r2 : MF f g2 a (fun i => i = 1 ∨ i = 2) (fun j => j = 0 ∨ j = 3) := by
          rw [e2]
          exact mf_fld f (Or.inl rfl)
        exact r2.trans (r3.mono (fun i hi => Or.inr hi) (fun j hj => Or.inr hj))
      · rw [r3.2 0 (by decide)]
        exact z
  · rintro g x ⟨k, s, rfl, hk, e, hS, ho, r, z, H, hA⟩
    rw [e] at hF
    unfold bX8_restore_24
    have hrow : g (a + 3) = f (a + 3) := r.1 (a + 3) (by omega) (fun i hi => by omega)
    rw [show (160 : Int32) = nI 160 from rfl, nI_leI (by omega) (by omega), nI_clamp (by omega), hrow]
    refine ⟨fun q => ⟨in0, ?_⟩, fun q => ?_⟩
    · have S : StM g (a + 1) 0 s := hS.cp ho (fun j hj => by
        rw [Nat.zero_add]
        exact hA j (by omega))
      rw [tn0, show g (a + 1) 0 = nI s.1.length from S.1]
      exact hF.ok (mi_mk hM (r.mono (fun i hi => by omega) (fun j hj => by omega)) S ho H (hM.hok.sv hM.bok)) z (r.an (fun i hi => by omega))
    · refine ⟨vp_nI (by omega) (by decide), vp_nI (by omega) (by decide), fun g2 e2 y ey => ?_⟩
      rw [nI_1] at ey
      have r2 : MF g g2 a (fun i => i = 1) (fun _ => False) := by
        rw [e2]
        exact mf_arr g rfl (by decide)
      refine ⟨⟨k + 1, s, ey, by omega, e, hS, ho, r.trans (r2.mono (fun i h => Or.inl h) (fun _ h => absurd h id)), ?_, H.row (r2.1 (a + 2) (by omega) (fun i hi => by omega)) (r2.2 3 id), fun j hj => ?_⟩, mu_up ey (by omega) (by omega)⟩
      · rw [r2.2 0 id]
        exact z
      · rw [e2]
        by_cases c : j = k
        · rw [c, setf_same]
        · rw [setf_off (Or.inr c)]
          exact hA j (by omega)

theorem metX8_restore (l : Launch) (G : Gl) (P : Sk) (f : St) (sz : Nat) (a : Nat) (ha : IsModel P a) (K : Int32 → St → Prop) (h : kX8_restore P f a K) : Met l yX8_restore (wU yX8_restore cX8_restore 2 (some .int)) rmX8_restore (PcW G P f sz [.ref a]) (QcI G P sz K) 0 0 (frA P sz) := by
  obtain ⟨I24, μ24, qh, qh24⟩ := wX8_restore P f a ha K h
  exact mX8_restore l G P f sz a ha K I24 μ24 qh qh24

