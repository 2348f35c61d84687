def vX0_size (P : Sk) (f : St) (a : Nat) (K : Int32 → St → Prop) : Prop :=
  K (f a 2) f
set_option maxRecDepth 20000 in
set_option maxHeartbeats 4000000 in
theorem mX0_size (l : Launch) (G : Gl) (P : Sk) (f : St) (sz : Nat) (a : Nat) (ha : IsBoard P a) (K : Int32 → St → Prop) (h : vX0_size P f a K)  :
  Met l yX0_size (wU yX0_size cX0_size 1 (some .int)) rmX0_size (PcW G P f sz [.ref a]) (QcI G P sz K) 0 0 (frA P sz) := by
  refine v_met (own := RX0) [.ref a] (by decide +kernel) rfl (Nat.le_of_ble_eq_true rfl) (fun p e s m args below meth c hsz o hr hnm => ?_)
  refine v_lv (lv2 := [(0, .ref a)]) rfl ?_
  unfold vX0_size at h
  refine v_aload_n o 0 dX0_size_0 rfl ?_
  refine v_gfI o lkX0_22 (by decide) (wfBoard_o ha) dX0_size_1 ?_
  exact v_iret o rfl hr dX0_size_4 h
abbrev kX0_size := @vX0_size
abbrev metX0_size := @mX0_size

def vX0_has (P : Sk) (f : St) (a : Nat) (p1 : Int32) (K : Int32 → St → Prop) : Prop :=
  (p1 < 0 → K 0 f) ∧ (¬ p1 < 0 → (f a 2 ≤ p1 → K 0 f) ∧ (¬ f a 2 ≤ p1 → K 1 f))
set_option maxRecDepth 20000 in
set_option maxHeartbeats 4000000 in
theorem mX0_has (l : Launch) (G : Gl) (P : Sk) (f : St) (sz : Nat) (a : Nat) (ha : IsBoard P a) (p1 : Int32) (K : Int32 → St → Prop) (h : vX0_has P f a p1 K)  :
  Met l yX0_has (wU yX0_has cX0_has 2 (some .boolean)) rmX0_has (PcW G P f sz [.ref a, .int p1]) (QcI G P sz K) 0 0 (frA P sz) := by
  refine v_met (own := RX0) [.ref a, .int p1] (by decide +kernel) rfl (Nat.le_of_ble_eq_true rfl) (fun p e s m args below meth c hsz o hr hnm => ?_)
  refine v_lv (lv2 := [(0, .ref a), (1, .int p1)]) rfl ?_
  unfold vX0_has at h
  refine v_iload_n o 1 dX0_has_0 rfl ?_
  refine v_if_lt o (tgt := 16) dX0_has_1 (by decide) (fun c1 => ?_) (fun c1 => ?_)
  · replace h := h.1 c1
    refine v_iconst o (v := 0) dX0_has_16 (by decide) ?_
    exact v_zret o rfl hr bz0.1 dX0_has_17 h
  · replace h := h.2 c1
    refine v_iload_n o 1 dX0_has_4 rfl ?_
    refine v_aload_n o 0 dX0_has_5 rfl ?_
    refine v_gfI o lkX0_22 (by decide) (wfBoard_o ha) dX0_has_6 ?_
    refine v_icmp_ge o (tgt := 16) dX0_has_9 (by decide) (fun c9 => ?_) (fun c9 => ?_)
    · replace h := h.1 c9
      refine v_iconst o (v := 0) dX0_has_16 (by decide) ?_
      exact v_zret o rfl hr bz0.1 dX0_has_17 h
    · replace h := h.2 c9
      refine v_iconst o (v := 1) dX0_has_12 (by decide) ?_
      refine v_goto o (tgt := 17) dX0_has_13 (by decide) ?_
      exact v_zret o rfl hr bz1.1 dX0_has_17 h
abbrev kX0_has := @vX0_has
abbrev metX0_has := @mX0_has

def jX0_at_22 (P : Sk) (a : Nat) (p1 : Int32) (K : Nat → St → Prop) (f : St) : Prop :=
  K (a + 2) f
def vX0_at (P : Sk) (f : St) (a : Nat) (p1 : Int32) (K : Nat → St → Prop) : Prop :=
  (p1 < 0 → jX0_at_22 P a p1 K  f) ∧ (¬ p1 < 0 → (nI 6 ≤ p1 → jX0_at_22 P a p1 K  f) ∧ (¬ nI 6 ≤ p1 → vp_in p1 6 ∧ (vp_in p1 6 ∧ (K (a + 24 + 22 * p1.toNatClampNeg) f))))
set_option maxRecDepth 20000 in
set_option maxHeartbeats 4000000 in
theorem mX0_at (l : Launch) (G : Gl) (P : Sk) (f : St) (sz : Nat) (a : Nat) (ha : IsBoard P a) (p1 : Int32) (K : Nat → St → Prop) (h : vX0_at P f a p1 K)  :
  Met l yX0_at (wU yX0_at cX0_at 2 (some (.object "StrandLoaves$Loaf"))) rmX0_at (PcW G P f sz [.ref a, .int p1]) (QcR G P sz K) 0 0 (frA P sz) := by
  refine v_met (own := RX0) [.ref a, .int p1] (by decide +kernel) rfl (Nat.le_of_ble_eq_true rfl) (fun p e s m args below meth c hsz o hr hnm => ?_)
  refine v_lv (lv2 := [(0, .ref a), (1, .int p1)]) rfl ?_
  have J22 : ∀ (g22 : St), jX0_at_22 P a p1 K  g22 → V p l e rmX0_at s m args below meth c 2 G (frA P sz) (MQ below (QcR G P sz K) args s 0 0 (frA P sz)) 0 0 P [(0, .ref a), (1, .int p1)] [] 22 g22 := by
    intro  g22  h
    unfold jX0_at_22 at h
    refine v_aload_n o 0 dX0_at_22 rfl ?_
    refine v_gfR o lkX0_18 (by decide) (wfBoard_o ha) (wfBoard_r1 ha) dX0_at_23 ?_
    exact v_aret o rfl hr (Or.inl ⟨_, rfl⟩) dX0_at_26 h
  unfold vX0_at at h
  refine v_iload_n o 1 dX0_at_0 rfl ?_
  refine v_if_lt o (tgt := 22) dX0_at_1 (by decide) (fun c1 => ?_) (fun c1 => ?_)
  · replace h := h.1 c1
    refine v_sub [0, 1] (lv2 := [(0, .ref a), (1, .int p1)]) rfl ?_
    exact J22  f  h
  · replace h := h.2 c1
    refine v_iload_n o 1 dX0_at_4 rfl ?_
    refine v_aload_n o 0 dX0_at_5 rfl ?_
    refine v_gfR o lkX0_11 (by decide) (wfBoard_o ha) (wfBoard_r0 ha) dX0_at_6 ?_
    refine v_alen11 o (wfBoard_t0 ha) (wfBoard_n0 ha) dX0_at_9 ?_
    refine v_icmp_ge o (tgt := 22) dX0_at_10 (by decide) (fun c10 => ?_) (fun c10 => ?_)
    · replace h := h.1 c10
      refine v_sub [0, 1] (lv2 := [(0, .ref a), (1, .int p1)]) rfl ?_
      exact J22  f  h
    · replace h := h.2 c10
      refine v_aload_n o 0 dX0_at_13 rfl ?_
      refine v_gfR o lkX0_11 (by decide) (wfBoard_o ha) (wfBoard_r0 ha) dX0_at_14 ?_
      refine v_iload_n o 1 dX0_at_17 rfl ?_
      have hi18 := h.1
      replace h := h.2
      refine v_aald11 o (wfBoard_t0 ha) (wfBoard_n0 ha) hi18 (wfBoard_ar ha _ (vin_lt hi18)) dX0_at_18 ?_
      refine v_ifnonnull o (tgt := 27) dX0_at_19 (by decide) ?_
      refine v_aload_n o 0 dX0_at_27 rfl ?_
      refine v_gfR o lkX0_11 (by decide) (wfBoard_o ha) (wfBoard_r0 ha) dX0_at_28 ?_
      refine v_iload_n o 1 dX0_at_31 rfl ?_
      have hi32 := h.1
      replace h := h.2
      refine v_aald11 o (wfBoard_t0 ha) (wfBoard_n0 ha) hi32 (wfBoard_ar ha _ (vin_lt hi32)) dX0_at_32 ?_
      exact v_aret o rfl hr (Or.inl ⟨_, rfl⟩) dX0_at_33 h
theorem metX0_at (l : Launch) (G : Gl) (P : Sk) (f : St) (sz : Nat) (a : Nat) (ha : IsBoard P a) (p1 : Int32) : Met l yX0_at (wU yX0_at cX0_at 2 (some (.object "StrandLoaves$Loaf"))) rmX0_at (PcW G P f sz [.ref a, .int p1]) (QcR G P sz (fun r g => r = (atB a p1) ∧ f = g)) 0 0 (frA P sz) := sorry

def vJ9_min_7cf53 (P : Sk) (f : St) (p0 : Int32) (p1 : Int32) (K : Int32 → St → Prop) : Prop :=
  (p1 < p0 → K p1 f) ∧ (¬ p1 < p0 → K p0 f)
set_option maxRecDepth 20000 in
set_option maxHeartbeats 4000000 in
theorem mJ9_min_7cf53 (l : Launch) (G : Gl) (P : Sk) (f : St) (sz : Nat) (p0 : Int32) (p1 : Int32) (K : Int32 → St → Prop) (h : vJ9_min_7cf53 P f p0 p1 K)  :
  Met l yJ9_min_7cf53 (wU yJ9_min_7cf53 cJ9_min_7cf53 2 (some .int)) rmJ9_min_7cf53 (PcW G P f sz [.int p0, .int p1]) (QcI G P sz K) 0 0 (frA P sz) := by
  refine v_met (own := RJ9) [.int p0, .int p1] (by decide +kernel) rfl (Nat.le_of_ble_eq_true rfl) (fun p e s m args below meth c hsz o hr hnm => ?_)
  refine v_lv (lv2 := [(0, .int p0), (1, .int p1)]) rfl ?_
  unfold vJ9_min_7cf53 at h
  refine v_iload_n o 0 dJ9_min_7cf53_0 rfl ?_
  refine v_iload_n o 1 dJ9_min_7cf53_1 rfl ?_
  refine v_icmp_gt o (tgt := 9) dJ9_min_7cf53_2 (by decide) (fun c2 => ?_) (fun c2 => ?_)
  · replace h := h.1 c2
    refine v_iload_n o 1 dJ9_min_7cf53_9 rfl ?_
    exact v_iret o rfl hr dJ9_min_7cf53_10 h
  · replace h := h.2 c2
    refine v_iload_n o 0 dJ9_min_7cf53_5 rfl ?_
    refine v_goto o (tgt := 10) dJ9_min_7cf53_6 (by decide) ?_
    exact v_iret o rfl hr dJ9_min_7cf53_10 h
abbrev kJ9_min_7cf53 := @vJ9_min_7cf53
abbrev metJ9_min_7cf53 := @mJ9_min_7cf53

def vX3_copyFrom (P : Sk) (f : St) (a : Nat) (b1 : Nat) (K : St → Prop) : Prop :=
  kJ9_min_7cf53 P f (nI (sN P (a + 1))) (nI (sN P (b1 + 1))) (fun r10 g10 => (¬ r10 < 0 ∧ ((0 : Int32)).toNatClampNeg + r10.toNatClampNeg ≤ sN P (b1 + 1) ∧ ((0 : Int32)).toNatClampNeg + r10.toNatClampNeg ≤ sN P (a + 1)) ∧ (∀ g25 : St, g25 = seta g10 (a + 1) (va_cpy (g10 (b1 + 1)) (g10 (a + 1)) ((0 : Int32)).toNatClampNeg ((0 : Int32)).toNatClampNeg r10.toNatClampNeg) → K g25))
set_option maxRecDepth 20000 in
set_option maxHeartbeats 4000000 in
theorem mX3_copyFrom (l : Launch) (G : Gl) (P : Sk) (f : St) (sz : Nat) (a : Nat) (ha : IsRow P a) (b1 : Nat) (hb1 : IsRow P b1) (K : St → Prop) (h : vX3_copyFrom P f a b1 K)  :
  Met l yX3_copyFrom (wU yX3_copyFrom cX3_copyFrom 3 none) rmX3_copyFrom (PcW G P f sz [.ref a, .ref b1]) (QcV G P sz K) 0 0 (frA P sz) := by
  refine v_met (own := RX3) [.ref a, .ref b1] (by decide +kernel) rfl (Nat.le_of_ble_eq_true rfl) (fun p e s m args below meth c hsz o hr hnm => ?_)
  refine v_lv (lv2 := [(0, .ref a), (1, .ref b1)]) rfl ?_
  unfold vX3_copyFrom at h
  refine v_aload_n o 0 dX3_copyFrom_0 rfl ?_
  refine v_gfR o lkX3_7 (by decide) (wfRow_o ha) (wfRow_r0 ha) dX3_copyFrom_1 ?_
  refine v_alen9 o (wfRow_t0 ha) rfl dX3_copyFrom_4 ?_
  refine v_aload_n o 1 dX3_copyFrom_5 rfl ?_
  refine v_gfR o lkX3_7 (by decide) (wfRow_o hb1) (wfRow_r0 hb1) dX3_copyFrom_6 ?_
  refine v_alen9 o (wfRow_t0 hb1) rfl dX3_copyFrom_9 ?_
  refine v_cSi o [.int (nI (sN P (a + 1))), .int (nI (sN P (b1 + 1)))] [] (fun sz => metJ9_min_7cf53 l G P f sz (nI (sN P (a + 1))) (nI (sN P (b1 + 1))) _ h) (cwX3_13 o.1.2.2.2.2 (by decide)) rfl (Nat.le_of_ble_eq_true rfl) ⟨Nat.le_of_ble_eq_true rfl, Nat.le_of_ble_eq_true rfl⟩ dX3_copyFrom_10 rfl (fun r10 g10 h => ?_)
  refine v_istore_n o (lv' := [(2, .int r10), (0, .ref a), (1, .ref b1)]) dX3_copyFrom_13 rfl (by decide) rfl ?_
  refine v_aload_n o 2 dX3_copyFrom_14 rfl ?_
  refine v_gfR o lkX3_7 (by decide) (wfRow_o hb1) (wfRow_r0 hb1) dX3_copyFrom_15 ?_
  refine v_iconst o (v := 0) dX3_copyFrom_18 (by decide) ?_
  refine v_aload_n o 1 dX3_copyFrom_19 rfl ?_
  refine v_gfR o lkX3_7 (by decide) (wfRow_o ha) (wfRow_r0 ha) dX3_copyFrom_20 ?_
  refine v_iconst o (v := 0) dX3_copyFrom_23 (by decide) ?_
  refine v_iload_n o 0 dX3_copyFrom_24 rfl ?_
  refine v_copy o (mU 358 (by decide +kernel) rfl) (mU 360 (by decide +kernel) rfl) (mU 359 (by decide +kernel) rfl) (mU 97 (by decide +kernel) rfl) (wfRow_t0 hb1) (wfRow_t0 ha) rfl rfl (by decide) (by decide) h.1.1 h.1.2.1 h.1.2.2 (by decide) (by decide) dX3_copyFrom_25 ?_
  replace h := h.2
  refine v_nmf (fun g25 eg25 => ?_)
  replace h := h g25 eg25
  exact v_vret o rfl hr dX3_copyFrom_28 h
abbrev kX3_copyFrom := @vX3_copyFrom
abbrev metX3_copyFrom := @mX3_copyFrom

def vX6_copyFrom (P : Sk) (f : St) (a : Nat) (b1 : Nat) (K : St → Prop) : Prop :=
  ∀ g5 : St, g5 = setf f a 1 (f b1 1) → ∀ g13 : St, g13 = setf g5 a 2 (g5 b1 2) → kX3_copyFrom P g13 (a + 1) (b1 + 1) (fun g24 => K g24)
set_option maxRecDepth 20000 in
set_option maxHeartbeats 4000000 in
theorem mX6_copyFrom (l : Launch) (G : Gl) (P : Sk) (f : St) (sz : Nat) (a : Nat) (ha : IsWord P a) (b1 : Nat) (hb1 : IsWord P b1) (K : St → Prop) (h : vX6_copyFrom P f a b1 K)  :
  Met l yX6_copyFrom (wU yX6_copyFrom cX6_copyFrom 2 none) rmX6_copyFrom (PcW G P f sz [.ref a, .ref b1]) (QcV G P sz K) 0 0 (frA P sz) := by
  refine v_met (own := RX6) [.ref a, .ref b1] (by decide +kernel) rfl (Nat.le_of_ble_eq_true rfl) (fun p e s m args below meth c hsz o hr hnm => ?_)
  refine v_lv (lv2 := [(0, .ref a), (1, .ref b1)]) rfl ?_
  unfold vX6_copyFrom at h
  refine v_aload_n o 0 dX6_copyFrom_0 rfl ?_
  refine v_aload_n o 1 dX6_copyFrom_1 rfl ?_
  refine v_gfI o lkX6_20 (by decide) (wfWord_o hb1) dX6_copyFrom_2 ?_
  refine v_pf o lpX6_20 (wfWord_o ha) ⟨rfl, rfl⟩ dX6_copyFrom_5 ?_
  refine v_nmf (fun g5 eg5 => ?_)
  replace h := h g5 eg5
  refine v_aload_n o 0 dX6_copyFrom_8 rfl ?_
  refine v_aload_n o 1 dX6_copyFrom_9 rfl ?_
  refine v_gfI o lkX6_24 (by decide) (wfWord_o hb1) dX6_copyFrom_10 ?_
  refine v_pf o lpX6_24 (wfWord_o ha) ⟨rfl, rfl⟩ dX6_copyFrom_13 ?_
  refine v_nmf (fun g13 eg13 => ?_)
  replace h := h g13 eg13
  refine v_aload_n o 0 dX6_copyFrom_16 rfl ?_
  refine v_gfR o lkX6_14 (by decide) (wfWord_o ha) (wfWord_r0 ha) dX6_copyFrom_17 ?_
  refine v_aload_n o 1 dX6_copyFrom_20 rfl ?_
  refine v_gfR o lkX6_14 (by decide) (wfWord_o hb1) (wfWord_r0 hb1) dX6_copyFrom_21 ?_
  refine v_cVv o [.ref (b1 + 1)] [] (fun sz => metX3_copyFrom l G P g13 sz (a + 1) (wfWord_t0 ha) (b1 + 1) (wfWord_t0 hb1) _ h) (cwX6_44 o.1.2.2.2.2 (by decide)) ⟨_, _, rfl⟩ (by decide) (wfRow_o (wfWord_t0 ha)) rfl (Nat.le_of_ble_eq_true rfl) ⟨Nat.le_of_ble_eq_true rfl, Nat.le_of_ble_eq_true rfl⟩ dX6_copyFrom_24 rfl (fun g24 h => ?_)
  exact v_vret o rfl hr dX6_copyFrom_27 h
abbrev kX6_copyFrom := @vX6_copyFrom
abbrev metX6_copyFrom := @mX6_copyFrom

def vX5_copyFrom (P : Sk) (f : St) (a : Nat) (b1 : Nat) (K : St → Prop) : Prop :=
  ∀ g5 : St, g5 = setf f a 7 (f b1 7) → kX3_copyFrom P g5 (a + 1) (b1 + 1) (fun g16 => kX3_copyFrom P g16 (a + 3) (b1 + 3) (fun g27 => kX3_copyFrom P g27 (a + 5) (b1 + 5) (fun g38 => kX3_copyFrom P g38 (a + 7) (b1 + 7) (fun g49 => kX3_copyFrom P g49 (a + 9) (b1 + 9) (fun g60 => kX3_copyFrom P g60 (a + 11) (b1 + 11) (fun g71 => K g71))))))
set_option maxRecDepth 20000 in
set_option maxHeartbeats 4000000 in
theorem mX5_copyFrom (l : Launch) (G : Gl) (P : Sk) (f : St) (sz : Nat) (a : Nat) (ha : IsTrace P a) (b1 : Nat) (hb1 : IsTrace P b1) (K : St → Prop) (h : vX5_copyFrom P f a b1 K)  :
  Met l yX5_copyFrom (wU yX5_copyFrom cX5_copyFrom 2 none) rmX5_copyFrom (PcW G P f sz [.ref a, .ref b1]) (QcV G P sz K) 0 0 (frA P sz) := by
  refine v_met (own := RX5) [.ref a, .ref b1] (by decide +kernel) rfl (Nat.le_of_ble_eq_true rfl) (fun p e s m args below meth c hsz o hr hnm => ?_)
  refine v_lv (lv2 := [(0, .ref a), (1, .ref b1)]) rfl ?_
  unfold vX5_copyFrom at h
  refine v_aload_n o 0 dX5_copyFrom_0 rfl ?_
  refine v_aload_n o 1 dX5_copyFrom_1 rfl ?_
  refine v_gfI o lkX5_38 (by decide) (wfTrace_o hb1) dX5_copyFrom_2 ?_
  refine v_pf o lpX5_38 (wfTrace_o ha) ⟨rfl, rfl⟩ dX5_copyFrom_5 ?_
  refine v_nmf (fun g5 eg5 => ?_)
  replace h := h g5 eg5
  refine v_aload_n o 0 dX5_copyFrom_8 rfl ?_
  refine v_gfR o lkX5_14 (by decide) (wfTrace_o ha) (wfTrace_r0 ha) dX5_copyFrom_9 ?_
  refine v_aload_n o 1 dX5_copyFrom_12 rfl ?_
  refine v_gfR o lkX5_14 (by decide) (wfTrace_o hb1) (wfTrace_r0 hb1) dX5_copyFrom_13 ?_
  refine v_cVv o [.ref (b1 + 1)] [] (fun sz => metX3_copyFrom l G P g5 sz (a + 1) (wfTrace_t0 ha) (b1 + 1) (wfTrace_t0 hb1) _ h) (cwX5_71 o.1.2.2.2.2 (by decide)) ⟨_, _, rfl⟩ (by decide) (wfRow_o (wfTrace_t0 ha)) rfl (Nat.le_of_ble_eq_true rfl) ⟨Nat.le_of_ble_eq_true rfl, Nat.le_of_ble_eq_true rfl⟩ dX5_copyFrom_16 rfl (fun g16 h => ?_)
  refine v_aload_n o 0 dX5_copyFrom_19 rfl ?_
  refine v_gfR o lkX5_20 (by decide) (wfTrace_o ha) (wfTrace_r1 ha) dX5_copyFrom_20 ?_
  refine v_aload_n o 1 dX5_copyFrom_23 rfl ?_
  refine v_gfR o lkX5_20 (by decide) (wfTrace_o hb1) (wfTrace_r1 hb1) dX5_copyFrom_24 ?_
  refine v_cVv o [.ref (b1 + 3)] [] (fun sz => metX3_copyFrom l G P g16 sz (a + 3) (wfTrace_t1 ha) (b1 + 3) (wfTrace_t1 hb1) _ h) (cwX5_71 o.1.2.2.2.2 (by decide)) ⟨_, _, rfl⟩ (by decide) (wfRow_o (wfTrace_t1 ha)) rfl (Nat.le_of_ble_eq_true rfl) ⟨Nat.le_of_ble_eq_true rfl, Nat.le_of_ble_eq_true rfl⟩ dX5_copyFrom_27 rfl (fun g27 h => ?_)
  refine v_aload_n o 0 dX5_copyFrom_30 rfl ?_
  refine v_gfR o lkX5_23 (by decide) (wfTrace_o ha) (wfTrace_r2 ha) dX5_copyFrom_31 ?_
  refine v_aload_n o 1 dX5_copyFrom_34 rfl ?_
  refine v_gfR o lkX5_23 (by decide) (wfTrace_o hb1) (wfTrace_r2 hb1) dX5_copyFrom_35 ?_
  refine v_cVv o [.ref (b1 + 5)] [] (fun sz => metX3_copyFrom l G P g27 sz (a + 5) (wfTrace_t2 ha) (b1 + 5) (wfTrace_t2 hb1) _ h) (cwX5_71 o.1.2.2.2.2 (by decide)) ⟨_, _, rfl⟩ (by decide) (wfRow_o (wfTrace_t2 ha)) rfl (Nat.le_of_ble_eq_true rfl) ⟨Nat.le_of_ble_eq_true rfl, Nat.le_of_ble_eq_true rfl⟩ dX5_copyFrom_38 rfl (fun g38 h => ?_)
  refine v_aload_n o 0 dX5_copyFrom_41 rfl ?_
  refine v_gfR o lkX5_26 (by decide) (wfTrace_o ha) (wfTrace_r3 ha) dX5_copyFrom_42 ?_
  refine v_aload_n o 1 dX5_copyFrom_45 rfl ?_
  refine v_gfR o lkX5_26 (by decide) (wfTrace_o hb1) (wfTrace_r3 hb1) dX5_copyFrom_46 ?_
  refine v_cVv o [.ref (b1 + 7)] [] (fun sz => metX3_copyFrom l G P g38 sz (a + 7) (wfTrace_t3 ha) (b1 + 7) (wfTrace_t3 hb1) _ h) (cwX5_71 o.1.2.2.2.2 (by decide)) ⟨_, _, rfl⟩ (by decide) (wfRow_o (wfTrace_t3 ha)) rfl (Nat.le_of_ble_eq_true rfl) ⟨Nat.le_of_ble_eq_true rfl, Nat.le_of_ble_eq_true rfl⟩ dX5_copyFrom_49 rfl (fun g49 h => ?_)
  refine v_aload_n o 0 dX5_copyFrom_52 rfl ?_
  refine v_gfR o lkX5_29 (by decide) (wfTrace_o ha) (wfTrace_r4 ha) dX5_copyFrom_53 ?_
  refine v_aload_n o 1 dX5_copyFrom_56 rfl ?_
  refine v_gfR o lkX5_29 (by decide) (wfTrace_o hb1) (wfTrace_r4 hb1) dX5_copyFrom_57 ?_
  refine v_cVv o [.ref (b1 + 9)] [] (fun sz => metX3_copyFrom l G P g49 sz (a + 9) (wfTrace_t4 ha) (b1 + 9) (wfTrace_t4 hb1) _ h) (cwX5_71 o.1.2.2.2.2 (by decide)) ⟨_, _, rfl⟩ (by decide) (wfRow_o (wfTrace_t4 ha)) rfl (Nat.le_of_ble_eq_true rfl) ⟨Nat.le_of_ble_eq_true rfl, Nat.le_of_ble_eq_true rfl⟩ dX5_copyFrom_60 rfl (fun g60 h => ?_)
  refine v_aload_n o 0 dX5_copyFrom_63 rfl ?_
  refine v_gfR o lkX5_32 (by decide) (wfTrace_o ha) (wfTrace_r5 ha) dX5_copyFrom_64 ?_
  refine v_aload_n o 1 dX5_copyFrom_67 rfl ?_
  refine v_gfR o lkX5_32 (by decide) (wfTrace_o hb1) (wfTrace_r5 hb1) dX5_copyFrom_68 ?_
  refine v_cVv o [.ref (b1 + 11)] [] (fun sz => metX3_copyFrom l G P g60 sz (a + 11) (wfTrace_t5 ha) (b1 + 11) (wfTrace_t5 hb1) _ h) (cwX5_71 o.1.2.2.2.2 (by decide)) ⟨_, _, rfl⟩ (by decide) (wfRow_o (wfTrace_t5 ha)) rfl (Nat.le_of_ble_eq_true rfl) ⟨Nat.le_of_ble_eq_true rfl, Nat.le_of_ble_eq_true rfl⟩ dX5_copyFrom_71 rfl (fun g71 h => ?_)
  exact v_vret o rfl hr dX5_copyFrom_74 h
abbrev kX5_copyFrom := @vX5_copyFrom
abbrev metX5_copyFrom := @mX5_copyFrom

def vX2_copyFrom (P : Sk) (f : St) (a : Nat) (b1 : Nat) (K : St → Prop) : Prop :=
  kX6_copyFrom P f (a + 1) (b1 + 1) (fun g8 => kX6_copyFrom P g8 (a + 4) (b1 + 4) (fun g19 => kX5_copyFrom P g19 (a + 7) (b1 + 7) (fun g30 => K g30)))
set_option maxRecDepth 20000 in
set_option maxHeartbeats 4000000 in
theorem mX2_copyFrom (l : Launch) (G : Gl) (P : Sk) (f : St) (sz : Nat) (a : Nat) (ha : IsLoaf P a) (b1 : Nat) (hb1 : IsLoaf P b1) (K : St → Prop) (h : vX2_copyFrom P f a b1 K)  :
  Met l yX2_copyFrom (wU yX2_copyFrom cX2_copyFrom 2 none) rmX2_copyFrom (PcW G P f sz [.ref a, .ref b1]) (QcV G P sz K) 0 0 (frA P sz) := by
  refine v_met (own := RX2) [.ref a, .ref b1] (by decide +kernel) rfl (Nat.le_of_ble_eq_true rfl) (fun p e s m args below meth c hsz o hr hnm => ?_)
  refine v_lv (lv2 := [(0, .ref a), (1, .ref b1)]) rfl ?_
  unfold vX2_copyFrom at h
  refine v_aload_n o 0 dX2_copyFrom_0 rfl ?_
  refine v_gfR o lkX2_12 (by decide) (wfLoaf_o ha) (wfLoaf_r0 ha) dX2_copyFrom_1 ?_
  refine v_aload_n o 1 dX2_copyFrom_4 rfl ?_
  refine v_gfR o lkX2_12 (by decide) (wfLoaf_o hb1) (wfLoaf_r0 hb1) dX2_copyFrom_5 ?_
  refine v_cVv o [.ref (b1 + 1)] [] (fun sz => metX6_copyFrom l G P f sz (a + 1) (wfLoaf_t0 ha) (b1 + 1) (wfLoaf_t0 hb1) _ h) (cwX2_39 o.1.2.2.2.2 (by decide)) ⟨_, _, rfl⟩ (by decide) (wfWord_o (wfLoaf_t0 ha)) rfl (Nat.le_of_ble_eq_true rfl) ⟨Nat.le_of_ble_eq_true rfl, Nat.le_of_ble_eq_true rfl⟩ dX2_copyFrom_8 rfl (fun g8 h => ?_)
  refine v_aload_n o 0 dX2_copyFrom_11 rfl ?_
  refine v_gfR o lkX2_18 (by decide) (wfLoaf_o ha) (wfLoaf_r1 ha) dX2_copyFrom_12 ?_
  refine v_aload_n o 1 dX2_copyFrom_15 rfl ?_
  refine v_gfR o lkX2_18 (by decide) (wfLoaf_o hb1) (wfLoaf_r1 hb1) dX2_copyFrom_16 ?_
  refine v_cVv o [.ref (b1 + 4)] [] (fun sz => metX6_copyFrom l G P g8 sz (a + 4) (wfLoaf_t1 ha) (b1 + 4) (wfLoaf_t1 hb1) _ h) (cwX2_39 o.1.2.2.2.2 (by decide)) ⟨_, _, rfl⟩ (by decide) (wfWord_o (wfLoaf_t1 ha)) rfl (Nat.le_of_ble_eq_true rfl) ⟨Nat.le_of_ble_eq_true rfl, Nat.le_of_ble_eq_true rfl⟩ dX2_copyFrom_19 rfl (fun g19 h => ?_)
  refine v_aload_n o 0 dX2_copyFrom_22 rfl ?_
  refine v_gfR o lkX2_24 (by decide) (wfLoaf_o ha) (wfLoaf_r2 ha) dX2_copyFrom_23 ?_
  refine v_aload_n o 1 dX2_copyFrom_26 rfl ?_
  refine v_gfR o lkX2_24 (by decide) (wfLoaf_o hb1) (wfLoaf_r2 hb1) dX2_copyFrom_27 ?_
  refine v_cVv o [.ref (b1 + 7)] [] (fun sz => metX5_copyFrom l G P g19 sz (a + 7) (wfLoaf_t2 ha) (b1 + 7) (wfLoaf_t2 hb1) _ h) (cwX2_42 o.1.2.2.2.2 (by decide)) ⟨_, _, rfl⟩ (by decide) (wfTrace_o (wfLoaf_t2 ha)) rfl (Nat.le_of_ble_eq_true rfl) ⟨Nat.le_of_ble_eq_true rfl, Nat.le_of_ble_eq_true rfl⟩ dX2_copyFrom_30 rfl (fun g30 h => ?_)
  exact v_vret o rfl hr dX2_copyFrom_33 h
abbrev kX2_copyFrom := @vX2_copyFrom
abbrev metX2_copyFrom := @mX2_copyFrom

def vX0_addLoaf (P : Sk) (f : St) (a : Nat) (b1 : Nat) (K : St → Prop) : Prop :=
  (6 ≤ f a 2 → K f) ∧ (¬ 6 ≤ f a 2 → kX2_copyFrom P f (atB a (f a 2)) b1 (fun g18 => ∀ g28 : St, g28 = setf g18 a 2 ((g18 a 2) + 1) → K g28))
set_option maxRecDepth 20000 in
set_option maxHeartbeats 4000000 in
theorem mX0_addLoaf (l : Launch) (G : Gl) (P : Sk) (f : St) (sz : Nat) (a : Nat) (ha : IsBoard P a) (b1 : Nat) (hb1 : IsLoaf P b1) (K : St → Prop) (h : vX0_addLoaf P f a b1 K)  :
  Met l yX0_addLoaf (wU yX0_addLoaf cX0_addLoaf 2 none) rmX0_addLoaf (PcW G P f sz [.ref a, .ref b1]) (QcV G P sz K) 0 0 (frA P sz) := by
  refine v_met (own := RX0) [.ref a, .ref b1] (by decide +kernel) rfl (Nat.le_of_ble_eq_true rfl) (fun p e s m args below meth c hsz o hr hnm => ?_)
  refine v_lv (lv2 := [(0, .ref a), (1, .ref b1)]) rfl ?_
  unfold vX0_addLoaf at h
  refine v_aload_n o 0 dX0_addLoaf_0 rfl ?_
  refine v_gfI o lkX0_22 (by decide) (wfBoard_o ha) dX0_addLoaf_1 ?_
  refine v_bipush o (v := 6) dX0_addLoaf_4 (by decide) ?_
  refine v_icmp_ge o (tgt := 31) dX0_addLoaf_6 (by decide) (fun c6 => ?_) (fun c6 => ?_)
  · replace h := h.1 c6
    exact v_vret o rfl hr dX0_addLoaf_31 h
  · replace h := h.2 c6
    refine v_aload_n o 0 dX0_addLoaf_9 rfl ?_
    refine v_aload_n o 0 dX0_addLoaf_10 rfl ?_
    refine v_gfI o lkX0_22 (by decide) (wfBoard_o ha) dX0_addLoaf_11 ?_
    refine v_cVr o [.int (f a 2)] [] (fun sz => metX0_at l G P f sz a ha (f a 2)) (cwX0_35 o.1.2.2.2.2 (by decide)) ⟨_, _, rfl⟩ (by decide) (wfBoard_o ha) rfl (Nat.le_of_ble_eq_true rfl) ⟨Nat.le_of_ble_eq_true rfl, Nat.le_of_ble_eq_true rfl⟩ dX0_addLoaf_14 rfl (fun r14 g14 h14 => ?_)
    obtain ⟨rfl, rfl⟩ := h14
    refine v_aload_n o 1 dX0_addLoaf_17 rfl ?_
    refine v_cVv o [.ref b1] [] (fun sz => metX2_copyFrom l G P f sz (atB a (f a 2)) (is_atB ha (f a 2)) b1 hb1 _ h) (cwX0_39 o.1.2.2.2.2 (by decide)) ⟨_, _, rfl⟩ (by decide) (wfLoaf_o (is_atB ha (f a 2))) rfl (Nat.le_of_ble_eq_true rfl) ⟨Nat.le_of_ble_eq_true rfl, Nat.le_of_ble_eq_true rfl⟩ dX0_addLoaf_18 rfl (fun g18 h => ?_)
    refine v_aload_n o 0 dX0_addLoaf_21 rfl ?_
    refine v_dup o dX0_addLoaf_22 rfl ?_
    refine v_gfI o lkX0_22 (by decide) (wfBoard_o ha) dX0_addLoaf_23 ?_
    refine v_iconst o (v := 1) dX0_addLoaf_26 (by decide) ?_
    refine v_iadd o dX0_addLoaf_27 ?_
    refine v_pf o lpX0_22 (wfBoard_o ha) ⟨rfl, rfl⟩ dX0_addLoaf_28 ?_
    refine v_nmf (fun g28 eg28 => ?_)
    replace h := h g28 eg28
    exact v_vret o rfl hr dX0_addLoaf_31 h
abbrev kX0_addLoaf := @vX0_addLoaf
abbrev metX0_addLoaf := @mX0_addLoaf

def bX0_removeLoaf_11 (P : Sk) (a : Nat) (p1 : Int32) (L11 : St → Int32 → Prop) (K : St → Prop) (f : St) (x2 : Int32) : Prop :=
  ((f a 2) - 1 ≤ x2 → ∀ g49 : St, g49 = setf f a 2 ((f a 2) - 1) → K g49) ∧ (¬ (f a 2) - 1 ≤ x2 → kX2_copyFrom P f (atB a x2) (atB a (x2 + 1)) (fun g33 => ∀ x2_36 : Int32, x2_36 = x2 + 1 → L11 g33 x2_36))
def vX0_removeLoaf (P : Sk) (f : St) (a : Nat) (p1 : Int32) (L11 : St → Int32 → Prop) (K : St → Prop) : Prop :=
  kX0_has P f a p1 (fun r2 g2 => (¬ r2 = 0 → L11 g2 p1) ∧ (r2 = 0 → K g2))
set_option maxRecDepth 20000 in
set_option maxHeartbeats 4000000 in
theorem mX0_removeLoaf (l : Launch) (G : Gl) (P : Sk) (f : St) (sz : Nat) (a : Nat) (ha : IsBoard P a) (p1 : Int32) (K : St → Prop) (I11 : St → Int32 → Prop) (μ11 : St → Int32 → Nat) 
  (h : vX0_removeLoaf P f a p1 I11 K)
  (h11 : ∀ (g : St) (x2 : Int32) , I11 g x2 → bX0_removeLoaf_11 P a p1 (fun g' z0 => I11 g' z0 ∧ μ11 g' z0 < μ11 g x2) K g x2) :
  Met l yX0_removeLoaf (wU yX0_removeLoaf cX0_removeLoaf 3 none) rmX0_removeLoaf (PcW G P f sz [.ref a, .int p1]) (QcV G P sz K) 0 0 (frA P sz) := by
  refine v_met (own := RX0) [.ref a, .int p1] (by decide +kernel) rfl (Nat.le_of_ble_eq_true rfl) (fun p e s m args below meth c hsz o hr hnm => ?_)
  refine v_lv (lv2 := [(0, .ref a), (1, .int p1)]) rfl ?_
  have main : ∀ n : Nat, (∀ (g : St) (x2 : Int32) , I11 g x2 → μ11 g x2 < n → V p l e rmX0_removeLoaf s m args below meth c 3 G (frA P sz) (MQ below (QcV G P sz K) args s 0 0 (frA P sz)) 0 0 P [(0, .ref a), (1, .int p1), (2, .int x2)] [] 11 g) := by
    intro n
    induction n with
    | zero => exact fun g x2 hI hm => absurd hm (Nat.not_lt_zero _)
    | succ n ih =>
      intro g x2 hI hm
      have h := h11 g x2 hI
      clear hI
      unfold bX0_removeLoaf_11 at h
      refine v_iload_n o 2 dX0_removeLoaf_11 rfl ?_
      refine v_aload_n o 0 dX0_removeLoaf_12 rfl ?_
      refine v_gfI o lkX0_22 (by decide) (wfBoard_o ha) dX0_removeLoaf_13 ?_
      refine v_iconst o (v := 1) dX0_removeLoaf_16 (by decide) ?_
      refine v_isub o dX0_removeLoaf_17 ?_
      refine v_icmp_ge o (tgt := 42) dX0_removeLoaf_18 (by decide) (fun c18 => ?_) (fun c18 => ?_)
      · replace h := h.1 c18
        refine v_aload_n o 0 dX0_removeLoaf_42 rfl ?_
        refine v_dup o dX0_removeLoaf_43 rfl ?_
        refine v_gfI o lkX0_22 (by decide) (wfBoard_o ha) dX0_removeLoaf_44 ?_
        refine v_iconst o (v := 1) dX0_removeLoaf_47 (by decide) ?_
        refine v_isub o dX0_removeLoaf_48 ?_
        refine v_pf o lpX0_22 (wfBoard_o ha) ⟨rfl, rfl⟩ dX0_removeLoaf_49 ?_
        refine v_nmf (fun g49 eg49 => ?_)
        replace h := h g49 eg49
        exact v_vret o rfl hr dX0_removeLoaf_52 h
      · replace h := h.2 c18
        refine v_aload_n o 0 dX0_removeLoaf_21 rfl ?_
        refine v_iload_n o 2 dX0_removeLoaf_22 rfl ?_
        refine v_cVr o [.int x2] [] (fun sz => metX0_at l G P g sz a ha x2) (cwX0_35 o.1.2.2.2.2 (by decide)) ⟨_, _, rfl⟩ (by decide) (wfBoard_o ha) rfl (Nat.le_of_ble_eq_true rfl) ⟨Nat.le_of_ble_eq_true rfl, Nat.le_of_ble_eq_true rfl⟩ dX0_removeLoaf_23 rfl (fun r23 g23 h23 => ?_)
        obtain ⟨rfl, rfl⟩ := h23
        refine v_aload_n o 0 dX0_removeLoaf_26 rfl ?_
        refine v_iload_n o 2 dX0_removeLoaf_27 rfl ?_
        refine v_iconst o (v := 1) dX0_removeLoaf_28 (by decide) ?_
        refine v_iadd o dX0_removeLoaf_29 ?_
        refine v_cVr o [.int (x2 + 1)] [.ref (atB a x2)] (fun sz => metX0_at l G P g sz a ha (x2 + 1)) (cwX0_35 o.1.2.2.2.2 (by decide)) ⟨_, _, rfl⟩ (by decide) (wfBoard_o ha) rfl (Nat.le_of_ble_eq_true rfl) ⟨Nat.le_of_ble_eq_true rfl, Nat.le_of_ble_eq_true rfl⟩ dX0_removeLoaf_30 rfl (fun r30 g30 h30 => ?_)
        obtain ⟨rfl, rfl⟩ := h30
        refine v_cVv o [.ref (atB a (x2 + 1))] [] (fun sz => metX2_copyFrom l G P g sz (atB a x2) (is_atB ha x2) (atB a (x2 + 1)) (is_atB ha (x2 + 1)) _ h) (cwX0_39 o.1.2.2.2.2 (by decide)) ⟨_, _, rfl⟩ (by decide) (wfLoaf_o (is_atB ha x2)) rfl (Nat.le_of_ble_eq_true rfl) ⟨Nat.le_of_ble_eq_true rfl, Nat.le_of_ble_eq_true rfl⟩ dX0_removeLoaf_33 rfl (fun g33 h => ?_)
        obtain ⟨x2_36, ex2_36⟩ : ∃ y : Int32, y = x2 + 1 := ⟨_, rfl⟩
        replace h := h x2_36 ex2_36
        refine v_iinc o (v := x2_36) (lv' := [(2, .int x2_36), (0, .ref a), (1, .int p1)]) 2 dX0_removeLoaf_36 rfl (by rw [ex2_36]; rfl) (by decide) rfl ?_
        refine v_goto o (tgt := 11) dX0_removeLoaf_39 (by decide) ?_
        refine v_sub [1, 2, 0] (lv2 := [(0, .ref a), (1, .int p1), (2, .int x2_36)]) rfl ?_
        exact ih g33 x2_36  h.1 (by have := h.2; omega)
  unfold vX0_removeLoaf at h
  refine v_aload_n o 0 dX0_removeLoaf_0 rfl ?_
  refine v_iload_n o 1 dX0_removeLoaf_1 rfl ?_
  refine v_cVi o [.int p1] [] (fun sz => metX0_has l G P f sz a ha p1 _ h) (cwX0_43 o.1.2.2.2.2 (by decide)) ⟨_, _, rfl⟩ (by decide) (wfBoard_o ha) rfl (Nat.le_of_ble_eq_true rfl) ⟨Nat.le_of_ble_eq_true rfl, Nat.le_of_ble_eq_true rfl⟩ dX0_removeLoaf_2 rfl (fun r2 g2 h => ?_)
  refine v_if_ne o (tgt := 9) dX0_removeLoaf_5 (by decide) (fun c5 => ?_) (fun c5 => ?_)
  · replace h := h.1 c5
    refine v_iload_n o 1 dX0_removeLoaf_9 rfl ?_
    refine v_istore_n o (lv' := [(2, .int p1), (0, .ref a), (1, .int p1)]) dX0_removeLoaf_10 rfl (by decide) rfl ?_
    refine v_sub [1, 2, 0] (lv2 := [(0, .ref a), (1, .int p1), (2, .int p1)]) rfl ?_
    exact (main (μ11 g2 p1 + 1)) g2 p1  h (Nat.lt_succ_self _)
  · replace h := h.2 c5
    exact v_vret o rfl hr dX0_removeLoaf_8 h
def kX0_removeLoaf (P : Sk) (f : St) (a : Nat) (p1 : Int32) (K : St → Prop) : Prop := False
theorem metX0_removeLoaf (l : Launch) (G : Gl) (P : Sk) (f : St) (sz : Nat) (a : Nat) (ha : IsBoard P a) (p1 : Int32) (K : St → Prop) (h : kX0_removeLoaf P f a p1 K) : Met l yX0_removeLoaf (wU yX0_removeLoaf cX0_removeLoaf 3 none) rmX0_removeLoaf (PcW G P f sz [.ref a, .int p1]) (QcV G P sz K) 0 0 (frA P sz) := sorry

def vX0_changes (P : Sk) (f : St) (a : Nat) (K : Int32 → St → Prop) : Prop :=
  K (f a 3) f
set_option maxRecDepth 20000 in
set_option maxHeartbeats 4000000 in
theorem mX0_changes (l : Launch) (G : Gl) (P : Sk) (f : St) (sz : Nat) (a : Nat) (ha : IsBoard P a) (K : Int32 → St → Prop) (h : vX0_changes P f a K)  :
  Met l yX0_changes (wU yX0_changes cX0_changes 1 (some .int)) rmX0_changes (PcW G P f sz [.ref a]) (QcI G P sz K) 0 0 (frA P sz) := by
  refine v_met (own := RX0) [.ref a] (by decide +kernel) rfl (Nat.le_of_ble_eq_true rfl) (fun p e s m args below meth c hsz o hr hnm => ?_)
  refine v_lv (lv2 := [(0, .ref a)]) rfl ?_
  unfold vX0_changes at h
  refine v_aload_n o 0 dX0_changes_0 rfl ?_
  refine v_gfI o lkX0_26 (by decide) (wfBoard_o ha) dX0_changes_1 ?_
  exact v_iret o rfl hr dX0_changes_4 h
abbrev kX0_changes := @vX0_changes
abbrev metX0_changes := @mX0_changes

def vX0_addChange (P : Sk) (f : St) (a : Nat) (K : St → Prop) : Prop :=
  ∀ g7 : St, g7 = setf f a 3 ((f a 3) + 1) → K g7
set_option maxRecDepth 20000 in
set_option maxHeartbeats 4000000 in
theorem mX0_addChange (l : Launch) (G : Gl) (P : Sk) (f : St) (sz : Nat) (a : Nat) (ha : IsBoard P a) (K : St → Prop) (h : vX0_addChange P f a K)  :
  Met l yX0_addChange (wU yX0_addChange cX0_addChange 1 none) rmX0_addChange (PcW G P f sz [.ref a]) (QcV G P sz K) 0 0 (frA P sz) := by
  refine v_met (own := RX0) [.ref a] (by decide +kernel) rfl (Nat.le_of_ble_eq_true rfl) (fun p e s m args below meth c hsz o hr hnm => ?_)
  refine v_lv (lv2 := [(0, .ref a)]) rfl ?_
  unfold vX0_addChange at h
  refine v_aload_n o 0 dX0_addChange_0 rfl ?_
  refine v_dup o dX0_addChange_1 rfl ?_
  refine v_gfI o lkX0_26 (by decide) (wfBoard_o ha) dX0_addChange_2 ?_
  refine v_iconst o (v := 1) dX0_addChange_5 (by decide) ?_
  refine v_iadd o dX0_addChange_6 ?_
  refine v_pf o lpX0_26 (wfBoard_o ha) ⟨rfl, rfl⟩ dX0_addChange_7 ?_
  refine v_nmf (fun g7 eg7 => ?_)
  replace h := h g7 eg7
  exact v_vret o rfl hr dX0_addChange_10 h
abbrev kX0_addChange := @vX0_addChange
abbrev metX0_addChange := @mX0_addChange

def vX0_stopPart (P : Sk) (f : St) (a : Nat) (K : Int32 → St → Prop) : Prop :=
  K (f a 4) f
set_option maxRecDepth 20000 in
set_option maxHeartbeats 4000000 in
theorem mX0_stopPart (l : Launch) (G : Gl) (P : Sk) (f : St) (sz : Nat) (a : Nat) (ha : IsBoard P a) (K : Int32 → St → Prop) (h : vX0_stopPart P f a K)  :
  Met l yX0_stopPart (wU yX0_stopPart cX0_stopPart 1 (some .int)) rmX0_stopPart (PcW G P f sz [.ref a]) (QcI G P sz K) 0 0 (frA P sz) := by
  refine v_met (own := RX0) [.ref a] (by decide +kernel) rfl (Nat.le_of_ble_eq_true rfl) (fun p e s m args below meth c hsz o hr hnm => ?_)
  refine v_lv (lv2 := [(0, .ref a)]) rfl ?_
  unfold vX0_stopPart at h
  refine v_aload_n o 0 dX0_stopPart_0 rfl ?_
  refine v_gfI o lkX0_29 (by decide) (wfBoard_o ha) dX0_stopPart_1 ?_
  exact v_iret o rfl hr dX0_stopPart_4 h
abbrev kX0_stopPart := @vX0_stopPart
abbrev metX0_stopPart := @mX0_stopPart

def vX0_stopReason (P : Sk) (f : St) (a : Nat) (K : Int32 → St → Prop) : Prop :=
  K (f a 5) f
set_option maxRecDepth 20000 in
set_option maxHeartbeats 4000000 in
theorem mX0_stopReason (l : Launch) (G : Gl) (P : Sk) (f : St) (sz : Nat) (a : Nat) (ha : IsBoard P a) (K : Int32 → St → Prop) (h : vX0_stopReason P f a K)  :
  Met l yX0_stopReason (wU yX0_stopReason cX0_stopReason 1 (some .int)) rmX0_stopReason (PcW G P f sz [.ref a]) (QcI G P sz K) 0 0 (frA P sz) := by
  refine v_met (own := RX0) [.ref a] (by decide +kernel) rfl (Nat.le_of_ble_eq_true rfl) (fun p e s m args below meth c hsz o hr hnm => ?_)
  refine v_lv (lv2 := [(0, .ref a)]) rfl ?_
  unfold vX0_stopReason at h
  refine v_aload_n o 0 dX0_stopReason_0 rfl ?_
  refine v_gfI o lkX0_32 (by decide) (wfBoard_o ha) dX0_stopReason_1 ?_
  exact v_iret o rfl hr dX0_stopReason_4 h
abbrev kX0_stopReason := @vX0_stopReason
abbrev metX0_stopReason := @mX0_stopReason

def vX0_setStop (P : Sk) (f : St) (a : Nat) (p1 : Int32) (p2 : Int32) (K : St → Prop) : Prop :=
  ∀ g2 : St, g2 = setf f a 4 p1 → ∀ g7 : St, g7 = setf g2 a 5 p2 → K g7
set_option maxRecDepth 20000 in
set_option maxHeartbeats 4000000 in
theorem mX0_setStop (l : Launch) (G : Gl) (P : Sk) (f : St) (sz : Nat) (a : Nat) (ha : IsBoard P a) (p1 : Int32) (p2 : Int32) (K : St → Prop) (h : vX0_setStop P f a p1 p2 K)  :
  Met l yX0_setStop (wU yX0_setStop cX0_setStop 3 none) rmX0_setStop (PcW G P f sz [.ref a, .int p1, .int p2]) (QcV G P sz K) 0 0 (frA P sz) := by
  refine v_met (own := RX0) [.ref a, .int p1, .int p2] (by decide +kernel) rfl (Nat.le_of_ble_eq_true rfl) (fun p e s m args below meth c hsz o hr hnm => ?_)
  refine v_lv (lv2 := [(0, .ref a), (1, .int p1), (2, .int p2)]) rfl ?_
  unfold vX0_setStop at h
  refine v_aload_n o 0 dX0_setStop_0 rfl ?_
  refine v_iload_n o 1 dX0_setStop_1 rfl ?_
  refine v_pf o lpX0_29 (wfBoard_o ha) ⟨rfl, rfl⟩ dX0_setStop_2 ?_
  refine v_nmf (fun g2 eg2 => ?_)
  replace h := h g2 eg2
  refine v_aload_n o 0 dX0_setStop_5 rfl ?_
  refine v_iload_n o 2 dX0_setStop_6 rfl ?_
  refine v_pf o lpX0_32 (wfBoard_o ha) ⟨rfl, rfl⟩ dX0_setStop_7 ?_
  refine v_nmf (fun g7 eg7 => ?_)
  replace h := h g7 eg7
  exact v_vret o rfl hr dX0_setStop_10 h
abbrev kX0_setStop := @vX0_setStop
abbrev metX0_setStop := @mX0_setStop

def bX0_copyFrom_34 (P : Sk) (a : Nat) (b1 : Nat) (L34 : St → Int32 → Prop) (K : St → Prop) (f : St) (x2 : Int32) : Prop :=
  (f a 2 ≤ x2 → K f) ∧ (¬ f a 2 ≤ x2 → kX2_copyFrom P f (atB a x2) (atB b1 x2) (fun g52 => ∀ x2_55 : Int32, x2_55 = x2 + 1 → L34 g52 x2_55))
def vX0_copyFrom (P : Sk) (f : St) (a : Nat) (b1 : Nat) (L34 : St → Int32 → Prop) (K : St → Prop) : Prop :=
  ∀ g5 : St, g5 = setf f a 2 (f b1 2) → ∀ g13 : St, g13 = setf g5 a 3 (g5 b1 3) → ∀ g21 : St, g21 = setf g13 a 4 (g13 b1 4) → ∀ g29 : St, g29 = setf g21 a 5 (g21 b1 5) → L34 g29 0
set_option maxRecDepth 20000 in
set_option maxHeartbeats 4000000 in
theorem mX0_copyFrom (l : Launch) (G : Gl) (P : Sk) (f : St) (sz : Nat) (a : Nat) (ha : IsBoard P a) (b1 : Nat) (hb1 : IsBoard P b1) (K : St → Prop) (I34 : St → Int32 → Prop) (μ34 : St → Int32 → Nat) 
  (h : vX0_copyFrom P f a b1 I34 K)
  (h34 : ∀ (g : St) (x2 : Int32) , I34 g x2 → bX0_copyFrom_34 P a b1 (fun g' z0 => I34 g' z0 ∧ μ34 g' z0 < μ34 g x2) K g x2) :
  Met l yX0_copyFrom (wU yX0_copyFrom cX0_copyFrom 3 none) rmX0_copyFrom (PcW G P f sz [.ref a, .ref b1]) (QcV G P sz K) 0 0 (frA P sz) := by
  refine v_met (own := RX0) [.ref a, .ref b1] (by decide +kernel) rfl (Nat.le_of_ble_eq_true rfl) (fun p e s m args below meth c hsz o hr hnm => ?_)
  refine v_lv (lv2 := [(0, .ref a), (1, .ref b1)]) rfl ?_
  have main : ∀ n : Nat, (∀ (g : St) (x2 : Int32) , I34 g x2 → μ34 g x2 < n → V p l e rmX0_copyFrom s m args below meth c 3 G (frA P sz) (MQ below (QcV G P sz K) args s 0 0 (frA P sz)) 0 0 P [(0, .ref a), (1, .ref b1), (2, .int x2)] [] 34 g) := by
    intro n
    induction n with
    | zero => exact fun g x2 hI hm => absurd hm (Nat.not_lt_zero _)
    | succ n ih =>
      intro g x2 hI hm
      have h := h34 g x2 hI
      clear hI
      unfold bX0_copyFrom_34 at h
      refine v_iload_n o 2 dX0_copyFrom_34 rfl ?_
      refine v_aload_n o 0 dX0_copyFrom_35 rfl ?_
      refine v_gfI o lkX0_22 (by decide) (wfBoard_o ha) dX0_copyFrom_36 ?_
      refine v_icmp_ge o (tgt := 61) dX0_copyFrom_39 (by decide) (fun c39 => ?_) (fun c39 => ?_)
      · replace h := h.1 c39
        exact v_vret o rfl hr dX0_copyFrom_61 h
      · replace h := h.2 c39
        refine v_aload_n o 0 dX0_copyFrom_42 rfl ?_
        refine v_iload_n o 2 dX0_copyFrom_43 rfl ?_
        refine v_cVr o [.int x2] [] (fun sz => metX0_at l G P g sz a ha x2) (cwX0_35 o.1.2.2.2.2 (by decide)) ⟨_, _, rfl⟩ (by decide) (wfBoard_o ha) rfl (Nat.le_of_ble_eq_true rfl) ⟨Nat.le_of_ble_eq_true rfl, Nat.le_of_ble_eq_true rfl⟩ dX0_copyFrom_44 rfl (fun r44 g44 h44 => ?_)
        obtain ⟨rfl, rfl⟩ := h44
        refine v_aload_n o 1 dX0_copyFrom_47 rfl ?_
        refine v_iload_n o 2 dX0_copyFrom_48 rfl ?_
        refine v_cVr o [.int x2] [.ref (atB a x2)] (fun sz => metX0_at l G P g sz b1 hb1 x2) (cwX0_35 o.1.2.2.2.2 (by decide)) ⟨_, _, rfl⟩ (by decide) (wfBoard_o hb1) rfl (Nat.le_of_ble_eq_true rfl) ⟨Nat.le_of_ble_eq_true rfl, Nat.le_of_ble_eq_true rfl⟩ dX0_copyFrom_49 rfl (fun r49 g49 h49 => ?_)
        obtain ⟨rfl, rfl⟩ := h49
        refine v_cVv o [.ref (atB b1 x2)] [] (fun sz => metX2_copyFrom l G P g sz (atB a x2) (is_atB ha x2) (atB b1 x2) (is_atB hb1 x2) _ h) (cwX0_39 o.1.2.2.2.2 (by decide)) ⟨_, _, rfl⟩ (by decide) (wfLoaf_o (is_atB ha x2)) rfl (Nat.le_of_ble_eq_true rfl) ⟨Nat.le_of_ble_eq_true rfl, Nat.le_of_ble_eq_true rfl⟩ dX0_copyFrom_52 rfl (fun g52 h => ?_)
        obtain ⟨x2_55, ex2_55⟩ : ∃ y : Int32, y = x2 + 1 := ⟨_, rfl⟩
        replace h := h x2_55 ex2_55
        refine v_iinc o (v := x2_55) (lv' := [(2, .int x2_55), (0, .ref a), (1, .ref b1)]) 2 dX0_copyFrom_55 rfl (by rw [ex2_55]; rfl) (by decide) rfl ?_
        refine v_goto o (tgt := 34) dX0_copyFrom_58 (by decide) ?_
        refine v_sub [1, 2, 0] (lv2 := [(0, .ref a), (1, .ref b1), (2, .int x2_55)]) rfl ?_
        exact ih g52 x2_55  h.1 (by have := h.2; omega)
  unfold vX0_copyFrom at h
  refine v_aload_n o 0 dX0_copyFrom_0 rfl ?_
  refine v_aload_n o 1 dX0_copyFrom_1 rfl ?_
  refine v_gfI o lkX0_22 (by decide) (wfBoard_o hb1) dX0_copyFrom_2 ?_
  refine v_pf o lpX0_22 (wfBoard_o ha) ⟨rfl, rfl⟩ dX0_copyFrom_5 ?_
  refine v_nmf (fun g5 eg5 => ?_)
  replace h := h g5 eg5
  refine v_aload_n o 0 dX0_copyFrom_8 rfl ?_
  refine v_aload_n o 1 dX0_copyFrom_9 rfl ?_
  refine v_gfI o lkX0_26 (by decide) (wfBoard_o hb1) dX0_copyFrom_10 ?_
  refine v_pf o lpX0_26 (wfBoard_o ha) ⟨rfl, rfl⟩ dX0_copyFrom_13 ?_
  refine v_nmf (fun g13 eg13 => ?_)
  replace h := h g13 eg13
  refine v_aload_n o 0 dX0_copyFrom_16 rfl ?_
  refine v_aload_n o 1 dX0_copyFrom_17 rfl ?_
  refine v_gfI o lkX0_29 (by decide) (wfBoard_o hb1) dX0_copyFrom_18 ?_
  refine v_pf o lpX0_29 (wfBoard_o ha) ⟨rfl, rfl⟩ dX0_copyFrom_21 ?_
  refine v_nmf (fun g21 eg21 => ?_)
  replace h := h g21 eg21
  refine v_aload_n o 0 dX0_copyFrom_24 rfl ?_
  refine v_aload_n o 1 dX0_copyFrom_25 rfl ?_
  refine v_gfI o lkX0_32 (by decide) (wfBoard_o hb1) dX0_copyFrom_26 ?_
  refine v_pf o lpX0_32 (wfBoard_o ha) ⟨rfl, rfl⟩ dX0_copyFrom_29 ?_
  refine v_nmf (fun g29 eg29 => ?_)
  replace h := h g29 eg29
  refine v_iconst o (v := 0) dX0_copyFrom_32 (by decide) ?_
  refine v_istore_n o (lv' := [(2, .int 0), (0, .ref a), (1, .ref b1)]) dX0_copyFrom_33 rfl (by decide) rfl ?_
  refine v_sub [1, 2, 0] (lv2 := [(0, .ref a), (1, .ref b1), (2, .int 0)]) rfl ?_
  exact (main (μ34 g29 0 + 1)) g29 0  h (Nat.lt_succ_self _)
def kX0_copyFrom (P : Sk) (f : St) (a : Nat) (b1 : Nat) (K : St → Prop) : Prop := False
theorem metX0_copyFrom (l : Launch) (G : Gl) (P : Sk) (f : St) (sz : Nat) (a : Nat) (ha : IsBoard P a) (b1 : Nat) (hb1 : IsBoard P b1) (K : St → Prop) (h : kX0_copyFrom P f a b1 K) : Met l yX0_copyFrom (wU yX0_copyFrom cX0_copyFrom 3 none) rmX0_copyFrom (PcW G P f sz [.ref a, .ref b1]) (QcV G P sz K) 0 0 (frA P sz) := sorry

def vX1_size (P : Sk) (f : St) (a : Nat) (K : Int32 → St → Prop) : Prop :=
  K (f a 3) f
set_option maxRecDepth 20000 in
set_option maxHeartbeats 4000000 in
theorem mX1_size (l : Launch) (G : Gl) (P : Sk) (f : St) (sz : Nat) (a : Nat) (ha : IsHist P a) (K : Int32 → St → Prop) (h : vX1_size P f a K)  :
  Met l yX1_size (wU yX1_size cX1_size 1 (some .int)) rmX1_size (PcW G P f sz [.ref a]) (QcI G P sz K) 0 0 (frA P sz) := by
  refine v_met (own := RX1) [.ref a] (by decide +kernel) rfl (Nat.le_of_ble_eq_true rfl) (fun p e s m args below meth c hsz o hr hnm => ?_)
  refine v_lv (lv2 := [(0, .ref a)]) rfl ?_
  unfold vX1_size at h
  refine v_aload_n o 0 dX1_size_0 rfl ?_
  refine v_gfI o lkX1_26 (by decide) (wfHist_o ha) dX1_size_1 ?_
  exact v_iret o rfl hr dX1_size_4 h
abbrev kX1_size := @vX1_size
abbrev metX1_size := @mX1_size

def vJ9_floorMod_7cf53 (P : Sk) (f : St) (p0 : Int32) (p1 : Int32) (K : Int32 → St → Prop) : Prop :=
  (¬ p1 = 0) ∧ (∀ x2_3 : Int32, x2_3 = p0 - p0 / p1 * p1 → (0 ≤ p0 ^^^ p1 → K x2_3 f) ∧ (¬ 0 ≤ p0 ^^^ p1 → (x2_3 = 0 → K x2_3 f) ∧ (¬ x2_3 = 0 → K (x2_3 + p1) f)))
set_option maxRecDepth 20000 in
set_option maxHeartbeats 4000000 in
theorem mJ9_floorMod_7cf53 (l : Launch) (G : Gl) (P : Sk) (f : St) (sz : Nat) (p0 : Int32) (p1 : Int32) (K : Int32 → St → Prop) (h : vJ9_floorMod_7cf53 P f p0 p1 K)  :
  Met l yJ9_floorMod_7cf53 (wU yJ9_floorMod_7cf53 cJ9_floorMod_7cf53 3 (some .int)) rmJ9_floorMod_7cf53 (PcW G P f sz [.int p0, .int p1]) (QcI G P sz K) 0 0 (frA P sz) := by
  refine v_met (own := RJ9) [.int p0, .int p1] (by decide +kernel) rfl (Nat.le_of_ble_eq_true rfl) (fun p e s m args below meth c hsz o hr hnm => ?_)
  refine v_lv (lv2 := [(0, .int p0), (1, .int p1)]) rfl ?_
  unfold vJ9_floorMod_7cf53 at h
  refine v_iload_n o 0 dJ9_floorMod_7cf53_0 rfl ?_
  refine v_iload_n o 1 dJ9_floorMod_7cf53_1 rfl ?_
  refine v_irem o dJ9_floorMod_7cf53_2 h.1 ?_
  replace h := h.2
  refine v_topi (fun x2_3 ex2_3 => ?_)
  replace h := h x2_3 ex2_3
  refine v_istore_n o (lv' := [(2, .int x2_3), (0, .int p0), (1, .int p1)]) dJ9_floorMod_7cf53_3 rfl (by decide) rfl ?_
  refine v_iload_n o 1 dJ9_floorMod_7cf53_4 rfl ?_
  refine v_iload_n o 2 dJ9_floorMod_7cf53_5 rfl ?_
  refine v_ixor o dJ9_floorMod_7cf53_6 ?_
  refine v_if_ge o (tgt := 18) dJ9_floorMod_7cf53_7 (by decide) (fun c7 => ?_) (fun c7 => ?_)
  · replace h := h.1 c7
    refine v_iload_n o 0 dJ9_floorMod_7cf53_18 rfl ?_
    exact v_iret o rfl hr dJ9_floorMod_7cf53_19 h
  · replace h := h.2 c7
    refine v_iload_n o 0 dJ9_floorMod_7cf53_10 rfl ?_
    refine v_if_eq o (tgt := 18) dJ9_floorMod_7cf53_11 (by decide) (fun c11 => ?_) (fun c11 => ?_)
    · replace h := h.1 c11
      refine v_iload_n o 0 dJ9_floorMod_7cf53_18 rfl ?_
      exact v_iret o rfl hr dJ9_floorMod_7cf53_19 h
    · replace h := h.2 c11
      refine v_iload_n o 0 dJ9_floorMod_7cf53_14 rfl ?_
      refine v_iload_n o 2 dJ9_floorMod_7cf53_15 rfl ?_
      refine v_iadd o dJ9_floorMod_7cf53_16 ?_
      exact v_iret o rfl hr dJ9_floorMod_7cf53_17 h
abbrev kJ9_floorMod_7cf53 := @vJ9_floorMod_7cf53
abbrev metJ9_floorMod_7cf53 := @mJ9_floorMod_7cf53

def jX1_at_34 (P : Sk) (a : Nat) (p1 : Int32) (K : Nat → St → Prop) (x2 : Int32) (f : St) : Prop :=
  K (a + 2) f
def vX1_at (P : Sk) (f : St) (a : Nat) (p1 : Int32) (K : Nat → St → Prop) : Prop :=
  kJ9_floorMod_7cf53 P f ((f a 2) + p1) 6 (fun r8 g8 => (r8 < 0 → jX1_at_34 P a p1 K r8 g8) ∧ (¬ r8 < 0 → (nI 6 ≤ r8 → jX1_at_34 P a p1 K r8 g8) ∧ (¬ nI 6 ≤ r8 → vp_in r8 6 ∧ (vp_in r8 6 ∧ (K (a + 158 + 156 * r8.toNatClampNeg) g8)))))
set_option maxRecDepth 20000 in
set_option maxHeartbeats 4000000 in
theorem mX1_at (l : Launch) (G : Gl) (P : Sk) (f : St) (sz : Nat) (a : Nat) (ha : IsHist P a) (p1 : Int32) (K : Nat → St → Prop) (h : vX1_at P f a p1 K)  :
  Met l yX1_at (wU yX1_at cX1_at 3 (some (.object "StrandLoaves$Board"))) rmX1_at (PcW G P f sz [.ref a, .int p1]) (QcR G P sz K) 0 0 (frA P sz) := by
  refine v_met (own := RX1) [.ref a, .int p1] (by decide +kernel) rfl (Nat.le_of_ble_eq_true rfl) (fun p e s m args below meth c hsz o hr hnm => ?_)
  refine v_lv (lv2 := [(0, .ref a), (1, .int p1)]) rfl ?_
  have J34 : ∀ (x2_34 : Int32) (g34 : St), jX1_at_34 P a p1 K x2_34 g34 → V p l e rmX1_at s m args below meth c 3 G (frA P sz) (MQ below (QcR G P sz K) args s 0 0 (frA P sz)) 0 0 P [(0, .ref a), (1, .int p1), (2, .int x2_34)] [] 34 g34 := by
    intro x2_34 g34  h
    unfold jX1_at_34 at h
    refine v_aload_n o 0 dX1_at_34 rfl ?_
    refine v_gfR o lkX1_18 (by decide) (wfHist_o ha) (wfHist_r1 ha) dX1_at_35 ?_
    exact v_aret o rfl hr (Or.inl ⟨_, rfl⟩) dX1_at_38 h
  unfold vX1_at at h
  refine v_aload_n o 0 dX1_at_0 rfl ?_
  refine v_gfI o lkX1_22 (by decide) (wfHist_o ha) dX1_at_1 ?_
  refine v_iload_n o 1 dX1_at_4 rfl ?_
  refine v_iadd o dX1_at_5 ?_
  refine v_bipush o (v := 6) dX1_at_6 (by decide) ?_
  refine v_cSi o [.int ((f a 2) + p1), .int 6] [] (fun sz => metJ9_floorMod_7cf53 l G P f sz ((f a 2) + p1) 6 _ h) (cwX1_29 o.1.2.2.2.2 (by decide)) rfl (Nat.le_of_ble_eq_true rfl) ⟨Nat.le_of_ble_eq_true rfl, Nat.le_of_ble_eq_true rfl⟩ dX1_at_8 rfl (fun r8 g8 h => ?_)
  refine v_istore_n o (lv' := [(2, .int r8), (0, .ref a), (1, .int p1)]) dX1_at_11 rfl (by decide) rfl ?_
  refine v_iload_n o 0 dX1_at_12 rfl ?_
  refine v_if_lt o (tgt := 34) dX1_at_13 (by decide) (fun c13 => ?_) (fun c13 => ?_)
  · replace h := h.1 c13
    refine v_sub [1, 2, 0] (lv2 := [(0, .ref a), (1, .int p1), (2, .int r8)]) rfl ?_
    exact J34 r8 g8  h
  · replace h := h.2 c13
    refine v_iload_n o 0 dX1_at_16 rfl ?_
    refine v_aload_n o 1 dX1_at_17 rfl ?_
    refine v_gfR o lkX1_11 (by decide) (wfHist_o ha) (wfHist_r0 ha) dX1_at_18 ?_
    refine v_alen12 o (wfHist_t0 ha) (wfHist_n0 ha) dX1_at_21 ?_
    refine v_icmp_ge o (tgt := 34) dX1_at_22 (by decide) (fun c22 => ?_) (fun c22 => ?_)
    · replace h := h.1 c22
      refine v_sub [1, 2, 0] (lv2 := [(0, .ref a), (1, .int p1), (2, .int r8)]) rfl ?_
      exact J34 r8 g8  h
    · replace h := h.2 c22
      refine v_aload_n o 1 dX1_at_25 rfl ?_
      refine v_gfR o lkX1_11 (by decide) (wfHist_o ha) (wfHist_r0 ha) dX1_at_26 ?_
      refine v_iload_n o 0 dX1_at_29 rfl ?_
      have hi30 := h.1
      replace h := h.2
      refine v_aald12 o (wfHist_t0 ha) (wfHist_n0 ha) hi30 (wfHist_ar ha _ (vin_lt hi30)) dX1_at_30 ?_
      refine v_ifnonnull o (tgt := 39) dX1_at_31 (by decide) ?_
      refine v_aload_n o 1 dX1_at_39 rfl ?_
      refine v_gfR o lkX1_11 (by decide) (wfHist_o ha) (wfHist_r0 ha) dX1_at_40 ?_
      refine v_iload_n o 0 dX1_at_43 rfl ?_
      have hi44 := h.1
      replace h := h.2
      refine v_aald12 o (wfHist_t0 ha) (wfHist_n0 ha) hi44 (wfHist_ar ha _ (vin_lt hi44)) dX1_at_44 ?_
      exact v_aret o rfl hr (Or.inl ⟨_, rfl⟩) dX1_at_45 h
theorem metX1_at (l : Launch) (G : Gl) (P : Sk) (f : St) (sz : Nat) (a : Nat) (ha : IsHist P a) (p1 : Int32) : Met l yX1_at (wU yX1_at cX1_at 3 (some (.object "StrandLoaves$Board"))) rmX1_at (PcW G P f sz [.ref a, .int p1]) (QcR G P sz (fun r g => r = (atH a p1) ∧ f = g)) 0 0 (frA P sz) := sorry

def vX1_save (P : Sk) (f : St) (a : Nat) (b1 : Nat) (K : St → Prop) : Prop :=
  kX0_copyFrom P f (atH a (f a 3)) b1 (fun g9 => (6 ≤ g9 a 3 → kJ9_floorMod_7cf53 P g9 ((g9 a 2) + 1) 6 (fun r43 g43 => ∀ g46 : St, g46 = setf g43 a 2 r43 → K g46)) ∧ (¬ 6 ≤ g9 a 3 → ∀ g28 : St, g28 = setf g9 a 3 ((g9 a 3) + 1) → K g28))
set_option maxRecDepth 20000 in
set_option maxHeartbeats 4000000 in
theorem mX1_save (l : Launch) (G : Gl) (P : Sk) (f : St) (sz : Nat) (a : Nat) (ha : IsHist P a) (b1 : Nat) (hb1 : IsBoard P b1) (K : St → Prop) (h : vX1_save P f a b1 K)  :
  Met l yX1_save (wU yX1_save cX1_save 2 none) rmX1_save (PcW G P f sz [.ref a, .ref b1]) (QcV G P sz K) 0 0 (frA P sz) := by
  refine v_met (own := RX1) [.ref a, .ref b1] (by decide +kernel) rfl (Nat.le_of_ble_eq_true rfl) (fun p e s m args below meth c hsz o hr hnm => ?_)
  refine v_lv (lv2 := [(0, .ref a), (1, .ref b1)]) rfl ?_
  unfold vX1_save at h
  refine v_aload_n o 0 dX1_save_0 rfl ?_
  refine v_aload_n o 0 dX1_save_1 rfl ?_
  refine v_gfI o lkX1_26 (by decide) (wfHist_o ha) dX1_save_2 ?_
  refine v_cVr o [.int (f a 3)] [] (fun sz => metX1_at l G P f sz a ha (f a 3)) (cwX1_35 o.1.2.2.2.2 (by decide)) ⟨_, _, rfl⟩ (by decide) (wfHist_o ha) rfl (Nat.le_of_ble_eq_true rfl) ⟨Nat.le_of_ble_eq_true rfl, Nat.le_of_ble_eq_true rfl⟩ dX1_save_5 rfl (fun r5 g5 h5 => ?_)
  obtain ⟨rfl, rfl⟩ := h5
  refine v_aload_n o 1 dX1_save_8 rfl ?_
  refine v_cVv o [.ref b1] [] (fun sz => metX0_copyFrom l G P f sz (atH a (f a 3)) (is_atH ha (f a 3)) b1 hb1 _ h) (cwX1_39 o.1.2.2.2.2 (by decide)) ⟨_, _, rfl⟩ (by decide) (wfBoard_o (is_atH ha (f a 3))) rfl (Nat.le_of_ble_eq_true rfl) ⟨Nat.le_of_ble_eq_true rfl, Nat.le_of_ble_eq_true rfl⟩ dX1_save_9 rfl (fun g9 h => ?_)
  refine v_aload_n o 0 dX1_save_12 rfl ?_
  refine v_gfI o lkX1_26 (by decide) (wfHist_o ha) dX1_save_13 ?_
  refine v_bipush o (v := 6) dX1_save_16 (by decide) ?_
  refine v_icmp_ge o (tgt := 34) dX1_save_18 (by decide) (fun c18 => ?_) (fun c18 => ?_)
  · replace h := h.1 c18
    refine v_aload_n o 0 dX1_save_34 rfl ?_
    refine v_aload_n o 0 dX1_save_35 rfl ?_
    refine v_gfI o lkX1_22 (by decide) (wfHist_o ha) dX1_save_36 ?_
    refine v_iconst o (v := 1) dX1_save_39 (by decide) ?_
    refine v_iadd o dX1_save_40 ?_
    refine v_bipush o (v := 6) dX1_save_41 (by decide) ?_
    refine v_cSi o [.int ((g9 a 2) + 1), .int 6] [.ref a] (fun sz => metJ9_floorMod_7cf53 l G P g9 sz ((g9 a 2) + 1) 6 _ h) (cwX1_29 o.1.2.2.2.2 (by decide)) rfl (Nat.le_of_ble_eq_true rfl) ⟨Nat.le_of_ble_eq_true rfl, Nat.le_of_ble_eq_true rfl⟩ dX1_save_43 rfl (fun r43 g43 h => ?_)
    refine v_pf o lpX1_22 (wfHist_o ha) ⟨rfl, rfl⟩ dX1_save_46 ?_
    refine v_nmf (fun g46 eg46 => ?_)
    replace h := h g46 eg46
    exact v_vret o rfl hr dX1_save_49 h
  · replace h := h.2 c18
    refine v_aload_n o 0 dX1_save_21 rfl ?_
    refine v_dup o dX1_save_22 rfl ?_
    refine v_gfI o lkX1_26 (by decide) (wfHist_o ha) dX1_save_23 ?_
    refine v_iconst o (v := 1) dX1_save_26 (by decide) ?_
    refine v_iadd o dX1_save_27 ?_
    refine v_pf o lpX1_26 (wfHist_o ha) ⟨rfl, rfl⟩ dX1_save_28 ?_
    refine v_nmf (fun g28 eg28 => ?_)
    replace h := h g28 eg28
    refine v_goto o (tgt := 49) dX1_save_31 (by decide) ?_
    exact v_vret o rfl hr dX1_save_49 h
abbrev kX1_save := @vX1_save
abbrev metX1_save := @mX1_save

def vX1_takeBack (P : Sk) (f : St) (a : Nat) (b1 : Nat) (K : St → Prop) : Prop :=
  (f a 3 ≤ 0 → K f) ∧ (¬ f a 3 ≤ 0 → ∀ g14 : St, g14 = setf f a 3 ((f a 3) - 1) → kX0_copyFrom P g14 b1 (atH a (g14 a 3)) (fun g26 => K g26))
set_option maxRecDepth 20000 in
set_option maxHeartbeats 4000000 in
theorem mX1_takeBack (l : Launch) (G : Gl) (P : Sk) (f : St) (sz : Nat) (a : Nat) (ha : IsHist P a) (b1 : Nat) (hb1 : IsBoard P b1) (K : St → Prop) (h : vX1_takeBack P f a b1 K)  :
  Met l yX1_takeBack (wU yX1_takeBack cX1_takeBack 2 none) rmX1_takeBack (PcW G P f sz [.ref a, .ref b1]) (QcV G P sz K) 0 0 (frA P sz) := by
  refine v_met (own := RX1) [.ref a, .ref b1] (by decide +kernel) rfl (Nat.le_of_ble_eq_true rfl) (fun p e s m args below meth c hsz o hr hnm => ?_)
  refine v_lv (lv2 := [(0, .ref a), (1, .ref b1)]) rfl ?_
  unfold vX1_takeBack at h
  refine v_aload_n o 0 dX1_takeBack_0 rfl ?_
  refine v_gfI o lkX1_26 (by decide) (wfHist_o ha) dX1_takeBack_1 ?_
  refine v_if_le o (tgt := 29) dX1_takeBack_4 (by decide) (fun c4 => ?_) (fun c4 => ?_)
  · replace h := h.1 c4
    exact v_vret o rfl hr dX1_takeBack_29 h
  · replace h := h.2 c4
    refine v_aload_n o 0 dX1_takeBack_7 rfl ?_
    refine v_dup o dX1_takeBack_8 rfl ?_
    refine v_gfI o lkX1_26 (by decide) (wfHist_o ha) dX1_takeBack_9 ?_
    refine v_iconst o (v := 1) dX1_takeBack_12 (by decide) ?_
    refine v_isub o dX1_takeBack_13 ?_
    refine v_pf o lpX1_26 (wfHist_o ha) ⟨rfl, rfl⟩ dX1_takeBack_14 ?_
    refine v_nmf (fun g14 eg14 => ?_)
    replace h := h g14 eg14
    refine v_aload_n o 1 dX1_takeBack_17 rfl ?_
    refine v_aload_n o 0 dX1_takeBack_18 rfl ?_
    refine v_aload_n o 0 dX1_takeBack_19 rfl ?_
    refine v_gfI o lkX1_26 (by decide) (wfHist_o ha) dX1_takeBack_20 ?_
    refine v_cVr o [.int (g14 a 3)] [.ref b1] (fun sz => metX1_at l G P g14 sz a ha (g14 a 3)) (cwX1_35 o.1.2.2.2.2 (by decide)) ⟨_, _, rfl⟩ (by decide) (wfHist_o ha) rfl (Nat.le_of_ble_eq_true rfl) ⟨Nat.le_of_ble_eq_true rfl, Nat.le_of_ble_eq_true rfl⟩ dX1_takeBack_23 rfl (fun r23 g23 h23 => ?_)
    obtain ⟨rfl, rfl⟩ := h23
    refine v_cVv o [.ref (atH a (g14 a 3))] [] (fun sz => metX0_copyFrom l G P g14 sz b1 hb1 (atH a (g14 a 3)) (is_atH ha (g14 a 3)) _ h) (cwX1_39 o.1.2.2.2.2 (by decide)) ⟨_, _, rfl⟩ (by decide) (wfBoard_o hb1) rfl (Nat.le_of_ble_eq_true rfl) ⟨Nat.le_of_ble_eq_true rfl, Nat.le_of_ble_eq_true rfl⟩ dX1_takeBack_26 rfl (fun g26 h => ?_)
    exact v_vret o rfl hr dX1_takeBack_29 h
abbrev kX1_takeBack := @vX1_takeBack
abbrev metX1_takeBack := @mX1_takeBack

def vX2_word (P : Sk) (f : St) (a : Nat) (K : Nat → St → Prop) : Prop :=
  K (a + 1) f
set_option maxRecDepth 20000 in
set_option maxHeartbeats 4000000 in
theorem mX2_word (l : Launch) (G : Gl) (P : Sk) (f : St) (sz : Nat) (a : Nat) (ha : IsLoaf P a) (K : Nat → St → Prop) (h : vX2_word P f a K)  :
  Met l yX2_word (wU yX2_word cX2_word 1 (some (.object "StrandLoaves$Word"))) rmX2_word (PcW G P f sz [.ref a]) (QcR G P sz K) 0 0 (frA P sz) := by
  refine v_met (own := RX2) [.ref a] (by decide +kernel) rfl (Nat.le_of_ble_eq_true rfl) (fun p e s m args below meth c hsz o hr hnm => ?_)
  refine v_lv (lv2 := [(0, .ref a)]) rfl ?_
  unfold vX2_word at h
  refine v_aload_n o 0 dX2_word_0 rfl ?_
  refine v_gfR o lkX2_12 (by decide) (wfLoaf_o ha) (wfLoaf_r0 ha) dX2_word_1 ?_
  exact v_aret o rfl hr (Or.inl ⟨_, rfl⟩) dX2_word_4 h
theorem metX2_word (l : Launch) (G : Gl) (P : Sk) (f : St) (sz : Nat) (a : Nat) (ha : IsLoaf P a) : Met l yX2_word (wU yX2_word cX2_word 1 (some (.object "StrandLoaves$Word"))) rmX2_word (PcW G P f sz [.ref a]) (QcR G P sz (fun r g => r = (a + 1) ∧ f = g)) 0 0 (frA P sz) := sorry

def vX2_looseWord (P : Sk) (f : St) (a : Nat) (K : Nat → St → Prop) : Prop :=
  K (a + 4) f
set_option maxRecDepth 20000 in
set_option maxHeartbeats 4000000 in
theorem mX2_looseWord (l : Launch) (G : Gl) (P : Sk) (f : St) (sz : Nat) (a : Nat) (ha : IsLoaf P a) (K : Nat → St → Prop) (h : vX2_looseWord P f a K)  :
  Met l yX2_looseWord (wU yX2_looseWord cX2_looseWord 1 (some (.object "StrandLoaves$Word"))) rmX2_looseWord (PcW G P f sz [.ref a]) (QcR G P sz K) 0 0 (frA P sz) := by
  refine v_met (own := RX2) [.ref a] (by decide +kernel) rfl (Nat.le_of_ble_eq_true rfl) (fun p e s m args below meth c hsz o hr hnm => ?_)
  refine v_lv (lv2 := [(0, .ref a)]) rfl ?_
  unfold vX2_looseWord at h
  refine v_aload_n o 0 dX2_looseWord_0 rfl ?_
  refine v_gfR o lkX2_18 (by decide) (wfLoaf_o ha) (wfLoaf_r1 ha) dX2_looseWord_1 ?_
  exact v_aret o rfl hr (Or.inl ⟨_, rfl⟩) dX2_looseWord_4 h
theorem metX2_looseWord (l : Launch) (G : Gl) (P : Sk) (f : St) (sz : Nat) (a : Nat) (ha : IsLoaf P a) : Met l yX2_looseWord (wU yX2_looseWord cX2_looseWord 1 (some (.object "StrandLoaves$Word"))) rmX2_looseWord (PcW G P f sz [.ref a]) (QcR G P sz (fun r g => r = (a + 4) ∧ f = g)) 0 0 (frA P sz) := sorry

def vX2_trace (P : Sk) (f : St) (a : Nat) (K : Nat → St → Prop) : Prop :=
  K (a + 7) f
set_option maxRecDepth 20000 in
set_option maxHeartbeats 4000000 in
theorem mX2_trace (l : Launch) (G : Gl) (P : Sk) (f : St) (sz : Nat) (a : Nat) (ha : IsLoaf P a) (K : Nat → St → Prop) (h : vX2_trace P f a K)  :
  Met l yX2_trace (wU yX2_trace cX2_trace 1 (some (.object "StrandLoaves$Trace"))) rmX2_trace (PcW G P f sz [.ref a]) (QcR G P sz K) 0 0 (frA P sz) := by
  refine v_met (own := RX2) [.ref a] (by decide +kernel) rfl (Nat.le_of_ble_eq_true rfl) (fun p e s m args below meth c hsz o hr hnm => ?_)
  refine v_lv (lv2 := [(0, .ref a)]) rfl ?_
  unfold vX2_trace at h
  refine v_aload_n o 0 dX2_trace_0 rfl ?_
  refine v_gfR o lkX2_24 (by decide) (wfLoaf_o ha) (wfLoaf_r2 ha) dX2_trace_1 ?_
  exact v_aret o rfl hr (Or.inl ⟨_, rfl⟩) dX2_trace_4 h
theorem metX2_trace (l : Launch) (G : Gl) (P : Sk) (f : St) (sz : Nat) (a : Nat) (ha : IsLoaf P a) : Met l yX2_trace (wU yX2_trace cX2_trace 1 (some (.object "StrandLoaves$Trace"))) rmX2_trace (PcW G P f sz [.ref a]) (QcR G P sz (fun r g => r = (a + 7) ∧ f = g)) 0 0 (frA P sz) := sorry

def vX6_begin (P : Sk) (f : St) (a : Nat) (p1 : Int32) (K : St → Prop) : Prop :=
  ∀ g2 : St, g2 = setf f a 1 p1 → ∀ g7 : St, g7 = setf g2 a 2 0 → K g7
set_option maxRecDepth 20000 in
set_option maxHeartbeats 4000000 in
theorem mX6_begin (l : Launch) (G : Gl) (P : Sk) (f : St) (sz : Nat) (a : Nat) (ha : IsWord P a) (p1 : Int32) (K : St → Prop) (h : vX6_begin P f a p1 K)  :
  Met l yX6_begin (wU yX6_begin cX6_begin 2 none) rmX6_begin (PcW G P f sz [.ref a, .int p1]) (QcV G P sz K) 0 0 (frA P sz) := by
  refine v_met (own := RX6) [.ref a, .int p1] (by decide +kernel) rfl (Nat.le_of_ble_eq_true rfl) (fun p e s m args below meth c hsz o hr hnm => ?_)
  refine v_lv (lv2 := [(0, .ref a), (1, .int p1)]) rfl ?_
  unfold vX6_begin at h
  refine v_aload_n o 0 dX6_begin_0 rfl ?_
  refine v_iload_n o 1 dX6_begin_1 rfl ?_
  refine v_pf o lpX6_20 (wfWord_o ha) ⟨rfl, rfl⟩ dX6_begin_2 ?_
  refine v_nmf (fun g2 eg2 => ?_)
  replace h := h g2 eg2
  refine v_aload_n o 0 dX6_begin_5 rfl ?_
  refine v_iconst o (v := 0) dX6_begin_6 (by decide) ?_
  refine v_pf o lpX6_24 (wfWord_o ha) ⟨rfl, rfl⟩ dX6_begin_7 ?_
  refine v_nmf (fun g7 eg7 => ?_)
  replace h := h g7 eg7
  exact v_vret o rfl hr dX6_begin_10 h
abbrev kX6_begin := @vX6_begin
abbrev metX6_begin := @mX6_begin

def vX3_at (P : Sk) (f : St) (a : Nat) (p1 : Int32) (K : Int32 → St → Prop) : Prop :=
  (p1 < 0 → K 0 f) ∧ (¬ p1 < 0 → (nI (sN P (a + 1)) ≤ p1 → K 0 f) ∧ (¬ nI (sN P (a + 1)) ≤ p1 → vp_in p1 (sN P (a + 1)) ∧ (K (f (a + 1) p1.toNatClampNeg) f)))
set_option maxRecDepth 20000 in
set_option maxHeartbeats 4000000 in
theorem mX3_at (l : Launch) (G : Gl) (P : Sk) (f : St) (sz : Nat) (a : Nat) (ha : IsRow P a) (p1 : Int32) (K : Int32 → St → Prop) (h : vX3_at P f a p1 K)  :
  Met l yX3_at (wU yX3_at cX3_at 2 (some .int)) rmX3_at (PcW G P f sz [.ref a, .int p1]) (QcI G P sz K) 0 0 (frA P sz) := by
  refine v_met (own := RX3) [.ref a, .int p1] (by decide +kernel) rfl (Nat.le_of_ble_eq_true rfl) (fun p e s m args below meth c hsz o hr hnm => ?_)
  refine v_lv (lv2 := [(0, .ref a), (1, .int p1)]) rfl ?_
  unfold vX3_at at h
  refine v_iload_n o 1 dX3_at_0 rfl ?_
  refine v_if_lt o (tgt := 22) dX3_at_1 (by decide) (fun c1 => ?_) (fun c1 => ?_)
  · replace h := h.1 c1
    refine v_iconst o (v := 0) dX3_at_22 (by decide) ?_
    exact v_iret o rfl hr dX3_at_23 h
  · replace h := h.2 c1
    refine v_iload_n o 1 dX3_at_4 rfl ?_
    refine v_aload_n o 0 dX3_at_5 rfl ?_
    refine v_gfR o lkX3_7 (by decide) (wfRow_o ha) (wfRow_r0 ha) dX3_at_6 ?_
    refine v_alen9 o (wfRow_t0 ha) rfl dX3_at_9 ?_
    refine v_icmp_ge o (tgt := 22) dX3_at_10 (by decide) (fun c10 => ?_) (fun c10 => ?_)
    · replace h := h.1 c10
      refine v_iconst o (v := 0) dX3_at_22 (by decide) ?_
      exact v_iret o rfl hr dX3_at_23 h
    · replace h := h.2 c10
      refine v_aload_n o 0 dX3_at_13 rfl ?_
      refine v_gfR o lkX3_7 (by decide) (wfRow_o ha) (wfRow_r0 ha) dX3_at_14 ?_
      refine v_iload_n o 1 dX3_at_17 rfl ?_
      refine v_iald o (wfRow_t0 ha) rfl h.1 dX3_at_18 ?_
      replace h := h.2
      refine v_goto o (tgt := 23) dX3_at_19 (by decide) ?_
      exact v_iret o rfl hr dX3_at_23 h
abbrev kX3_at := @vX3_at
abbrev metX3_at := @mX3_at

def vX6_codeAt (P : Sk) (f : St) (a : Nat) (p1 : Int32) (K : Int32 → St → Prop) : Prop :=
  kX3_at P f (a + 1) p1 (fun r5 g5 => K r5 g5)
set_option maxRecDepth 20000 in
set_option maxHeartbeats 4000000 in
theorem mX6_codeAt (l : Launch) (G : Gl) (P : Sk) (f : St) (sz : Nat) (a : Nat) (ha : IsWord P a) (p1 : Int32) (K : Int32 → St → Prop) (h : vX6_codeAt P f a p1 K)  :
  Met l yX6_codeAt (wU yX6_codeAt cX6_codeAt 2 (some .int)) rmX6_codeAt (PcW G P f sz [.ref a, .int p1]) (QcI G P sz K) 0 0 (frA P sz) := by
  refine v_met (own := RX6) [.ref a, .int p1] (by decide +kernel) rfl (Nat.le_of_ble_eq_true rfl) (fun p e s m args below meth c hsz o hr hnm => ?_)
  refine v_lv (lv2 := [(0, .ref a), (1, .int p1)]) rfl ?_
  unfold vX6_codeAt at h
  refine v_aload_n o 0 dX6_codeAt_0 rfl ?_
  refine v_gfR o lkX6_14 (by decide) (wfWord_o ha) (wfWord_r0 ha) dX6_codeAt_1 ?_
  refine v_iload_n o 1 dX6_codeAt_4 rfl ?_
  refine v_cVi o [.int p1] [] (fun sz => metX3_at l G P f sz (a + 1) (wfWord_t0 ha) p1 _ h) (cwX6_27 o.1.2.2.2.2 (by decide)) ⟨_, _, rfl⟩ (by decide) (wfRow_o (wfWord_t0 ha)) rfl (Nat.le_of_ble_eq_true rfl) ⟨Nat.le_of_ble_eq_true rfl, Nat.le_of_ble_eq_true rfl⟩ dX6_codeAt_5 rfl (fun r5 g5 h => ?_)
  exact v_iret o rfl hr dX6_codeAt_8 h
abbrev kX6_codeAt := @vX6_codeAt
abbrev metX6_codeAt := @mX6_codeAt

def vX6_placeOf (P : Sk) (f : St) (p0 : Int32) (K : Int32 → St → Prop) : Prop :=
  K (p0 >>> (1 &&& 31)) f
set_option maxRecDepth 20000 in
set_option maxHeartbeats 4000000 in
theorem mX6_placeOf (l : Launch) (G : Gl) (P : Sk) (f : St) (sz : Nat) (p0 : Int32) (K : Int32 → St → Prop) (h : vX6_placeOf P f p0 K)  :
  Met l yX6_placeOf (wU yX6_placeOf cX6_placeOf 1 (some .int)) rmX6_placeOf (PcW G P f sz [.int p0]) (QcI G P sz K) 0 0 (frA P sz) := by
  refine v_met (own := RX6) [.int p0] (by decide +kernel) rfl (Nat.le_of_ble_eq_true rfl) (fun p e s m args below meth c hsz o hr hnm => ?_)
  refine v_lv (lv2 := [(0, .int p0)]) rfl ?_
  unfold vX6_placeOf at h
  refine v_iload_n o 0 dX6_placeOf_0 rfl ?_
  refine v_iconst o (v := 1) dX6_placeOf_1 (by decide) ?_
  refine v_ishr o dX6_placeOf_2 ?_
  exact v_iret o rfl hr dX6_placeOf_3 h
abbrev kX6_placeOf := @vX6_placeOf
abbrev metX6_placeOf := @mX6_placeOf

def bX6_looseIndexOf_12 (P : Sk) (a : Nat) (p1 : Int32) (L12 : St → Int32 → Int32 → Prop) (K : Int32 → St → Prop) (f : St) (x2 : Int32) (x3 : Int32) : Prop :=
  (x3 < 0 → K x2 f) ∧ (¬ x3 < 0 → kX3_at P f (a + 1) x3 (fun r21 g21 => kX6_placeOf P g21 r21 (fun r24 g24 => kX6_placeOf P g24 p1 (fun r28 g28 => (r24 - r28 < 2 → K x2 g28) ∧ (¬ r24 - r28 < 2 → ∀ x3_38 : Int32, x3_38 = x3 + (-1) → L12 g28 x3 x3_38)))))
def vX6_looseIndexOf (P : Sk) (f : St) (a : Nat) (p1 : Int32) (L12 : St → Int32 → Int32 → Prop) (K : Int32 → St → Prop) : Prop :=
  ∀ x2_4 : Int32, x2_4 = f a 2 → ∀ x3_11 : Int32, x3_11 = (f a 2) - 1 → L12 f x2_4 x3_11
set_option maxRecDepth 20000 in
set_option maxHeartbeats 4000000 in
theorem mX6_looseIndexOf (l : Launch) (G : Gl) (P : Sk) (f : St) (sz : Nat) (a : Nat) (ha : IsWord P a) (p1 : Int32) (K : Int32 → St → Prop) (I12 : St → Int32 → Int32 → Prop) (μ12 : St → Int32 → Int32 → Nat) 
  (h : vX6_looseIndexOf P f a p1 I12 K)
  (h12 : ∀ (g : St) (x2 : Int32) (x3 : Int32) , I12 g x2 x3 → bX6_looseIndexOf_12 P a p1 (fun g' z0 z1 => I12 g' z0 z1 ∧ μ12 g' z0 z1 < μ12 g x2 x3) K g x2 x3) :
  Met l yX6_looseIndexOf (wU yX6_looseIndexOf cX6_looseIndexOf 4 (some .int)) rmX6_looseIndexOf (PcW G P f sz [.ref a, .int p1]) (QcI G P sz K) 0 0 (frA P sz) := by
  refine v_met (own := RX6) [.ref a, .int p1] (by decide +kernel) rfl (Nat.le_of_ble_eq_true rfl) (fun p e s m args below meth c hsz o hr hnm => ?_)
  refine v_lv (lv2 := [(0, .ref a), (1, .int p1)]) rfl ?_
  have main : ∀ n : Nat, (∀ (g : St) (x2 : Int32) (x3 : Int32) , I12 g x2 x3 → μ12 g x2 x3 < n → V p l e rmX6_looseIndexOf s m args below meth c 4 G (frA P sz) (MQ below (QcI G P sz K) args s 0 0 (frA P sz)) 0 0 P [(0, .ref a), (1, .int p1), (2, .int x2), (3, .int x3)] [] 12 g) := by
    intro n
    induction n with
    | zero => exact fun g x2 x3 hI hm => absurd hm (Nat.not_lt_zero _)
    | succ n ih =>
      intro g x2 x3 hI hm
      have h := h12 g x2 x3 hI
      clear hI
      unfold bX6_looseIndexOf_12 at h
      refine v_iload_n o 3 dX6_looseIndexOf_12 rfl ?_
      refine v_if_lt o (tgt := 44) dX6_looseIndexOf_13 (by decide) (fun c13 => ?_) (fun c13 => ?_)
      · replace h := h.1 c13
        refine v_iload_n o 2 dX6_looseIndexOf_44 rfl ?_
        exact v_iret o rfl hr dX6_looseIndexOf_45 h
      · replace h := h.2 c13
        refine v_aload_n o 0 dX6_looseIndexOf_16 rfl ?_
        refine v_gfR o lkX6_14 (by decide) (wfWord_o ha) (wfWord_r0 ha) dX6_looseIndexOf_17 ?_
        refine v_iload_n o 3 dX6_looseIndexOf_20 rfl ?_
        refine v_cVi o [.int x3] [] (fun sz => metX3_at l G P g sz (a + 1) (wfWord_t0 ha) x3 _ h) (cwX6_27 o.1.2.2.2.2 (by decide)) ⟨_, _, rfl⟩ (by decide) (wfRow_o (wfWord_t0 ha)) rfl (Nat.le_of_ble_eq_true rfl) ⟨Nat.le_of_ble_eq_true rfl, Nat.le_of_ble_eq_true rfl⟩ dX6_looseIndexOf_21 rfl (fun r21 g21 h => ?_)
        refine v_cSi o [.int r21] [] (fun sz => metX6_placeOf l G P g21 sz r21 _ h) (cwX6_65 o.1.2.2.2.2 (by decide)) rfl (Nat.le_of_ble_eq_true rfl) ⟨Nat.le_of_ble_eq_true rfl, Nat.le_of_ble_eq_true rfl⟩ dX6_looseIndexOf_24 rfl (fun r24 g24 h => ?_)
        refine v_iload_n o 1 dX6_looseIndexOf_27 rfl ?_
        refine v_cSi o [.int p1] [.int r24] (fun sz => metX6_placeOf l G P g24 sz p1 _ h) (cwX6_65 o.1.2.2.2.2 (by decide)) rfl (Nat.le_of_ble_eq_true rfl) ⟨Nat.le_of_ble_eq_true rfl, Nat.le_of_ble_eq_true rfl⟩ dX6_looseIndexOf_28 rfl (fun r28 g28 h => ?_)
        refine v_isub o dX6_looseIndexOf_31 ?_
        refine v_iconst o (v := 2) dX6_looseIndexOf_32 (by decide) ?_
        refine v_icmp_lt o (tgt := 44) dX6_looseIndexOf_33 (by decide) (fun c33 => ?_) (fun c33 => ?_)
        · replace h := h.1 c33
          refine v_iload_n o 2 dX6_looseIndexOf_44 rfl ?_
          exact v_iret o rfl hr dX6_looseIndexOf_45 h
        · replace h := h.2 c33
          refine v_iload_n o 3 dX6_looseIndexOf_36 rfl ?_
          refine v_istore_n o (lv' := [(2, .int x3), (0, .ref a), (1, .int p1), (3, .int x3)]) dX6_looseIndexOf_37 rfl (by decide) rfl ?_
          obtain ⟨x3_38, ex3_38⟩ : ∃ y : Int32, y = x3 + (-1) := ⟨_, rfl⟩
          replace h := h x3_38 ex3_38
          refine v_iinc o (v := x3_38) (lv' := [(3, .int x3_38), (2, .int x3), (0, .ref a), (1, .int p1)]) 3 dX6_looseIndexOf_38 rfl (by rw [ex3_38]; rfl) (by decide) rfl ?_
          refine v_goto o (tgt := 12) dX6_looseIndexOf_41 (by decide) ?_
          refine v_sub [2, 3, 1, 0] (lv2 := [(0, .ref a), (1, .int p1), (2, .int x3), (3, .int x3_38)]) rfl ?_
          exact ih g28 x3 x3_38  h.1 (by have := h.2; omega)
  unfold vX6_looseIndexOf at h
  refine v_aload_n o 0 dX6_looseIndexOf_0 rfl ?_
  refine v_gfI o lkX6_24 (by decide) (wfWord_o ha) dX6_looseIndexOf_1 ?_
  refine v_topi (fun x2_4 ex2_4 => ?_)
  replace h := h x2_4 ex2_4
  refine v_istore_n o (lv' := [(2, .int x2_4), (0, .ref a), (1, .int p1)]) dX6_looseIndexOf_4 rfl (by decide) rfl ?_
  refine v_aload_n o 1 dX6_looseIndexOf_5 rfl ?_
  refine v_gfI o lkX6_24 (by decide) (wfWord_o ha) dX6_looseIndexOf_6 ?_
  refine v_iconst o (v := 1) dX6_looseIndexOf_9 (by decide) ?_
  refine v_isub o dX6_looseIndexOf_10 ?_
  refine v_topi (fun x3_11 ex3_11 => ?_)
  replace h := h x3_11 ex3_11
  refine v_istore_n o (lv' := [(3, .int x3_11), (2, .int x2_4), (0, .ref a), (1, .int p1)]) dX6_looseIndexOf_11 rfl (by decide) rfl ?_
  refine v_sub [2, 3, 1, 0] (lv2 := [(0, .ref a), (1, .int p1), (2, .int x2_4), (3, .int x3_11)]) rfl ?_
  exact (main (μ12 f x2_4 x3_11 + 1)) f x2_4 x3_11  h (Nat.lt_succ_self _)
def kX6_looseIndexOf (P : Sk) (f : St) (a : Nat) (p1 : Int32) (K : Int32 → St → Prop) : Prop := False
theorem metX6_looseIndexOf (l : Launch) (G : Gl) (P : Sk) (f : St) (sz : Nat) (a : Nat) (ha : IsWord P a) (p1 : Int32) (K : Int32 → St → Prop) (h : kX6_looseIndexOf P f a p1 K) : Met l yX6_looseIndexOf (wU yX6_looseIndexOf cX6_looseIndexOf 4 (some .int)) rmX6_looseIndexOf (PcW G P f sz [.ref a, .int p1]) (QcI G P sz K) 0 0 (frA P sz) := sorry

def vX6_flipped (P : Sk) (f : St) (p0 : Int32) (K : Int32 → St → Prop) : Prop :=
  K (p0 ^^^ 1) f
set_option maxRecDepth 20000 in
set_option maxHeartbeats 4000000 in
theorem mX6_flipped (l : Launch) (G : Gl) (P : Sk) (f : St) (sz : Nat) (p0 : Int32) (K : Int32 → St → Prop) (h : vX6_flipped P f p0 K)  :
  Met l yX6_flipped (wU yX6_flipped cX6_flipped 1 (some .int)) rmX6_flipped (PcW G P f sz [.int p0]) (QcI G P sz K) 0 0 (frA P sz) := by
  refine v_met (own := RX6) [.int p0] (by decide +kernel) rfl (Nat.le_of_ble_eq_true rfl) (fun p e s m args below meth c hsz o hr hnm => ?_)
  refine v_lv (lv2 := [(0, .int p0)]) rfl ?_
  unfold vX6_flipped at h
  refine v_iload_n o 0 dX6_flipped_0 rfl ?_
  refine v_iconst o (v := 1) dX6_flipped_1 (by decide) ?_
  refine v_ixor o dX6_flipped_2 ?_
  exact v_iret o rfl hr dX6_flipped_3 h
abbrev kX6_flipped := @vX6_flipped
abbrev metX6_flipped := @mX6_flipped

def vX3_put (P : Sk) (f : St) (a : Nat) (p1 : Int32) (p2 : Int32) (K : St → Prop) : Prop :=
  (p1 < 0 → K f) ∧ (¬ p1 < 0 → (nI (sN P (a + 1)) ≤ p1 → K f) ∧ (¬ nI (sN P (a + 1)) ≤ p1 → vp_in p1 (sN P (a + 1)) ∧ (∀ g19 : St, g19 = setf f (a + 1) p1.toNatClampNeg p2 → K g19)))
set_option maxRecDepth 20000 in
set_option maxHeartbeats 4000000 in
theorem mX3_put (l : Launch) (G : Gl) (P : Sk) (f : St) (sz : Nat) (a : Nat) (ha : IsRow P a) (p1 : Int32) (p2 : Int32) (K : St → Prop) (h : vX3_put P f a p1 p2 K)  :
  Met l yX3_put (wU yX3_put cX3_put 3 none) rmX3_put (PcW G P f sz [.ref a, .int p1, .int p2]) (QcV G P sz K) 0 0 (frA P sz) := by
  refine v_met (own := RX3) [.ref a, .int p1, .int p2] (by decide +kernel) rfl (Nat.le_of_ble_eq_true rfl) (fun p e s m args below meth c hsz o hr hnm => ?_)
  refine v_lv (lv2 := [(0, .ref a), (1, .int p1), (2, .int p2)]) rfl ?_
  unfold vX3_put at h
  refine v_iload_n o 1 dX3_put_0 rfl ?_
  refine v_if_lt o (tgt := 20) dX3_put_1 (by decide) (fun c1 => ?_) (fun c1 => ?_)
  · replace h := h.1 c1
    exact v_vret o rfl hr dX3_put_20 h
  · replace h := h.2 c1
    refine v_iload_n o 1 dX3_put_4 rfl ?_
    refine v_aload_n o 0 dX3_put_5 rfl ?_
    refine v_gfR o lkX3_7 (by decide) (wfRow_o ha) (wfRow_r0 ha) dX3_put_6 ?_
    refine v_alen9 o (wfRow_t0 ha) rfl dX3_put_9 ?_
    refine v_icmp_ge o (tgt := 20) dX3_put_10 (by decide) (fun c10 => ?_) (fun c10 => ?_)
    · replace h := h.1 c10
      exact v_vret o rfl hr dX3_put_20 h
    · replace h := h.2 c10
      refine v_aload_n o 0 dX3_put_13 rfl ?_
      refine v_gfR o lkX3_7 (by decide) (wfRow_o ha) (wfRow_r0 ha) dX3_put_14 ?_
      refine v_iload_n o 1 dX3_put_17 rfl ?_
      refine v_iload_n o 2 dX3_put_18 rfl ?_
      refine v_iast o (wfRow_t0 ha) rfl h.1 dX3_put_19 ?_
      replace h := h.2
      refine v_nmf (fun g19 eg19 => ?_)
      replace h := h g19 eg19
      exact v_vret o rfl hr dX3_put_20 h
abbrev kX3_put := @vX3_put
abbrev metX3_put := @mX3_put

def bX6_removeAt_15 (P : Sk) (a : Nat) (p1 : Int32) (L15 : St → Int32 → Prop) (K : St → Prop) (f : St) (x2 : Int32) : Prop :=
  ((f a 2) - 1 ≤ x2 → ∀ g56 : St, g56 = setf f a 2 ((f a 2) - 1) → K g56) ∧ (¬ (f a 2) - 1 ≤ x2 → kX3_at P f (a + 1) (x2 + 1) (fun r37 g37 => kX3_put P g37 (a + 1) x2 r37 (fun g40 => ∀ x2_43 : Int32, x2_43 = x2 + 1 → L15 g40 x2_43)))
def vX6_removeAt (P : Sk) (f : St) (a : Nat) (p1 : Int32) (L15 : St → Int32 → Prop) (K : St → Prop) : Prop :=
  (p1 < 0 → K f) ∧ (¬ p1 < 0 → (p1 < f a 2 → L15 f p1) ∧ (¬ p1 < f a 2 → K f))
set_option maxRecDepth 20000 in
set_option maxHeartbeats 4000000 in
theorem mX6_removeAt (l : Launch) (G : Gl) (P : Sk) (f : St) (sz : Nat) (a : Nat) (ha : IsWord P a) (p1 : Int32) (K : St → Prop) (I15 : St → Int32 → Prop) (μ15 : St → Int32 → Nat) 
  (h : vX6_removeAt P f a p1 I15 K)
  (h15 : ∀ (g : St) (x2 : Int32) , I15 g x2 → bX6_removeAt_15 P a p1 (fun g' z0 => I15 g' z0 ∧ μ15 g' z0 < μ15 g x2) K g x2) :
  Met l yX6_removeAt (wU yX6_removeAt cX6_removeAt 3 none) rmX6_removeAt (PcW G P f sz [.ref a, .int p1]) (QcV G P sz K) 0 0 (frA P sz) := by
  refine v_met (own := RX6) [.ref a, .int p1] (by decide +kernel) rfl (Nat.le_of_ble_eq_true rfl) (fun p e s m args below meth c hsz o hr hnm => ?_)
  refine v_lv (lv2 := [(0, .ref a), (1, .int p1)]) rfl ?_
  have main : ∀ n : Nat, (∀ (g : St) (x2 : Int32) , I15 g x2 → μ15 g x2 < n → V p l e rmX6_removeAt s m args below meth c 3 G (frA P sz) (MQ below (QcV G P sz K) args s 0 0 (frA P sz)) 0 0 P [(0, .ref a), (1, .int p1), (2, .int x2)] [] 15 g) := by
    intro n
    induction n with
    | zero => exact fun g x2 hI hm => absurd hm (Nat.not_lt_zero _)
    | succ n ih =>
      intro g x2 hI hm
      have h := h15 g x2 hI
      clear hI
      unfold bX6_removeAt_15 at h
      refine v_iload_n o 2 dX6_removeAt_15 rfl ?_
      refine v_aload_n o 0 dX6_removeAt_16 rfl ?_
      refine v_gfI o lkX6_24 (by decide) (wfWord_o ha) dX6_removeAt_17 ?_
      refine v_iconst o (v := 1) dX6_removeAt_20 (by decide) ?_
      refine v_isub o dX6_removeAt_21 ?_
      refine v_icmp_ge o (tgt := 49) dX6_removeAt_22 (by decide) (fun c22 => ?_) (fun c22 => ?_)
      · replace h := h.1 c22
        refine v_aload_n o 0 dX6_removeAt_49 rfl ?_
        refine v_dup o dX6_removeAt_50 rfl ?_
        refine v_gfI o lkX6_24 (by decide) (wfWord_o ha) dX6_removeAt_51 ?_
        refine v_iconst o (v := 1) dX6_removeAt_54 (by decide) ?_
        refine v_isub o dX6_removeAt_55 ?_
        refine v_pf o lpX6_24 (wfWord_o ha) ⟨rfl, rfl⟩ dX6_removeAt_56 ?_
        refine v_nmf (fun g56 eg56 => ?_)
        replace h := h g56 eg56
        exact v_vret o rfl hr dX6_removeAt_59 h
      · replace h := h.2 c22
        refine v_aload_n o 0 dX6_removeAt_25 rfl ?_
        refine v_gfR o lkX6_14 (by decide) (wfWord_o ha) (wfWord_r0 ha) dX6_removeAt_26 ?_
        refine v_iload_n o 2 dX6_removeAt_29 rfl ?_
        refine v_aload_n o 0 dX6_removeAt_30 rfl ?_
        refine v_gfR o lkX6_14 (by decide) (wfWord_o ha) (wfWord_r0 ha) dX6_removeAt_31 ?_
        refine v_iload_n o 2 dX6_removeAt_34 rfl ?_
        refine v_iconst o (v := 1) dX6_removeAt_35 (by decide) ?_
        refine v_iadd o dX6_removeAt_36 ?_
        refine v_cVi o [.int (x2 + 1)] [.int x2, .ref (a + 1)] (fun sz => metX3_at l G P g sz (a + 1) (wfWord_t0 ha) (x2 + 1) _ h) (cwX6_27 o.1.2.2.2.2 (by decide)) ⟨_, _, rfl⟩ (by decide) (wfRow_o (wfWord_t0 ha)) rfl (Nat.le_of_ble_eq_true rfl) ⟨Nat.le_of_ble_eq_true rfl, Nat.le_of_ble_eq_true rfl⟩ dX6_removeAt_37 rfl (fun r37 g37 h => ?_)
        refine v_cVv o [.int x2, .int r37] [] (fun sz => metX3_put l G P g37 sz (a + 1) (wfWord_t0 ha) x2 r37 _ h) (cwX6_41 o.1.2.2.2.2 (by decide)) ⟨_, _, rfl⟩ (by decide) (wfRow_o (wfWord_t0 ha)) rfl (Nat.le_of_ble_eq_true rfl) ⟨Nat.le_of_ble_eq_true rfl, Nat.le_of_ble_eq_true rfl⟩ dX6_removeAt_40 rfl (fun g40 h => ?_)
        obtain ⟨x2_43, ex2_43⟩ : ∃ y : Int32, y = x2 + 1 := ⟨_, rfl⟩
        replace h := h x2_43 ex2_43
        refine v_iinc o (v := x2_43) (lv' := [(2, .int x2_43), (0, .ref a), (1, .int p1)]) 2 dX6_removeAt_43 rfl (by rw [ex2_43]; rfl) (by decide) rfl ?_
        refine v_goto o (tgt := 15) dX6_removeAt_46 (by decide) ?_
        refine v_sub [1, 2, 0] (lv2 := [(0, .ref a), (1, .int p1), (2, .int x2_43)]) rfl ?_
        exact ih g40 x2_43  h.1 (by have := h.2; omega)
  unfold vX6_removeAt at h
  refine v_iload_n o 1 dX6_removeAt_0 rfl ?_
  refine v_if_lt o (tgt := 12) dX6_removeAt_1 (by decide) (fun c1 => ?_) (fun c1 => ?_)
  · replace h := h.1 c1
    exact v_vret o rfl hr dX6_removeAt_12 h
  · replace h := h.2 c1
    refine v_iload_n o 1 dX6_removeAt_4 rfl ?_
    refine v_aload_n o 0 dX6_removeAt_5 rfl ?_
    refine v_gfI o lkX6_24 (by decide) (wfWord_o ha) dX6_removeAt_6 ?_
    refine v_icmp_lt o (tgt := 13) dX6_removeAt_9 (by decide) (fun c9 => ?_) (fun c9 => ?_)
    · replace h := h.1 c9
      refine v_iload_n o 1 dX6_removeAt_13 rfl ?_
      refine v_istore_n o (lv' := [(2, .int p1), (0, .ref a), (1, .int p1)]) dX6_removeAt_14 rfl (by decide) rfl ?_
      refine v_sub [1, 2, 0] (lv2 := [(0, .ref a), (1, .int p1), (2, .int p1)]) rfl ?_
      exact (main (μ15 f p1 + 1)) f p1  h (Nat.lt_succ_self _)
    · replace h := h.2 c9
      exact v_vret o rfl hr dX6_removeAt_12 h
def kX6_removeAt (P : Sk) (f : St) (a : Nat) (p1 : Int32) (K : St → Prop) : Prop := False
theorem metX6_removeAt (l : Launch) (G : Gl) (P : Sk) (f : St) (sz : Nat) (a : Nat) (ha : IsWord P a) (p1 : Int32) (K : St → Prop) (h : kX6_removeAt P f a p1 K) : Met l yX6_removeAt (wU yX6_removeAt cX6_removeAt 3 none) rmX6_removeAt (PcW G P f sz [.ref a, .int p1]) (QcV G P sz K) 0 0 (frA P sz) := sorry

def bX6_insertAt_27 (P : Sk) (a : Nat) (p1 : Int32) (p2 : Int32) (L27 : St → Int32 → Prop) (K : St → Prop) (f : St) (x3 : Int32) : Prop :=
  (x3 ≤ p1 → kX3_put P f (a + 1) p1 p2 (fun g62 => ∀ g72 : St, g72 = setf g62 a 2 ((g62 a 2) + 1) → K g72)) ∧ (¬ x3 ≤ p1 → kX3_at P f (a + 1) (x3 - 1) (fun r44 g44 => kX3_put P g44 (a + 1) x3 r44 (fun g47 => ∀ x3_50 : Int32, x3_50 = x3 + (-1) → L27 g47 x3_50)))
def vX6_insertAt (P : Sk) (f : St) (a : Nat) (p1 : Int32) (p2 : Int32) (L27 : St → Int32 → Prop) (K : St → Prop) : Prop :=
  (p1 < 0 → K f) ∧ (¬ p1 < 0 → (f a 2 < p1 → K f) ∧ (¬ f a 2 < p1 → (f a 2 < 24 → ∀ x3_26 : Int32, x3_26 = f a 2 → L27 f x3_26) ∧ (¬ f a 2 < 24 → K f)))
set_option maxRecDepth 20000 in
set_option maxHeartbeats 4000000 in
theorem mX6_insertAt (l : Launch) (G : Gl) (P : Sk) (f : St) (sz : Nat) (a : Nat) (ha : IsWord P a) (p1 : Int32) (p2 : Int32) (K : St → Prop) (I27 : St → Int32 → Prop) (μ27 : St → Int32 → Nat) 
  (h : vX6_insertAt P f a p1 p2 I27 K)
  (h27 : ∀ (g : St) (x3 : Int32) , I27 g x3 → bX6_insertAt_27 P a p1 p2 (fun g' z0 => I27 g' z0 ∧ μ27 g' z0 < μ27 g x3) K g x3) :
  Met l yX6_insertAt (wU yX6_insertAt cX6_insertAt 4 none) rmX6_insertAt (PcW G P f sz [.ref a, .int p1, .int p2]) (QcV G P sz K) 0 0 (frA P sz) := by
  refine v_met (own := RX6) [.ref a, .int p1, .int p2] (by decide +kernel) rfl (Nat.le_of_ble_eq_true rfl) (fun p e s m args below meth c hsz o hr hnm => ?_)
  refine v_lv (lv2 := [(0, .ref a), (1, .int p1), (2, .int p2)]) rfl ?_
  have main : ∀ n : Nat, (∀ (g : St) (x3 : Int32) , I27 g x3 → μ27 g x3 < n → V p l e rmX6_insertAt s m args below meth c 4 G (frA P sz) (MQ below (QcV G P sz K) args s 0 0 (frA P sz)) 0 0 P [(0, .ref a), (1, .int p1), (2, .int p2), (3, .int x3)] [] 27 g) := by
    intro n
    induction n with
    | zero => exact fun g x3 hI hm => absurd hm (Nat.not_lt_zero _)
    | succ n ih =>
      intro g x3 hI hm
      have h := h27 g x3 hI
      clear hI
      unfold bX6_insertAt_27 at h
      refine v_iload_n o 3 dX6_insertAt_27 rfl ?_
      refine v_iload_n o 1 dX6_insertAt_28 rfl ?_
      refine v_icmp_le o (tgt := 56) dX6_insertAt_29 (by decide) (fun c29 => ?_) (fun c29 => ?_)
      · replace h := h.1 c29
        refine v_aload_n o 0 dX6_insertAt_56 rfl ?_
        refine v_gfR o lkX6_14 (by decide) (wfWord_o ha) (wfWord_r0 ha) dX6_insertAt_57 ?_
        refine v_iload_n o 1 dX6_insertAt_60 rfl ?_
        refine v_iload_n o 2 dX6_insertAt_61 rfl ?_
        refine v_cVv o [.int p1, .int p2] [] (fun sz => metX3_put l G P g sz (a + 1) (wfWord_t0 ha) p1 p2 _ h) (cwX6_41 o.1.2.2.2.2 (by decide)) ⟨_, _, rfl⟩ (by decide) (wfRow_o (wfWord_t0 ha)) rfl (Nat.le_of_ble_eq_true rfl) ⟨Nat.le_of_ble_eq_true rfl, Nat.le_of_ble_eq_true rfl⟩ dX6_insertAt_62 rfl (fun g62 h => ?_)
        refine v_aload_n o 0 dX6_insertAt_65 rfl ?_
        refine v_dup o dX6_insertAt_66 rfl ?_
        refine v_gfI o lkX6_24 (by decide) (wfWord_o ha) dX6_insertAt_67 ?_
        refine v_iconst o (v := 1) dX6_insertAt_70 (by decide) ?_
        refine v_iadd o dX6_insertAt_71 ?_
        refine v_pf o lpX6_24 (wfWord_o ha) ⟨rfl, rfl⟩ dX6_insertAt_72 ?_
        refine v_nmf (fun g72 eg72 => ?_)
        replace h := h g72 eg72
        exact v_vret o rfl hr dX6_insertAt_75 h
      · replace h := h.2 c29
        refine v_aload_n o 0 dX6_insertAt_32 rfl ?_
        refine v_gfR o lkX6_14 (by decide) (wfWord_o ha) (wfWord_r0 ha) dX6_insertAt_33 ?_
        refine v_iload_n o 3 dX6_insertAt_36 rfl ?_
        refine v_aload_n o 0 dX6_insertAt_37 rfl ?_
        refine v_gfR o lkX6_14 (by decide) (wfWord_o ha) (wfWord_r0 ha) dX6_insertAt_38 ?_
        refine v_iload_n o 3 dX6_insertAt_41 rfl ?_
        refine v_iconst o (v := 1) dX6_insertAt_42 (by decide) ?_
        refine v_isub o dX6_insertAt_43 ?_
        refine v_cVi o [.int (x3 - 1)] [.int x3, .ref (a + 1)] (fun sz => metX3_at l G P g sz (a + 1) (wfWord_t0 ha) (x3 - 1) _ h) (cwX6_27 o.1.2.2.2.2 (by decide)) ⟨_, _, rfl⟩ (by decide) (wfRow_o (wfWord_t0 ha)) rfl (Nat.le_of_ble_eq_true rfl) ⟨Nat.le_of_ble_eq_true rfl, Nat.le_of_ble_eq_true rfl⟩ dX6_insertAt_44 rfl (fun r44 g44 h => ?_)
        refine v_cVv o [.int x3, .int r44] [] (fun sz => metX3_put l G P g44 sz (a + 1) (wfWord_t0 ha) x3 r44 _ h) (cwX6_41 o.1.2.2.2.2 (by decide)) ⟨_, _, rfl⟩ (by decide) (wfRow_o (wfWord_t0 ha)) rfl (Nat.le_of_ble_eq_true rfl) ⟨Nat.le_of_ble_eq_true rfl, Nat.le_of_ble_eq_true rfl⟩ dX6_insertAt_47 rfl (fun g47 h => ?_)
        obtain ⟨x3_50, ex3_50⟩ : ∃ y : Int32, y = x3 + (-1) := ⟨_, rfl⟩
        replace h := h x3_50 ex3_50
        refine v_iinc o (v := x3_50) (lv' := [(3, .int x3_50), (0, .ref a), (1, .int p1), (2, .int p2)]) 3 dX6_insertAt_50 rfl (by rw [ex3_50]; rfl) (by decide) rfl ?_
        refine v_goto o (tgt := 27) dX6_insertAt_53 (by decide) ?_
        refine v_sub [1, 2, 3, 0] (lv2 := [(0, .ref a), (1, .int p1), (2, .int p2), (3, .int x3_50)]) rfl ?_
        exact ih g47 x3_50  h.1 (by have := h.2; omega)
  unfold vX6_insertAt at h
  refine v_iload_n o 1 dX6_insertAt_0 rfl ?_
  refine v_if_lt o (tgt := 21) dX6_insertAt_1 (by decide) (fun c1 => ?_) (fun c1 => ?_)
  · replace h := h.1 c1
    exact v_vret o rfl hr dX6_insertAt_21 h
  · replace h := h.2 c1
    refine v_iload_n o 1 dX6_insertAt_4 rfl ?_
    refine v_aload_n o 0 dX6_insertAt_5 rfl ?_
    refine v_gfI o lkX6_24 (by decide) (wfWord_o ha) dX6_insertAt_6 ?_
    refine v_icmp_gt o (tgt := 21) dX6_insertAt_9 (by decide) (fun c9 => ?_) (fun c9 => ?_)
    · replace h := h.1 c9
      exact v_vret o rfl hr dX6_insertAt_21 h
    · replace h := h.2 c9
      refine v_aload_n o 0 dX6_insertAt_12 rfl ?_
      refine v_gfI o lkX6_24 (by decide) (wfWord_o ha) dX6_insertAt_13 ?_
      refine v_bipush o (v := 24) dX6_insertAt_16 (by decide) ?_
      refine v_icmp_lt o (tgt := 22) dX6_insertAt_18 (by decide) (fun c18 => ?_) (fun c18 => ?_)
      · replace h := h.1 c18
        refine v_aload_n o 0 dX6_insertAt_22 rfl ?_
        refine v_gfI o lkX6_24 (by decide) (wfWord_o ha) dX6_insertAt_23 ?_
        refine v_topi (fun x3_26 ex3_26 => ?_)
        replace h := h x3_26 ex3_26
        refine v_istore_n o (lv' := [(3, .int x3_26), (0, .ref a), (1, .int p1), (2, .int p2)]) dX6_insertAt_26 rfl (by decide) rfl ?_
        refine v_sub [1, 2, 3, 0] (lv2 := [(0, .ref a), (1, .int p1), (2, .int p2), (3, .int x3_26)]) rfl ?_
        exact (main (μ27 f x3_26 + 1)) f x3_26  h (Nat.lt_succ_self _)
      · replace h := h.2 c18
        exact v_vret o rfl hr dX6_insertAt_21 h
def kX6_insertAt (P : Sk) (f : St) (a : Nat) (p1 : Int32) (p2 : Int32) (K : St → Prop) : Prop := False
theorem metX6_insertAt (l : Launch) (G : Gl) (P : Sk) (f : St) (sz : Nat) (a : Nat) (ha : IsWord P a) (p1 : Int32) (p2 : Int32) (K : St → Prop) (h : kX6_insertAt P f a p1 p2 K) : Met l yX6_insertAt (wU yX6_insertAt cX6_insertAt 4 none) rmX6_insertAt (PcW G P f sz [.ref a, .int p1, .int p2]) (QcV G P sz K) 0 0 (frA P sz) := sorry

def jX6_makeLoose_69 (P : Sk) (a : Nat) (b1 : Nat) (L10 : St → Int32 → Prop) (K : St → Prop) (x2 : Int32) (x3 : Int32) (x4 : Int32) (f : St) : Prop :=
  ∀ x2_69 : Int32, x2_69 = x2 + 1 → L10 f x2_69
def jX6_makeLoose_62 (P : Sk) (a : Nat) (b1 : Nat) (L10 : St → Int32 → Prop) (K : St → Prop) (x2 : Int32) (x3 : Int32) (x4 : Int32) (f : St) : Prop :=
  kX6_insertAt P f a x4 x3 (fun g66 => jX6_makeLoose_69 P a b1 L10 K x2 x3 x4 g66)
def bX6_makeLoose_10 (P : Sk) (a : Nat) (b1 : Nat) (L10 : St → Int32 → Prop) (K : St → Prop) (f : St) (x2 : Int32) : Prop :=
  (f b1 2 ≤ x2 → K f) ∧ (¬ f b1 2 ≤ x2 → kX6_codeAt P f b1 x2 (fun r20 g20 => kX6_looseIndexOf P g20 a r20 (fun r26 g26 => (r26 ≤ 0 → jX6_makeLoose_62 P a b1 L10 K x2 r20 r26 g26) ∧ (¬ r26 ≤ 0 → kX6_codeAt P g26 a (r26 - 1) (fun r41 g41 => kX6_flipped P g41 r20 (fun r45 g45 => (¬ r41 = r45 → jX6_makeLoose_62 P a b1 L10 K x2 r20 r26 g45) ∧ (r41 = r45 → kX6_removeAt P g45 a (r26 - 1) (fun g56 => jX6_makeLoose_69 P a b1 L10 K x2 r20 r26 g56))))))))
def vX6_makeLoose (P : Sk) (f : St) (a : Nat) (b1 : Nat) (L10 : St → Int32 → Prop) (K : St → Prop) : Prop :=
  kX6_begin P f a (f b1 1) (fun g5 => L10 g5 0)
set_option maxRecDepth 20000 in
set_option maxHeartbeats 4000000 in
theorem mX6_makeLoose (l : Launch) (G : Gl) (P : Sk) (f : St) (sz : Nat) (a : Nat) (ha : IsWord P a) (b1 : Nat) (hb1 : IsWord P b1) (K : St → Prop) (I10 : St → Int32 → Prop) (μ10 : St → Int32 → Nat) 
  (h : vX6_makeLoose P f a b1 I10 K)
  (h10 : ∀ (g : St) (x2 : Int32) , I10 g x2 → bX6_makeLoose_10 P a b1 (fun g' z0 => I10 g' z0 ∧ μ10 g' z0 < μ10 g x2) K g x2) :
  Met l yX6_makeLoose (wU yX6_makeLoose cX6_makeLoose 5 none) rmX6_makeLoose (PcW G P f sz [.ref a, .ref b1]) (QcV G P sz K) 0 0 (frA P sz) := by
  refine v_met (own := RX6) [.ref a, .ref b1] (by decide +kernel) rfl (Nat.le_of_ble_eq_true rfl) (fun p e s m args below meth c hsz o hr hnm => ?_)
  refine v_lv (lv2 := [(0, .ref a), (1, .ref b1)]) rfl ?_
  have main : ∀ n : Nat, (∀ (g : St) (x2 : Int32) , I10 g x2 → μ10 g x2 < n → V p l e rmX6_makeLoose s m args below meth c 5 G (frA P sz) (MQ below (QcV G P sz K) args s 0 0 (frA P sz)) 0 0 P [(0, .ref a), (1, .ref b1), (2, .int x2)] [] 10 g) := by
    intro n
    induction n with
    | zero => exact fun g x2 hI hm => absurd hm (Nat.not_lt_zero _)
    | succ n ih =>
      intro g x2 hI hm
      have h := h10 g x2 hI
      clear hI
      have J69 : ∀ (x2_69 : Int32) (x3_69 : Int32) (x4_69 : Int32) (g69 : St), jX6_makeLoose_69 P a b1 (fun g' z0 => I10 g' z0 ∧ μ10 g' z0 < μ10 g x2) K x2_69 x3_69 x4_69 g69 → V p l e rmX6_makeLoose s m args below meth c 5 G (frA P sz) (MQ below (QcV G P sz K) args s 0 0 (frA P sz)) 0 0 P [(0, .ref a), (1, .ref b1), (2, .int x2_69), (3, .int x3_69), (4, .int x4_69)] [] 69 g69 := by
        intro x2_69 x3_69 x4_69 g69  h
        unfold jX6_makeLoose_69 at h
        obtain ⟨x2_69, ex2_69⟩ : ∃ y : Int32, y = x2_69 + 1 := ⟨_, rfl⟩
        replace h := h x2_69 ex2_69
        refine v_iinc o (v := x2_69) (lv' := [(2, .int x2_69), (0, .ref a), (1, .ref b1), (3, .int x3_69), (4, .int x4_69)]) 2 dX6_makeLoose_69 rfl (by rw [ex2_69]; rfl) (by decide) rfl ?_
        refine v_goto o (tgt := 10) dX6_makeLoose_72 (by decide) ?_
        refine v_sub [1, 2, 0] (lv2 := [(0, .ref a), (1, .ref b1), (2, .int x2_69)]) rfl ?_
        exact ih g69 x2_69  h.1 (by have := h.2; omega)
      have J62 : ∀ (x2_62 : Int32) (x3_62 : Int32) (x4_62 : Int32) (g62 : St), jX6_makeLoose_62 P a b1 (fun g' z0 => I10 g' z0 ∧ μ10 g' z0 < μ10 g x2) K x2_62 x3_62 x4_62 g62 → V p l e rmX6_makeLoose s m args below meth c 5 G (frA P sz) (MQ below (QcV G P sz K) args s 0 0 (frA P sz)) 0 0 P [(0, .ref a), (1, .ref b1), (2, .int x2_62), (3, .int x3_62), (4, .int x4_62)] [] 62 g62 := by
        intro x2_62 x3_62 x4_62 g62  h
        unfold jX6_makeLoose_62 at h
        refine v_aload_n o 0 dX6_makeLoose_62 rfl ?_
        refine v_iload o 4 dX6_makeLoose_63 rfl ?_
        refine v_iload_n o 3 dX6_makeLoose_65 rfl ?_
        refine v_cVv o [.int x4_62, .int x3_62] [] (fun sz => metX6_insertAt l G P g62 sz a ha x4_62 x3_62 _ h) (cwX6_31 o.1.2.2.2.2 (by decide)) ⟨_, _, rfl⟩ (by decide) (wfWord_o ha) rfl (Nat.le_of_ble_eq_true rfl) ⟨Nat.le_of_ble_eq_true rfl, Nat.le_of_ble_eq_true rfl⟩ dX6_makeLoose_66 rfl (fun g66 h => ?_)
        refine v_sub [0, 1, 2, 3, 4] (lv2 := [(0, .ref a), (1, .ref b1), (2, .int x2_62), (3, .int x3_62), (4, .int x4_62)]) rfl ?_
        exact J69 x2_62 x3_62 x4_62 g66  h
      unfold bX6_makeLoose_10 at h
      refine v_iload_n o 2 dX6_makeLoose_10 rfl ?_
      refine v_aload_n o 1 dX6_makeLoose_11 rfl ?_
      refine v_gfI o lkX6_24 (by decide) (wfWord_o hb1) dX6_makeLoose_12 ?_
      refine v_icmp_ge o (tgt := 75) dX6_makeLoose_15 (by decide) (fun c15 => ?_) (fun c15 => ?_)
      · replace h := h.1 c15
        exact v_vret o rfl hr dX6_makeLoose_75 h
      · replace h := h.2 c15
        refine v_aload_n o 1 dX6_makeLoose_18 rfl ?_
        refine v_iload_n o 2 dX6_makeLoose_19 rfl ?_
        refine v_cVi o [.int x2] [] (fun sz => metX6_codeAt l G P g sz b1 hb1 x2 _ h) (cwX6_35 o.1.2.2.2.2 (by decide)) ⟨_, _, rfl⟩ (by decide) (wfWord_o hb1) rfl (Nat.le_of_ble_eq_true rfl) ⟨Nat.le_of_ble_eq_true rfl, Nat.le_of_ble_eq_true rfl⟩ dX6_makeLoose_20 rfl (fun r20 g20 h => ?_)
        refine v_istore_n o (lv' := [(3, .int r20), (0, .ref a), (1, .ref b1), (2, .int x2)]) dX6_makeLoose_23 rfl (by decide) rfl ?_
        refine v_aload_n o 1 dX6_makeLoose_24 rfl ?_
        refine v_iload_n o 0 dX6_makeLoose_25 rfl ?_
        refine v_cVi o [.int r20] [] (fun sz => metX6_looseIndexOf l G P g20 sz a ha r20 _ h) (cwX6_72 o.1.2.2.2.2 (by decide)) ⟨_, _, rfl⟩ (by decide) (wfWord_o ha) rfl (Nat.le_of_ble_eq_true rfl) ⟨Nat.le_of_ble_eq_true rfl, Nat.le_of_ble_eq_true rfl⟩ dX6_makeLoose_26 rfl (fun r26 g26 h => ?_)
        refine v_istore o (lv' := [(4, .int r26), (3, .int r20), (0, .ref a), (1, .ref b1), (2, .int x2)]) dX6_makeLoose_29 (by decide) rfl ?_
        refine v_iload o 0 dX6_makeLoose_31 rfl ?_
        refine v_if_le o (tgt := 62) dX6_makeLoose_33 (by decide) (fun c33 => ?_) (fun c33 => ?_)
        · replace h := h.1 c33
          refine v_sub [2, 3, 4, 1, 0] (lv2 := [(0, .ref a), (1, .ref b1), (2, .int x2), (3, .int r20), (4, .int r26)]) rfl ?_
          exact J62 x2 r20 r26 g26  h
        · replace h := h.2 c33
          refine v_aload_n o 2 dX6_makeLoose_36 rfl ?_
          refine v_iload o 0 dX6_makeLoose_37 rfl ?_
          refine v_iconst o (v := 1) dX6_makeLoose_39 (by decide) ?_
          refine v_isub o dX6_makeLoose_40 ?_
          refine v_cVi o [.int (r26 - 1)] [] (fun sz => metX6_codeAt l G P g26 sz a ha (r26 - 1) _ h) (cwX6_35 o.1.2.2.2.2 (by decide)) ⟨_, _, rfl⟩ (by decide) (wfWord_o ha) rfl (Nat.le_of_ble_eq_true rfl) ⟨Nat.le_of_ble_eq_true rfl, Nat.le_of_ble_eq_true rfl⟩ dX6_makeLoose_41 rfl (fun r41 g41 h => ?_)
          refine v_iload_n o 1 dX6_makeLoose_44 rfl ?_
          refine v_cSi o [.int r20] [.int r41] (fun sz => metX6_flipped l G P g41 sz r20 _ h) (cwX6_59 o.1.2.2.2.2 (by decide)) rfl (Nat.le_of_ble_eq_true rfl) ⟨Nat.le_of_ble_eq_true rfl, Nat.le_of_ble_eq_true rfl⟩ dX6_makeLoose_45 rfl (fun r45 g45 h => ?_)
          refine v_icmp_ne o (tgt := 62) dX6_makeLoose_48 (by decide) (fun c48 => ?_) (fun c48 => ?_)
          · replace h := h.1 c48
            refine v_sub [2, 3, 4, 1, 0] (lv2 := [(0, .ref a), (1, .ref b1), (2, .int x2), (3, .int r20), (4, .int r26)]) rfl ?_
            exact J62 x2 r20 r26 g45  h
          · replace h := h.2 c48
            refine v_aload_n o 2 dX6_makeLoose_51 rfl ?_
            refine v_iload o 0 dX6_makeLoose_52 rfl ?_
            refine v_iconst o (v := 1) dX6_makeLoose_54 (by decide) ?_
            refine v_isub o dX6_makeLoose_55 ?_
            refine v_cVv o [.int (r26 - 1)] [] (fun sz => metX6_removeAt l G P g45 sz a ha (r26 - 1) _ h) (cwX6_75 o.1.2.2.2.2 (by decide)) ⟨_, _, rfl⟩ (by decide) (wfWord_o ha) rfl (Nat.le_of_ble_eq_true rfl) ⟨Nat.le_of_ble_eq_true rfl, Nat.le_of_ble_eq_true rfl⟩ dX6_makeLoose_56 rfl (fun g56 h => ?_)
            refine v_goto o (tgt := 69) dX6_makeLoose_59 (by decide) ?_
            refine v_sub [2, 3, 4, 1, 0] (lv2 := [(0, .ref a), (1, .ref b1), (2, .int x2), (3, .int r20), (4, .int r26)]) rfl ?_
            exact J69 x2 r20 r26 g56  h
  unfold vX6_makeLoose at h
  refine v_aload_n o 0 dX6_makeLoose_0 rfl ?_
  refine v_aload_n o 1 dX6_makeLoose_1 rfl ?_
  refine v_gfI o lkX6_20 (by decide) (wfWord_o hb1) dX6_makeLoose_2 ?_
  refine v_cVv o [.int (f b1 1)] [] (fun sz => metX6_begin l G P f sz a ha (f b1 1) _ h) (cwX6_56 o.1.2.2.2.2 (by decide)) ⟨_, _, rfl⟩ (by decide) (wfWord_o ha) rfl (Nat.le_of_ble_eq_true rfl) ⟨Nat.le_of_ble_eq_true rfl, Nat.le_of_ble_eq_true rfl⟩ dX6_makeLoose_5 rfl (fun g5 h => ?_)
  refine v_iconst o (v := 0) dX6_makeLoose_8 (by decide) ?_
  refine v_istore_n o (lv' := [(2, .int 0), (0, .ref a), (1, .ref b1)]) dX6_makeLoose_9 rfl (by decide) rfl ?_
  refine v_sub [1, 2, 0] (lv2 := [(0, .ref a), (1, .ref b1), (2, .int 0)]) rfl ?_
  exact (main (μ10 g5 0 + 1)) g5 0  h (Nat.lt_succ_self _)
def kX6_makeLoose (P : Sk) (f : St) (a : Nat) (b1 : Nat) (K : St → Prop) : Prop := False
theorem metX6_makeLoose (l : Launch) (G : Gl) (P : Sk) (f : St) (sz : Nat) (a : Nat) (ha : IsWord P a) (b1 : Nat) (hb1 : IsWord P b1) (K : St → Prop) (h : kX6_makeLoose P f a b1 K) : Met l yX6_makeLoose (wU yX6_makeLoose cX6_makeLoose 5 none) rmX6_makeLoose (PcW G P f sz [.ref a, .ref b1]) (QcV G P sz K) 0 0 (frA P sz) := sorry

def vX6_strands (P : Sk) (f : St) (a : Nat) (K : Int32 → St → Prop) : Prop :=
  K (f a 1) f
set_option maxRecDepth 20000 in
set_option maxHeartbeats 4000000 in
theorem mX6_strands (l : Launch) (G : Gl) (P : Sk) (f : St) (sz : Nat) (a : Nat) (ha : IsWord P a) (K : Int32 → St → Prop) (h : vX6_strands P f a K)  :
  Met l yX6_strands (wU yX6_strands cX6_strands 1 (some .int)) rmX6_strands (PcW G P f sz [.ref a]) (QcI G P sz K) 0 0 (frA P sz) := by
  refine v_met (own := RX6) [.ref a] (by decide +kernel) rfl (Nat.le_of_ble_eq_true rfl) (fun p e s m args below meth c hsz o hr hnm => ?_)
  refine v_lv (lv2 := [(0, .ref a)]) rfl ?_
  unfold vX6_strands at h
  refine v_aload_n o 0 dX6_strands_0 rfl ?_
  refine v_gfI o lkX6_20 (by decide) (wfWord_o ha) dX6_strands_1 ?_
  exact v_iret o rfl hr dX6_strands_4 h
abbrev kX6_strands := @vX6_strands
abbrev metX6_strands := @mX6_strands

def vX6_size (P : Sk) (f : St) (a : Nat) (K : Int32 → St → Prop) : Prop :=
  K (f a 2) f
set_option maxRecDepth 20000 in
set_option maxHeartbeats 4000000 in
theorem mX6_size (l : Launch) (G : Gl) (P : Sk) (f : St) (sz : Nat) (a : Nat) (ha : IsWord P a) (K : Int32 → St → Prop) (h : vX6_size P f a K)  :
  Met l yX6_size (wU yX6_size cX6_size 1 (some .int)) rmX6_size (PcW G P f sz [.ref a]) (QcI G P sz K) 0 0 (frA P sz) := by
  refine v_met (own := RX6) [.ref a] (by decide +kernel) rfl (Nat.le_of_ble_eq_true rfl) (fun p e s m args below meth c hsz o hr hnm => ?_)
  refine v_lv (lv2 := [(0, .ref a)]) rfl ?_
  unfold vX6_size at h
  refine v_aload_n o 0 dX6_size_0 rfl ?_
  refine v_gfI o lkX6_24 (by decide) (wfWord_o ha) dX6_size_1 ?_
  exact v_iret o rfl hr dX6_size_4 h
abbrev kX6_size := @vX6_size
abbrev metX6_size := @mX6_size

def vX6_isRight (P : Sk) (f : St) (p0 : Int32) (K : Int32 → St → Prop) : Prop :=
  (¬ p0 &&& 1 = 1 → K 0 f) ∧ (p0 &&& 1 = 1 → K 1 f)
set_option maxRecDepth 20000 in
set_option maxHeartbeats 4000000 in
theorem mX6_isRight (l : Launch) (G : Gl) (P : Sk) (f : St) (sz : Nat) (p0 : Int32) (K : Int32 → St → Prop) (h : vX6_isRight P f p0 K)  :
  Met l yX6_isRight (wU yX6_isRight cX6_isRight 1 (some .boolean)) rmX6_isRight (PcW G P f sz [.int p0]) (QcI G P sz K) 0 0 (frA P sz) := by
  refine v_met (own := RX6) [.int p0] (by decide +kernel) rfl (Nat.le_of_ble_eq_true rfl) (fun p e s m args below meth c hsz o hr hnm => ?_)
  refine v_lv (lv2 := [(0, .int p0)]) rfl ?_
  unfold vX6_isRight at h
  refine v_iload_n o 0 dX6_isRight_0 rfl ?_
  refine v_iconst o (v := 1) dX6_isRight_1 (by decide) ?_
  refine v_iand o dX6_isRight_2 ?_
  refine v_iconst o (v := 1) dX6_isRight_3 (by decide) ?_
  refine v_icmp_ne o (tgt := 11) dX6_isRight_4 (by decide) (fun c4 => ?_) (fun c4 => ?_)
  · replace h := h.1 c4
    refine v_iconst o (v := 0) dX6_isRight_11 (by decide) ?_
    exact v_zret o rfl hr bz0.1 dX6_isRight_12 h
  · replace h := h.2 c4
    refine v_iconst o (v := 1) dX6_isRight_7 (by decide) ?_
    refine v_goto o (tgt := 12) dX6_isRight_8 (by decide) ?_
    exact v_zret o rfl hr bz1.1 dX6_isRight_12 h
abbrev kX6_isRight := @vX6_isRight
abbrev metX6_isRight := @mX6_isRight

def jX5_pass_57 (P : Sk) (a : Nat) (p1 : Int32) (p2 : Int32) (K : St → Prop) (x3 : Int32) (x4 : Int32) (x5 : Int32) (x6 : Int32) (y0 : Int32) (f : St) : Prop :=
  kX3_put P f (a + 3) p1 x6 (fun g66 => kX3_at P g66 (a + 11) x6 (fun r81 g81 => kX3_put P g81 (a + 11) x6 (r81 + 1) (fun g86 => kX3_put P g86 (a + 1) p1 y0 (fun g96 => kX3_at P g96 (a + 9) y0 (fun r111 g111 => kX3_put P g111 (a + 9) y0 (r111 + 1) (fun g116 => kX3_put P g116 (a + 5) x3 x5 (fun g126 => kX3_put P g126 (a + 5) (x3 + 1) x4 (fun g138 => K g138))))))))
def jX5_pass_41 (P : Sk) (a : Nat) (p1 : Int32) (p2 : Int32) (K : St → Prop) (x3 : Int32) (x4 : Int32) (x5 : Int32) (y0 : Int32) (f : St) : Prop :=
  kX6_isRight P f p2 (fun r44 g44 => (r44 = 0 → jX5_pass_57 P a p1 p2 K x3 x4 x5 y0 x4 g44) ∧ (¬ r44 = 0 → jX5_pass_57 P a p1 p2 K x3 x4 x5 y0 x5 g44))
def vX5_pass (P : Sk) (f : St) (a : Nat) (p1 : Int32) (p2 : Int32) (K : St → Prop) : Prop :=
  kX6_placeOf P f p2 (fun r1 g1 => kX3_at P g1 (a + 5) r1 (fun r10 g10 => kX3_at P g10 (a + 5) (r1 + 1) (fun r22 g22 => kX6_isRight P g22 p2 (fun r28 g28 => (r28 = 0 → jX5_pass_41 P a p1 p2 K r1 r10 r22 r22 g28) ∧ (¬ r28 = 0 → jX5_pass_41 P a p1 p2 K r1 r10 r22 r10 g28)))))
set_option maxRecDepth 20000 in
set_option maxHeartbeats 4000000 in
theorem mX5_pass (l : Launch) (G : Gl) (P : Sk) (f : St) (sz : Nat) (a : Nat) (ha : IsTrace P a) (p1 : Int32) (p2 : Int32) (K : St → Prop) (h : vX5_pass P f a p1 p2 K)  :
  Met l yX5_pass (wU yX5_pass cX5_pass 8 none) rmX5_pass (PcW G P f sz [.ref a, .int p1, .int p2]) (QcV G P sz K) 0 0 (frA P sz) := by
  refine v_met (own := RX5) [.ref a, .int p1, .int p2] (by decide +kernel) rfl (Nat.le_of_ble_eq_true rfl) (fun p e s m args below meth c hsz o hr hnm => ?_)
  refine v_lv (lv2 := [(0, .ref a), (1, .int p1), (2, .int p2)]) rfl ?_
  have J57 : ∀ (x3_57 : Int32) (x4_57 : Int32) (x5_57 : Int32) (x6_57 : Int32) (y0_57 : Int32) (g57 : St), jX5_pass_57 P a p1 p2 K x3_57 x4_57 x5_57 x6_57 y0_57 g57 → V p l e rmX5_pass s m args below meth c 8 G (frA P sz) (MQ below (QcV G P sz K) args s 0 0 (frA P sz)) 0 0 P [(0, .ref a), (1, .int p1), (2, .int p2), (3, .int x3_57), (4, .int x4_57), (5, .int x5_57), (6, .int x6_57)] [.int y0_57] 57 g57 := by
    intro x3_57 x4_57 x5_57 x6_57 y0_57 g57  h
    unfold jX5_pass_57 at h
    refine v_istore o (lv' := [(7, .int y0_57), (0, .ref a), (1, .int p1), (2, .int p2), (3, .int x3_57), (4, .int x4_57), (5, .int x5_57), (6, .int x6_57)]) dX5_pass_57 (by decide) rfl ?_
    refine v_aload_n o 1 dX5_pass_59 rfl ?_
    refine v_gfR o lkX5_20 (by decide) (wfTrace_o ha) (wfTrace_r1 ha) dX5_pass_60 ?_
    refine v_iload_n o 2 dX5_pass_63 rfl ?_
    refine v_iload o 7 dX5_pass_64 rfl ?_
    refine v_cVv o [.int p1, .int x6_57] [] (fun sz => metX3_put l G P g57 sz (a + 3) (wfTrace_t1 ha) p1 x6_57 _ h) (cwX5_47 o.1.2.2.2.2 (by decide)) ⟨_, _, rfl⟩ (by decide) (wfRow_o (wfTrace_t1 ha)) rfl (Nat.le_of_ble_eq_true rfl) ⟨Nat.le_of_ble_eq_true rfl, Nat.le_of_ble_eq_true rfl⟩ dX5_pass_66 rfl (fun g66 h => ?_)
    refine v_aload_n o 1 dX5_pass_69 rfl ?_
    refine v_gfR o lkX5_32 (by decide) (wfTrace_o ha) (wfTrace_r5 ha) dX5_pass_70 ?_
    refine v_iload o 7 dX5_pass_73 rfl ?_
    refine v_aload_n o 1 dX5_pass_75 rfl ?_
    refine v_gfR o lkX5_32 (by decide) (wfTrace_o ha) (wfTrace_r5 ha) dX5_pass_76 ?_
    refine v_iload o 7 dX5_pass_79 rfl ?_
    refine v_cVi o [.int x6_57] [.int x6_57, .ref (a + 11)] (fun sz => metX3_at l G P g66 sz (a + 11) (wfTrace_t5 ha) x6_57 _ h) (cwX5_61 o.1.2.2.2.2 (by decide)) ⟨_, _, rfl⟩ (by decide) (wfRow_o (wfTrace_t5 ha)) rfl (Nat.le_of_ble_eq_true rfl) ⟨Nat.le_of_ble_eq_true rfl, Nat.le_of_ble_eq_true rfl⟩ dX5_pass_81 rfl (fun r81 g81 h => ?_)
    refine v_iconst o (v := 1) dX5_pass_84 (by decide) ?_
    refine v_iadd o dX5_pass_85 ?_
    refine v_cVv o [.int x6_57, .int (r81 + 1)] [] (fun sz => metX3_put l G P g81 sz (a + 11) (wfTrace_t5 ha) x6_57 (r81 + 1) _ h) (cwX5_47 o.1.2.2.2.2 (by decide)) ⟨_, _, rfl⟩ (by decide) (wfRow_o (wfTrace_t5 ha)) rfl (Nat.le_of_ble_eq_true rfl) ⟨Nat.le_of_ble_eq_true rfl, Nat.le_of_ble_eq_true rfl⟩ dX5_pass_86 rfl (fun g86 h => ?_)
    refine v_aload_n o 1 dX5_pass_89 rfl ?_
    refine v_gfR o lkX5_14 (by decide) (wfTrace_o ha) (wfTrace_r0 ha) dX5_pass_90 ?_
    refine v_iload_n o 2 dX5_pass_93 rfl ?_
    refine v_iload o 0 dX5_pass_94 rfl ?_
    refine v_cVv o [.int p1, .int y0_57] [] (fun sz => metX3_put l G P g86 sz (a + 1) (wfTrace_t0 ha) p1 y0_57 _ h) (cwX5_47 o.1.2.2.2.2 (by decide)) ⟨_, _, rfl⟩ (by decide) (wfRow_o (wfTrace_t0 ha)) rfl (Nat.le_of_ble_eq_true rfl) ⟨Nat.le_of_ble_eq_true rfl, Nat.le_of_ble_eq_true rfl⟩ dX5_pass_96 rfl (fun g96 h => ?_)
    refine v_aload_n o 1 dX5_pass_99 rfl ?_
    refine v_gfR o lkX5_29 (by decide) (wfTrace_o ha) (wfTrace_r4 ha) dX5_pass_100 ?_
    refine v_iload o 0 dX5_pass_103 rfl ?_
    refine v_aload_n o 1 dX5_pass_105 rfl ?_
    refine v_gfR o lkX5_29 (by decide) (wfTrace_o ha) (wfTrace_r4 ha) dX5_pass_106 ?_
    refine v_iload o 0 dX5_pass_109 rfl ?_
    refine v_cVi o [.int y0_57] [.int y0_57, .ref (a + 9)] (fun sz => metX3_at l G P g96 sz (a + 9) (wfTrace_t4 ha) y0_57 _ h) (cwX5_61 o.1.2.2.2.2 (by decide)) ⟨_, _, rfl⟩ (by decide) (wfRow_o (wfTrace_t4 ha)) rfl (Nat.le_of_ble_eq_true rfl) ⟨Nat.le_of_ble_eq_true rfl, Nat.le_of_ble_eq_true rfl⟩ dX5_pass_111 rfl (fun r111 g111 h => ?_)
    refine v_iconst o (v := 1) dX5_pass_114 (by decide) ?_
    refine v_iadd o dX5_pass_115 ?_
    refine v_cVv o [.int y0_57, .int (r111 + 1)] [] (fun sz => metX3_put l G P g111 sz (a + 9) (wfTrace_t4 ha) y0_57 (r111 + 1) _ h) (cwX5_47 o.1.2.2.2.2 (by decide)) ⟨_, _, rfl⟩ (by decide) (wfRow_o (wfTrace_t4 ha)) rfl (Nat.le_of_ble_eq_true rfl) ⟨Nat.le_of_ble_eq_true rfl, Nat.le_of_ble_eq_true rfl⟩ dX5_pass_116 rfl (fun g116 h => ?_)
    refine v_aload_n o 1 dX5_pass_119 rfl ?_
    refine v_gfR o lkX5_23 (by decide) (wfTrace_o ha) (wfTrace_r2 ha) dX5_pass_120 ?_
    refine v_iload_n o 4 dX5_pass_123 rfl ?_
    refine v_iload o 6 dX5_pass_124 rfl ?_
    refine v_cVv o [.int x3_57, .int x5_57] [] (fun sz => metX3_put l G P g116 sz (a + 5) (wfTrace_t2 ha) x3_57 x5_57 _ h) (cwX5_47 o.1.2.2.2.2 (by decide)) ⟨_, _, rfl⟩ (by decide) (wfRow_o (wfTrace_t2 ha)) rfl (Nat.le_of_ble_eq_true rfl) ⟨Nat.le_of_ble_eq_true rfl, Nat.le_of_ble_eq_true rfl⟩ dX5_pass_126 rfl (fun g126 h => ?_)
    refine v_aload_n o 1 dX5_pass_129 rfl ?_
    refine v_gfR o lkX5_23 (by decide) (wfTrace_o ha) (wfTrace_r2 ha) dX5_pass_130 ?_
    refine v_iload_n o 4 dX5_pass_133 rfl ?_
    refine v_iconst o (v := 1) dX5_pass_134 (by decide) ?_
    refine v_iadd o dX5_pass_135 ?_
    refine v_iload o 5 dX5_pass_136 rfl ?_
    refine v_cVv o [.int (x3_57 + 1), .int x4_57] [] (fun sz => metX3_put l G P g126 sz (a + 5) (wfTrace_t2 ha) (x3_57 + 1) x4_57 _ h) (cwX5_47 o.1.2.2.2.2 (by decide)) ⟨_, _, rfl⟩ (by decide) (wfRow_o (wfTrace_t2 ha)) rfl (Nat.le_of_ble_eq_true rfl) ⟨Nat.le_of_ble_eq_true rfl, Nat.le_of_ble_eq_true rfl⟩ dX5_pass_138 rfl (fun g138 h => ?_)
    exact v_vret o rfl hr dX5_pass_141 h
  have J41 : ∀ (x3_41 : Int32) (x4_41 : Int32) (x5_41 : Int32) (y0_41 : Int32) (g41 : St), jX5_pass_41 P a p1 p2 K x3_41 x4_41 x5_41 y0_41 g41 → V p l e rmX5_pass s m args below meth c 8 G (frA P sz) (MQ below (QcV G P sz K) args s 0 0 (frA P sz)) 0 0 P [(0, .ref a), (1, .int p1), (2, .int p2), (3, .int x3_41), (4, .int x4_41), (5, .int x5_41)] [.int y0_41] 41 g41 := by
    intro x3_41 x4_41 x5_41 y0_41 g41  h
    unfold jX5_pass_41 at h
    refine v_istore o (lv' := [(6, .int y0_41), (0, .ref a), (1, .int p1), (2, .int p2), (3, .int x3_41), (4, .int x4_41), (5, .int x5_41)]) dX5_pass_41 (by decide) rfl ?_
    refine v_iload_n o 3 dX5_pass_43 rfl ?_
    refine v_cSi o [.int p2] [] (fun sz => metX6_isRight l G P g41 sz p2 _ h) (cwX5_67 o.1.2.2.2.2 (by decide)) rfl (Nat.le_of_ble_eq_true rfl) ⟨Nat.le_of_ble_eq_true rfl, Nat.le_of_ble_eq_true rfl⟩ dX5_pass_44 rfl (fun r44 g44 h => ?_)
    refine v_if_eq o (tgt := 55) dX5_pass_47 (by decide) (fun c47 => ?_) (fun c47 => ?_)
    · replace h := h.1 c47
      refine v_iload o 5 dX5_pass_55 rfl ?_
      refine v_sub [1, 2, 3, 4, 5, 6, 0] (lv2 := [(0, .ref a), (1, .int p1), (2, .int p2), (3, .int x3_41), (4, .int x4_41), (5, .int x5_41), (6, .int y0_41)]) rfl ?_
      exact J57 x3_41 x4_41 x5_41 y0_41 x4_41 g44  h
    · replace h := h.2 c47
      refine v_iload o 6 dX5_pass_50 rfl ?_
      refine v_goto o (tgt := 57) dX5_pass_52 (by decide) ?_
      refine v_sub [1, 2, 3, 4, 5, 6, 0] (lv2 := [(0, .ref a), (1, .int p1), (2, .int p2), (3, .int x3_41), (4, .int x4_41), (5, .int x5_41), (6, .int y0_41)]) rfl ?_
      exact J57 x3_41 x4_41 x5_41 y0_41 x5_41 g44  h
  unfold vX5_pass at h
  refine v_iload_n o 2 dX5_pass_0 rfl ?_
  refine v_cSi o [.int p2] [] (fun sz => metX6_placeOf l G P f sz p2 _ h) (cwX5_64 o.1.2.2.2.2 (by decide)) rfl (Nat.le_of_ble_eq_true rfl) ⟨Nat.le_of_ble_eq_true rfl, Nat.le_of_ble_eq_true rfl⟩ dX5_pass_1 rfl (fun r1 g1 h => ?_)
  refine v_istore_n o (lv' := [(3, .int r1), (0, .ref a), (1, .int p1), (2, .int p2)]) dX5_pass_4 rfl (by decide) rfl ?_
  refine v_aload_n o 1 dX5_pass_5 rfl ?_
  refine v_gfR o lkX5_23 (by decide) (wfTrace_o ha) (wfTrace_r2 ha) dX5_pass_6 ?_
  refine v_iload_n o 0 dX5_pass_9 rfl ?_
  refine v_cVi o [.int r1] [] (fun sz => metX3_at l G P g1 sz (a + 5) (wfTrace_t2 ha) r1 _ h) (cwX5_61 o.1.2.2.2.2 (by decide)) ⟨_, _, rfl⟩ (by decide) (wfRow_o (wfTrace_t2 ha)) rfl (Nat.le_of_ble_eq_true rfl) ⟨Nat.le_of_ble_eq_true rfl, Nat.le_of_ble_eq_true rfl⟩ dX5_pass_10 rfl (fun r10 g10 h => ?_)
  refine v_istore o (lv' := [(4, .int r10), (3, .int r1), (0, .ref a), (1, .int p1), (2, .int p2)]) dX5_pass_13 (by decide) rfl ?_
  refine v_aload_n o 2 dX5_pass_15 rfl ?_
  refine v_gfR o lkX5_23 (by decide) (wfTrace_o ha) (wfTrace_r2 ha) dX5_pass_16 ?_
  refine v_iload_n o 1 dX5_pass_19 rfl ?_
  refine v_iconst o (v := 1) dX5_pass_20 (by decide) ?_
  refine v_iadd o dX5_pass_21 ?_
  refine v_cVi o [.int (r1 + 1)] [] (fun sz => metX3_at l G P g10 sz (a + 5) (wfTrace_t2 ha) (r1 + 1) _ h) (cwX5_61 o.1.2.2.2.2 (by decide)) ⟨_, _, rfl⟩ (by decide) (wfRow_o (wfTrace_t2 ha)) rfl (Nat.le_of_ble_eq_true rfl) ⟨Nat.le_of_ble_eq_true rfl, Nat.le_of_ble_eq_true rfl⟩ dX5_pass_22 rfl (fun r22 g22 h => ?_)
  refine v_istore o (lv' := [(5, .int r22), (4, .int r10), (3, .int r1), (0, .ref a), (1, .int p1), (2, .int p2)]) dX5_pass_25 (by decide) rfl ?_
  refine v_iload_n o 5 dX5_pass_27 rfl ?_
  refine v_cSi o [.int p2] [] (fun sz => metX6_isRight l G P g22 sz p2 _ h) (cwX5_67 o.1.2.2.2.2 (by decide)) rfl (Nat.le_of_ble_eq_true rfl) ⟨Nat.le_of_ble_eq_true rfl, Nat.le_of_ble_eq_true rfl⟩ dX5_pass_28 rfl (fun r28 g28 h => ?_)
  refine v_if_eq o (tgt := 39) dX5_pass_31 (by decide) (fun c31 => ?_) (fun c31 => ?_)
  · replace h := h.1 c31
    refine v_iload o 0 dX5_pass_39 rfl ?_
    refine v_sub [3, 4, 5, 2, 1, 0] (lv2 := [(0, .ref a), (1, .int p1), (2, .int p2), (3, .int r1), (4, .int r10), (5, .int r22)]) rfl ?_
    exact J41 r1 r10 r22 r22 g28  h
  · replace h := h.2 c31
    refine v_iload o 1 dX5_pass_34 rfl ?_
    refine v_goto o (tgt := 41) dX5_pass_36 (by decide) ?_
    refine v_sub [3, 4, 5, 2, 1, 0] (lv2 := [(0, .ref a), (1, .int p1), (2, .int p2), (3, .int r1), (4, .int r10), (5, .int r22)]) rfl ?_
    exact J41 r1 r10 r22 r10 g28  h
abbrev kX5_pass := @vX5_pass
abbrev metX5_pass := @mX5_pass

def bX5_follow_10 (P : Sk) (a : Nat) (b1 : Nat) (L10 : St → Int32 → Prop) (L53 : St → Int32 → Prop) (L79 : St → Int32 → Prop) (K : St → Prop) (f : St) (x2 : Int32) : Prop :=
  (f a 7 ≤ x2 → L53 f 0) ∧ (¬ f a 7 ≤ x2 → kX3_put P f (a + 5) x2 x2 (fun g24 => kX3_put P g24 (a + 9) x2 0 (fun g33 => kX3_put P g33 (a + 11) x2 0 (fun g42 => ∀ x2_45 : Int32, x2_45 = x2 + 1 → L10 g42 x2_45))))
def bX5_follow_53 (P : Sk) (a : Nat) (b1 : Nat) (L10 : St → Int32 → Prop) (L53 : St → Int32 → Prop) (L79 : St → Int32 → Prop) (K : St → Prop) (f : St) (x2 : Int32) : Prop :=
  kX6_size P f b1 (fun r55 g55 => (r55 ≤ x2 → L79 g55 0) ∧ (¬ r55 ≤ x2 → kX6_codeAt P g55 b1 x2 (fun r65 g65 => kX5_pass P g65 a x2 r65 (fun g68 => ∀ x2_71 : Int32, x2_71 = x2 + 1 → L53 g68 x2_71))))
def bX5_follow_79 (P : Sk) (a : Nat) (b1 : Nat) (L10 : St → Int32 → Prop) (L53 : St → Int32 → Prop) (L79 : St → Int32 → Prop) (K : St → Prop) (f : St) (x2 : Int32) : Prop :=
  (f a 7 ≤ x2 → K f) ∧ (¬ f a 7 ≤ x2 → kX3_at P f (a + 5) x2 (fun r96 g96 => kX3_put P g96 (a + 7) r96 x2 (fun g100 => ∀ x2_103 : Int32, x2_103 = x2 + 1 → L79 g100 x2_103)))
def vX5_follow (P : Sk) (f : St) (a : Nat) (b1 : Nat) (L10 : St → Int32 → Prop) (L53 : St → Int32 → Prop) (L79 : St → Int32 → Prop) (K : St → Prop) : Prop :=
  kX6_strands P f b1 (fun r2 g2 => ∀ g5 : St, g5 = setf g2 a 7 r2 → L10 g5 0)
set_option maxRecDepth 20000 in
set_option maxHeartbeats 4000000 in
theorem mX5_follow (l : Launch) (G : Gl) (P : Sk) (f : St) (sz : Nat) (a : Nat) (ha : IsTrace P a) (b1 : Nat) (hb1 : IsWord P b1) (K : St → Prop) (I10 : St → Int32 → Prop) (μ10 : St → Int32 → Nat) (I53 : St → Int32 → Prop) (μ53 : St → Int32 → Nat) (I79 : St → Int32 → Prop) (μ79 : St → Int32 → Nat) 
  (h : vX5_follow P f a b1 I10 I53 I79 K)
  (h10 : ∀ (g : St) (x2 : Int32) , I10 g x2 → bX5_follow_10 P a b1 (fun g' z0 => I10 g' z0 ∧ μ10 g' z0 < μ10 g x2) (fun g' z0 => I53 g' z0 ∧ μ53 g' z0 < μ10 g x2) (fun g' z0 => I79 g' z0 ∧ μ79 g' z0 < μ10 g x2) K g x2)
  (h53 : ∀ (g : St) (x2 : Int32) , I53 g x2 → bX5_follow_53 P a b1 (fun g' z0 => I10 g' z0 ∧ μ10 g' z0 < μ53 g x2) (fun g' z0 => I53 g' z0 ∧ μ53 g' z0 < μ53 g x2) (fun g' z0 => I79 g' z0 ∧ μ79 g' z0 < μ53 g x2) K g x2)
  (h79 : ∀ (g : St) (x2 : Int32) , I79 g x2 → bX5_follow_79 P a b1 (fun g' z0 => I10 g' z0 ∧ μ10 g' z0 < μ79 g x2) (fun g' z0 => I53 g' z0 ∧ μ53 g' z0 < μ79 g x2) (fun g' z0 => I79 g' z0 ∧ μ79 g' z0 < μ79 g x2) K g x2) :
  Met l yX5_follow (wU yX5_follow cX5_follow 3 none) rmX5_follow (PcW G P f sz [.ref a, .ref b1]) (QcV G P sz K) 0 0 (frA P sz) := by
  refine v_met (own := RX5) [.ref a, .ref b1] (by decide +kernel) rfl (Nat.le_of_ble_eq_true rfl) (fun p e s m args below meth c hsz o hr hnm => ?_)
  refine v_lv (lv2 := [(0, .ref a), (1, .ref b1)]) rfl ?_
  have main : ∀ n : Nat, (∀ (g : St) (x2 : Int32) , I10 g x2 → μ10 g x2 < n → V p l e rmX5_follow s m args below meth c 3 G (frA P sz) (MQ below (QcV G P sz K) args s 0 0 (frA P sz)) 0 0 P [(0, .ref a), (1, .ref b1), (2, .int x2)] [] 10 g) ∧ (∀ (g : St) (x2 : Int32) , I53 g x2 → μ53 g x2 < n → V p l e rmX5_follow s m args below meth c 3 G (frA P sz) (MQ below (QcV G P sz K) args s 0 0 (frA P sz)) 0 0 P [(0, .ref a), (1, .ref b1), (2, .int x2)] [] 53 g) ∧ (∀ (g : St) (x2 : Int32) , I79 g x2 → μ79 g x2 < n → V p l e rmX5_follow s m args below meth c 3 G (frA P sz) (MQ below (QcV G P sz K) args s 0 0 (frA P sz)) 0 0 P [(0, .ref a), (1, .ref b1), (2, .int x2)] [] 79 g) := by
    intro n
    induction n with
    | zero => exact ⟨fun g x2 hI hm => absurd hm (Nat.not_lt_zero _), fun g x2 hI hm => absurd hm (Nat.not_lt_zero _), fun g x2 hI hm => absurd hm (Nat.not_lt_zero _)⟩
    | succ n ih =>
      refine ⟨?_, ?_, ?_⟩
      · intro g x2 hI hm
        have h := h10 g x2 hI
        clear hI
        unfold bX5_follow_10 at h
        refine v_iload_n o 2 dX5_follow_10 rfl ?_
        refine v_aload_n o 0 dX5_follow_11 rfl ?_
        refine v_gfI o lkX5_38 (by decide) (wfTrace_o ha) dX5_follow_12 ?_
        refine v_icmp_ge o (tgt := 51) dX5_follow_15 (by decide) (fun c15 => ?_) (fun c15 => ?_)
        · replace h := h.1 c15
          refine v_iconst o (v := 0) dX5_follow_51 (by decide) ?_
          refine v_istore_n o (lv' := [(2, .int 0), (0, .ref a), (1, .ref b1)]) dX5_follow_52 rfl (by decide) rfl ?_
          refine v_sub [1, 2, 0] (lv2 := [(0, .ref a), (1, .ref b1), (2, .int 0)]) rfl ?_
          exact ih.2.1 g 0  h.1 (by have := h.2; omega)
        · replace h := h.2 c15
          refine v_aload_n o 0 dX5_follow_18 rfl ?_
          refine v_gfR o lkX5_23 (by decide) (wfTrace_o ha) (wfTrace_r2 ha) dX5_follow_19 ?_
          refine v_iload_n o 2 dX5_follow_22 rfl ?_
          refine v_iload_n o 2 dX5_follow_23 rfl ?_
          refine v_cVv o [.int x2, .int x2] [] (fun sz => metX3_put l G P g sz (a + 5) (wfTrace_t2 ha) x2 x2 _ h) (cwX5_47 o.1.2.2.2.2 (by decide)) ⟨_, _, rfl⟩ (by decide) (wfRow_o (wfTrace_t2 ha)) rfl (Nat.le_of_ble_eq_true rfl) ⟨Nat.le_of_ble_eq_true rfl, Nat.le_of_ble_eq_true rfl⟩ dX5_follow_24 rfl (fun g24 h => ?_)
          refine v_aload_n o 0 dX5_follow_27 rfl ?_
          refine v_gfR o lkX5_29 (by decide) (wfTrace_o ha) (wfTrace_r4 ha) dX5_follow_28 ?_
          refine v_iload_n o 2 dX5_follow_31 rfl ?_
          refine v_iconst o (v := 0) dX5_follow_32 (by decide) ?_
          refine v_cVv o [.int x2, .int 0] [] (fun sz => metX3_put l G P g24 sz (a + 9) (wfTrace_t4 ha) x2 0 _ h) (cwX5_47 o.1.2.2.2.2 (by decide)) ⟨_, _, rfl⟩ (by decide) (wfRow_o (wfTrace_t4 ha)) rfl (Nat.le_of_ble_eq_true rfl) ⟨Nat.le_of_ble_eq_true rfl, Nat.le_of_ble_eq_true rfl⟩ dX5_follow_33 rfl (fun g33 h => ?_)
          refine v_aload_n o 0 dX5_follow_36 rfl ?_
          refine v_gfR o lkX5_32 (by decide) (wfTrace_o ha) (wfTrace_r5 ha) dX5_follow_37 ?_
          refine v_iload_n o 2 dX5_follow_40 rfl ?_
          refine v_iconst o (v := 0) dX5_follow_41 (by decide) ?_
          refine v_cVv o [.int x2, .int 0] [] (fun sz => metX3_put l G P g33 sz (a + 11) (wfTrace_t5 ha) x2 0 _ h) (cwX5_47 o.1.2.2.2.2 (by decide)) ⟨_, _, rfl⟩ (by decide) (wfRow_o (wfTrace_t5 ha)) rfl (Nat.le_of_ble_eq_true rfl) ⟨Nat.le_of_ble_eq_true rfl, Nat.le_of_ble_eq_true rfl⟩ dX5_follow_42 rfl (fun g42 h => ?_)
          obtain ⟨x2_45, ex2_45⟩ : ∃ y : Int32, y = x2 + 1 := ⟨_, rfl⟩
          replace h := h x2_45 ex2_45
          refine v_iinc o (v := x2_45) (lv' := [(2, .int x2_45), (0, .ref a), (1, .ref b1)]) 2 dX5_follow_45 rfl (by rw [ex2_45]; rfl) (by decide) rfl ?_
          refine v_goto o (tgt := 10) dX5_follow_48 (by decide) ?_
          refine v_sub [1, 2, 0] (lv2 := [(0, .ref a), (1, .ref b1), (2, .int x2_45)]) rfl ?_
          exact ih.1 g42 x2_45  h.1 (by have := h.2; omega)
      · intro g x2 hI hm
        have h := h53 g x2 hI
        clear hI
        unfold bX5_follow_53 at h
        refine v_iload_n o 2 dX5_follow_53 rfl ?_
        refine v_aload_n o 1 dX5_follow_54 rfl ?_
        refine v_cVi o [] [.int x2] (fun sz => metX6_size l G P g sz b1 hb1 _ h) (cwX5_51 o.1.2.2.2.2 (by decide)) ⟨_, _, rfl⟩ (by decide) (wfWord_o hb1) rfl (Nat.le_of_ble_eq_true rfl) ⟨Nat.le_of_ble_eq_true rfl, Nat.le_of_ble_eq_true rfl⟩ dX5_follow_55 rfl (fun r55 g55 h => ?_)
        refine v_icmp_ge o (tgt := 77) dX5_follow_58 (by decide) (fun c58 => ?_) (fun c58 => ?_)
        · replace h := h.1 c58
          refine v_iconst o (v := 0) dX5_follow_77 (by decide) ?_
          refine v_istore_n o (lv' := [(2, .int 0), (0, .ref a), (1, .ref b1)]) dX5_follow_78 rfl (by decide) rfl ?_
          refine v_sub [1, 2, 0] (lv2 := [(0, .ref a), (1, .ref b1), (2, .int 0)]) rfl ?_
          exact ih.2.2 g55 0  h.1 (by have := h.2; omega)
        · replace h := h.2 c58
          refine v_aload_n o 0 dX5_follow_61 rfl ?_
          refine v_iload_n o 2 dX5_follow_62 rfl ?_
          refine v_aload_n o 1 dX5_follow_63 rfl ?_
          refine v_iload_n o 2 dX5_follow_64 rfl ?_
          refine v_cVi o [.int x2] [.int x2, .ref a] (fun sz => metX6_codeAt l G P g55 sz b1 hb1 x2 _ h) (cwX5_54 o.1.2.2.2.2 (by decide)) ⟨_, _, rfl⟩ (by decide) (wfWord_o hb1) rfl (Nat.le_of_ble_eq_true rfl) ⟨Nat.le_of_ble_eq_true rfl, Nat.le_of_ble_eq_true rfl⟩ dX5_follow_65 rfl (fun r65 g65 h => ?_)
          refine v_cVv o [.int x2, .int r65] [] (fun sz => metX5_pass l G P g65 sz a ha x2 r65 _ h) (cwX5_58 o.1.2.2.2.2 (by decide)) ⟨_, _, rfl⟩ (by decide) (wfTrace_o ha) rfl (Nat.le_of_ble_eq_true rfl) ⟨Nat.le_of_ble_eq_true rfl, Nat.le_of_ble_eq_true rfl⟩ dX5_follow_68 rfl (fun g68 h => ?_)
          obtain ⟨x2_71, ex2_71⟩ : ∃ y : Int32, y = x2 + 1 := ⟨_, rfl⟩
          replace h := h x2_71 ex2_71
          refine v_iinc o (v := x2_71) (lv' := [(2, .int x2_71), (0, .ref a), (1, .ref b1)]) 2 dX5_follow_71 rfl (by rw [ex2_71]; rfl) (by decide) rfl ?_
          refine v_goto o (tgt := 53) dX5_follow_74 (by decide) ?_
          refine v_sub [1, 2, 0] (lv2 := [(0, .ref a), (1, .ref b1), (2, .int x2_71)]) rfl ?_
          exact ih.2.1 g68 x2_71  h.1 (by have := h.2; omega)
      · intro g x2 hI hm
        have h := h79 g x2 hI
        clear hI
        unfold bX5_follow_79 at h
        refine v_iload_n o 2 dX5_follow_79 rfl ?_
        refine v_aload_n o 0 dX5_follow_80 rfl ?_
        refine v_gfI o lkX5_38 (by decide) (wfTrace_o ha) dX5_follow_81 ?_
        refine v_icmp_ge o (tgt := 109) dX5_follow_84 (by decide) (fun c84 => ?_) (fun c84 => ?_)
        · replace h := h.1 c84
          exact v_vret o rfl hr dX5_follow_109 h
        · replace h := h.2 c84
          refine v_aload_n o 0 dX5_follow_87 rfl ?_
          refine v_gfR o lkX5_26 (by decide) (wfTrace_o ha) (wfTrace_r3 ha) dX5_follow_88 ?_
          refine v_aload_n o 0 dX5_follow_91 rfl ?_
          refine v_gfR o lkX5_23 (by decide) (wfTrace_o ha) (wfTrace_r2 ha) dX5_follow_92 ?_
          refine v_iload_n o 2 dX5_follow_95 rfl ?_
          refine v_cVi o [.int x2] [.ref (a + 7)] (fun sz => metX3_at l G P g sz (a + 5) (wfTrace_t2 ha) x2 _ h) (cwX5_61 o.1.2.2.2.2 (by decide)) ⟨_, _, rfl⟩ (by decide) (wfRow_o (wfTrace_t2 ha)) rfl (Nat.le_of_ble_eq_true rfl) ⟨Nat.le_of_ble_eq_true rfl, Nat.le_of_ble_eq_true rfl⟩ dX5_follow_96 rfl (fun r96 g96 h => ?_)
          refine v_iload_n o 2 dX5_follow_99 rfl ?_
          refine v_cVv o [.int r96, .int x2] [] (fun sz => metX3_put l G P g96 sz (a + 7) (wfTrace_t3 ha) r96 x2 _ h) (cwX5_47 o.1.2.2.2.2 (by decide)) ⟨_, _, rfl⟩ (by decide) (wfRow_o (wfTrace_t3 ha)) rfl (Nat.le_of_ble_eq_true rfl) ⟨Nat.le_of_ble_eq_true rfl, Nat.le_of_ble_eq_true rfl⟩ dX5_follow_100 rfl (fun g100 h => ?_)
          obtain ⟨x2_103, ex2_103⟩ : ∃ y : Int32, y = x2 + 1 := ⟨_, rfl⟩
          replace h := h x2_103 ex2_103
          refine v_iinc o (v := x2_103) (lv' := [(2, .int x2_103), (0, .ref a), (1, .ref b1)]) 2 dX5_follow_103 rfl (by rw [ex2_103]; rfl) (by decide) rfl ?_
          refine v_goto o (tgt := 79) dX5_follow_106 (by decide) ?_
          refine v_sub [1, 2, 0] (lv2 := [(0, .ref a), (1, .ref b1), (2, .int x2_103)]) rfl ?_
          exact ih.2.2 g100 x2_103  h.1 (by have := h.2; omega)
  unfold vX5_follow at h
  refine v_aload_n o 0 dX5_follow_0 rfl ?_
  refine v_aload_n o 1 dX5_follow_1 rfl ?_
  refine v_cVi o [] [.ref a] (fun sz => metX6_strands l G P f sz b1 hb1 _ h) (cwX5_42 o.1.2.2.2.2 (by decide)) ⟨_, _, rfl⟩ (by decide) (wfWord_o hb1) rfl (Nat.le_of_ble_eq_true rfl) ⟨Nat.le_of_ble_eq_true rfl, Nat.le_of_ble_eq_true rfl⟩ dX5_follow_2 rfl (fun r2 g2 h => ?_)
  refine v_pf o lpX5_38 (wfTrace_o ha) ⟨rfl, rfl⟩ dX5_follow_5 ?_
  refine v_nmf (fun g5 eg5 => ?_)
  replace h := h g5 eg5
  refine v_iconst o (v := 0) dX5_follow_8 (by decide) ?_
  refine v_istore_n o (lv' := [(2, .int 0), (0, .ref a), (1, .ref b1)]) dX5_follow_9 rfl (by decide) rfl ?_
  refine v_sub [1, 2, 0] (lv2 := [(0, .ref a), (1, .ref b1), (2, .int 0)]) rfl ?_
  exact (main (μ10 g5 0 + 1)).1 g5 0  h (Nat.lt_succ_self _)
def kX5_follow (P : Sk) (f : St) (a : Nat) (b1 : Nat) (K : St → Prop) : Prop := False
theorem metX5_follow (l : Launch) (G : Gl) (P : Sk) (f : St) (sz : Nat) (a : Nat) (ha : IsTrace P a) (b1 : Nat) (hb1 : IsWord P b1) (K : St → Prop) (h : kX5_follow P f a b1 K) : Met l yX5_follow (wU yX5_follow cX5_follow 3 none) rmX5_follow (PcW G P f sz [.ref a, .ref b1]) (QcV G P sz K) 0 0 (frA P sz) := sorry

def vX5_doughUsed (P : Sk) (f : St) (a : Nat) (p1 : Int32) (K : Int32 → St → Prop) : Prop :=
  kX3_at P f (a + 11) p1 (fun r5 g5 => kX3_at P g5 (a + 9) p1 (fun r14 g14 => K (r5 + (2 * r14)) g14))
set_option maxRecDepth 20000 in
set_option maxHeartbeats 4000000 in
theorem mX5_doughUsed (l : Launch) (G : Gl) (P : Sk) (f : St) (sz : Nat) (a : Nat) (ha : IsTrace P a) (p1 : Int32) (K : Int32 → St → Prop) (h : vX5_doughUsed P f a p1 K)  :
  Met l yX5_doughUsed (wU yX5_doughUsed cX5_doughUsed 2 (some .int)) rmX5_doughUsed (PcW G P f sz [.ref a, .int p1]) (QcI G P sz K) 0 0 (frA P sz) := by
  refine v_met (own := RX5) [.ref a, .int p1] (by decide +kernel) rfl (Nat.le_of_ble_eq_true rfl) (fun p e s m args below meth c hsz o hr hnm => ?_)
  refine v_lv (lv2 := [(0, .ref a), (1, .int p1)]) rfl ?_
  unfold vX5_doughUsed at h
  refine v_aload_n o 0 dX5_doughUsed_0 rfl ?_
  refine v_gfR o lkX5_32 (by decide) (wfTrace_o ha) (wfTrace_r5 ha) dX5_doughUsed_1 ?_
  refine v_iload_n o 1 dX5_doughUsed_4 rfl ?_
  refine v_cVi o [.int p1] [] (fun sz => metX3_at l G P f sz (a + 11) (wfTrace_t5 ha) p1 _ h) (cwX5_61 o.1.2.2.2.2 (by decide)) ⟨_, _, rfl⟩ (by decide) (wfRow_o (wfTrace_t5 ha)) rfl (Nat.le_of_ble_eq_true rfl) ⟨Nat.le_of_ble_eq_true rfl, Nat.le_of_ble_eq_true rfl⟩ dX5_doughUsed_5 rfl (fun r5 g5 h => ?_)
  refine v_iconst o (v := 2) dX5_doughUsed_8 (by decide) ?_
  refine v_aload_n o 0 dX5_doughUsed_9 rfl ?_
  refine v_gfR o lkX5_29 (by decide) (wfTrace_o ha) (wfTrace_r4 ha) dX5_doughUsed_10 ?_
  refine v_iload_n o 1 dX5_doughUsed_13 rfl ?_
  refine v_cVi o [.int p1] [.int 2, .int r5] (fun sz => metX3_at l G P g5 sz (a + 9) (wfTrace_t4 ha) p1 _ h) (cwX5_61 o.1.2.2.2.2 (by decide)) ⟨_, _, rfl⟩ (by decide) (wfRow_o (wfTrace_t4 ha)) rfl (Nat.le_of_ble_eq_true rfl) ⟨Nat.le_of_ble_eq_true rfl, Nat.le_of_ble_eq_true rfl⟩ dX5_doughUsed_14 rfl (fun r14 g14 h => ?_)
  refine v_imul o dX5_doughUsed_17 ?_
  refine v_iadd o dX5_doughUsed_18 ?_
  exact v_iret o rfl hr dX5_doughUsed_19 h
abbrev kX5_doughUsed := @vX5_doughUsed
abbrev metX5_doughUsed := @mX5_doughUsed

def bX5_hasDoughForAll_2 (P : Sk) (a : Nat) (L2 : St → Int32 → Prop) (K : Int32 → St → Prop) (f : St) (x1 : Int32) : Prop :=
  (f a 7 ≤ x1 → K 1 f) ∧ (¬ f a 7 ≤ x1 → kX5_doughUsed P f a x1 (fun r12 g12 => (r12 ≤ 30 → ∀ x1_22 : Int32, x1_22 = x1 + 1 → L2 g12 x1_22) ∧ (¬ r12 ≤ 30 → K 0 g12)))
def vX5_hasDoughForAll (P : Sk) (f : St) (a : Nat) (L2 : St → Int32 → Prop) (K : Int32 → St → Prop) : Prop :=
  L2 f 0
set_option maxRecDepth 20000 in
set_option maxHeartbeats 4000000 in
theorem mX5_hasDoughForAll (l : Launch) (G : Gl) (P : Sk) (f : St) (sz : Nat) (a : Nat) (ha : IsTrace P a) (K : Int32 → St → Prop) (I2 : St → Int32 → Prop) (μ2 : St → Int32 → Nat) 
  (h : vX5_hasDoughForAll P f a I2 K)
  (h2 : ∀ (g : St) (x1 : Int32) , I2 g x1 → bX5_hasDoughForAll_2 P a (fun g' z0 => I2 g' z0 ∧ μ2 g' z0 < μ2 g x1) K g x1) :
  Met l yX5_hasDoughForAll (wU yX5_hasDoughForAll cX5_hasDoughForAll 2 (some .boolean)) rmX5_hasDoughForAll (PcW G P f sz [.ref a]) (QcI G P sz K) 0 0 (frA P sz) := by
  refine v_met (own := RX5) [.ref a] (by decide +kernel) rfl (Nat.le_of_ble_eq_true rfl) (fun p e s m args below meth c hsz o hr hnm => ?_)
  refine v_lv (lv2 := [(0, .ref a)]) rfl ?_
  have main : ∀ n : Nat, (∀ (g : St) (x1 : Int32) , I2 g x1 → μ2 g x1 < n → V p l e rmX5_hasDoughForAll s m args below meth c 2 G (frA P sz) (MQ below (QcI G P sz K) args s 0 0 (frA P sz)) 0 0 P [(0, .ref a), (1, .int x1)] [] 2 g) := by
    intro n
    induction n with
    | zero => exact fun g x1 hI hm => absurd hm (Nat.not_lt_zero _)
    | succ n ih =>
      intro g x1 hI hm
      have h := h2 g x1 hI
      clear hI
      unfold bX5_hasDoughForAll_2 at h
      refine v_iload_n o 1 dX5_hasDoughForAll_2 rfl ?_
      refine v_aload_n o 0 dX5_hasDoughForAll_3 rfl ?_
      refine v_gfI o lkX5_38 (by decide) (wfTrace_o ha) dX5_hasDoughForAll_4 ?_
      refine v_icmp_ge o (tgt := 28) dX5_hasDoughForAll_7 (by decide) (fun c7 => ?_) (fun c7 => ?_)
      · replace h := h.1 c7
        refine v_iconst o (v := 1) dX5_hasDoughForAll_28 (by decide) ?_
        exact v_zret o rfl hr bz1.1 dX5_hasDoughForAll_29 h
      · replace h := h.2 c7
        refine v_aload_n o 0 dX5_hasDoughForAll_10 rfl ?_
        refine v_iload_n o 1 dX5_hasDoughForAll_11 rfl ?_
        refine v_cVi o [.int x1] [] (fun sz => metX5_doughUsed l G P g sz a ha x1 _ h) (cwX5_75 o.1.2.2.2.2 (by decide)) ⟨_, _, rfl⟩ (by decide) (wfTrace_o ha) rfl (Nat.le_of_ble_eq_true rfl) ⟨Nat.le_of_ble_eq_true rfl, Nat.le_of_ble_eq_true rfl⟩ dX5_hasDoughForAll_12 rfl (fun r12 g12 h => ?_)
        refine v_bipush o (v := 30) dX5_hasDoughForAll_15 (by decide) ?_
        refine v_icmp_le o (tgt := 22) dX5_hasDoughForAll_17 (by decide) (fun c17 => ?_) (fun c17 => ?_)
        · replace h := h.1 c17
          obtain ⟨x1_22, ex1_22⟩ : ∃ y : Int32, y = x1 + 1 := ⟨_, rfl⟩
          replace h := h x1_22 ex1_22
          refine v_iinc o (v := x1_22) (lv' := [(1, .int x1_22), (0, .ref a)]) 1 dX5_hasDoughForAll_22 rfl (by rw [ex1_22]; rfl) (by decide) rfl ?_
          refine v_goto o (tgt := 2) dX5_hasDoughForAll_25 (by decide) ?_
          refine v_sub [1, 0] (lv2 := [(0, .ref a), (1, .int x1_22)]) rfl ?_
          exact ih g12 x1_22  h.1 (by have := h.2; omega)
        · replace h := h.2 c17
          refine v_iconst o (v := 0) dX5_hasDoughForAll_20 (by decide) ?_
          exact v_zret o rfl hr bz0.1 dX5_hasDoughForAll_21 h
  unfold vX5_hasDoughForAll at h
  refine v_iconst o (v := 0) dX5_hasDoughForAll_0 (by decide) ?_
  refine v_istore_n o (lv' := [(1, .int 0), (0, .ref a)]) dX5_hasDoughForAll_1 rfl (by decide) rfl ?_
  refine v_sub [1, 0] (lv2 := [(0, .ref a), (1, .int 0)]) rfl ?_
  exact (main (μ2 f 0 + 1)) f 0  h (Nat.lt_succ_self _)
def kX5_hasDoughForAll (P : Sk) (f : St) (a : Nat) (K : Int32 → St → Prop) : Prop := False
theorem metX5_hasDoughForAll (l : Launch) (G : Gl) (P : Sk) (f : St) (sz : Nat) (a : Nat) (ha : IsTrace P a) (K : Int32 → St → Prop) (h : kX5_hasDoughForAll P f a K) : Met l yX5_hasDoughForAll (wU yX5_hasDoughForAll cX5_hasDoughForAll 2 (some .boolean)) rmX5_hasDoughForAll (PcW G P f sz [.ref a]) (QcI G P sz K) 0 0 (frA P sz) := sorry

def vX2_settle (P : Sk) (f : St) (a : Nat) (K : Int32 → St → Prop) : Prop :=
  kX6_makeLoose P f (a + 4) (a + 1) (fun g8 => kX5_follow P g8 (a + 7) (a + 1) (fun g19 => kX5_hasDoughForAll P g19 (a + 7) (fun r26 g26 => (r26 = 0 → K 2 g26) ∧ (¬ r26 = 0 → K 0 g26))))
set_option maxRecDepth 20000 in
set_option maxHeartbeats 4000000 in
theorem mX2_settle (l : Launch) (G : Gl) (P : Sk) (f : St) (sz : Nat) (a : Nat) (ha : IsLoaf P a) (K : Int32 → St → Prop) (h : vX2_settle P f a K)  :
  Met l yX2_settle (wU yX2_settle cX2_settle 1 (some .int)) rmX2_settle (PcW G P f sz [.ref a]) (QcI G P sz K) 0 0 (frA P sz) := by
  refine v_met (own := RX2) [.ref a] (by decide +kernel) rfl (Nat.le_of_ble_eq_true rfl) (fun p e s m args below meth c hsz o hr hnm => ?_)
  refine v_lv (lv2 := [(0, .ref a)]) rfl ?_
  unfold vX2_settle at h
  refine v_aload_n o 0 dX2_settle_0 rfl ?_
  refine v_gfR o lkX2_18 (by decide) (wfLoaf_o ha) (wfLoaf_r1 ha) dX2_settle_1 ?_
  refine v_aload_n o 0 dX2_settle_4 rfl ?_
  refine v_gfR o lkX2_12 (by decide) (wfLoaf_o ha) (wfLoaf_r0 ha) dX2_settle_5 ?_
  refine v_cVv o [.ref (a + 1)] [] (fun sz => metX6_makeLoose l G P f sz (a + 4) (wfLoaf_t1 ha) (a + 1) (wfLoaf_t0 ha) _ h) (cwX2_28 o.1.2.2.2.2 (by decide)) ⟨_, _, rfl⟩ (by decide) (wfWord_o (wfLoaf_t1 ha)) rfl (Nat.le_of_ble_eq_true rfl) ⟨Nat.le_of_ble_eq_true rfl, Nat.le_of_ble_eq_true rfl⟩ dX2_settle_8 rfl (fun g8 h => ?_)
  refine v_aload_n o 0 dX2_settle_11 rfl ?_
  refine v_gfR o lkX2_24 (by decide) (wfLoaf_o ha) (wfLoaf_r2 ha) dX2_settle_12 ?_
  refine v_aload_n o 0 dX2_settle_15 rfl ?_
  refine v_gfR o lkX2_12 (by decide) (wfLoaf_o ha) (wfLoaf_r0 ha) dX2_settle_16 ?_
  refine v_cVv o [.ref (a + 1)] [] (fun sz => metX5_follow l G P g8 sz (a + 7) (wfLoaf_t2 ha) (a + 1) (wfLoaf_t0 ha) _ h) (cwX2_32 o.1.2.2.2.2 (by decide)) ⟨_, _, rfl⟩ (by decide) (wfTrace_o (wfLoaf_t2 ha)) rfl (Nat.le_of_ble_eq_true rfl) ⟨Nat.le_of_ble_eq_true rfl, Nat.le_of_ble_eq_true rfl⟩ dX2_settle_19 rfl (fun g19 h => ?_)
  refine v_aload_n o 0 dX2_settle_22 rfl ?_
  refine v_gfR o lkX2_24 (by decide) (wfLoaf_o ha) (wfLoaf_r2 ha) dX2_settle_23 ?_
  refine v_cVi o [] [] (fun sz => metX5_hasDoughForAll l G P g19 sz (a + 7) (wfLoaf_t2 ha) _ h) (cwX2_35 o.1.2.2.2.2 (by decide)) ⟨_, _, rfl⟩ (by decide) (wfTrace_o (wfLoaf_t2 ha)) rfl (Nat.le_of_ble_eq_true rfl) ⟨Nat.le_of_ble_eq_true rfl, Nat.le_of_ble_eq_true rfl⟩ dX2_settle_26 rfl (fun r26 g26 h => ?_)
  refine v_if_eq o (tgt := 36) dX2_settle_29 (by decide) (fun c29 => ?_) (fun c29 => ?_)
  · replace h := h.1 c29
    refine v_iconst o (v := 2) dX2_settle_36 (by decide) ?_
    exact v_iret o rfl hr dX2_settle_37 h
  · replace h := h.2 c29
    refine v_iconst o (v := 0) dX2_settle_32 (by decide) ?_
    refine v_goto o (tgt := 37) dX2_settle_33 (by decide) ?_
    exact v_iret o rfl hr dX2_settle_37 h
abbrev kX2_settle := @vX2_settle
abbrev metX2_settle := @mX2_settle

def vX5_hiddenAt (P : Sk) (f : St) (a : Nat) (p1 : Int32) (K : Int32 → St → Prop) : Prop :=
  kX3_at P f (a + 1) p1 (fun r5 g5 => K r5 g5)
set_option maxRecDepth 20000 in
set_option maxHeartbeats 4000000 in
theorem mX5_hiddenAt (l : Launch) (G : Gl) (P : Sk) (f : St) (sz : Nat) (a : Nat) (ha : IsTrace P a) (p1 : Int32) (K : Int32 → St → Prop) (h : vX5_hiddenAt P f a p1 K)  :
  Met l yX5_hiddenAt (wU yX5_hiddenAt cX5_hiddenAt 2 (some .int)) rmX5_hiddenAt (PcW G P f sz [.ref a, .int p1]) (QcI G P sz K) 0 0 (frA P sz) := by
  refine v_met (own := RX5) [.ref a, .int p1] (by decide +kernel) rfl (Nat.le_of_ble_eq_true rfl) (fun p e s m args below meth c hsz o hr hnm => ?_)
  refine v_lv (lv2 := [(0, .ref a), (1, .int p1)]) rfl ?_
  unfold vX5_hiddenAt at h
  refine v_aload_n o 0 dX5_hiddenAt_0 rfl ?_
  refine v_gfR o lkX5_14 (by decide) (wfTrace_o ha) (wfTrace_r0 ha) dX5_hiddenAt_1 ?_
  refine v_iload_n o 1 dX5_hiddenAt_4 rfl ?_
  refine v_cVi o [.int p1] [] (fun sz => metX3_at l G P f sz (a + 1) (wfTrace_t0 ha) p1 _ h) (cwX5_61 o.1.2.2.2.2 (by decide)) ⟨_, _, rfl⟩ (by decide) (wfRow_o (wfTrace_t0 ha)) rfl (Nat.le_of_ble_eq_true rfl) ⟨Nat.le_of_ble_eq_true rfl, Nat.le_of_ble_eq_true rfl⟩ dX5_hiddenAt_5 rfl (fun r5 g5 h => ?_)
  exact v_iret o rfl hr dX5_hiddenAt_8 h
abbrev kX5_hiddenAt := @vX5_hiddenAt
abbrev metX5_hiddenAt := @mX5_hiddenAt

def vX5_aboveAt (P : Sk) (f : St) (a : Nat) (p1 : Int32) (K : Int32 → St → Prop) : Prop :=
  kX3_at P f (a + 3) p1 (fun r5 g5 => K r5 g5)
set_option maxRecDepth 20000 in
set_option maxHeartbeats 4000000 in
theorem mX5_aboveAt (l : Launch) (G : Gl) (P : Sk) (f : St) (sz : Nat) (a : Nat) (ha : IsTrace P a) (p1 : Int32) (K : Int32 → St → Prop) (h : vX5_aboveAt P f a p1 K)  :
  Met l yX5_aboveAt (wU yX5_aboveAt cX5_aboveAt 2 (some .int)) rmX5_aboveAt (PcW G P f sz [.ref a, .int p1]) (QcI G P sz K) 0 0 (frA P sz) := by
  refine v_met (own := RX5) [.ref a, .int p1] (by decide +kernel) rfl (Nat.le_of_ble_eq_true rfl) (fun p e s m args below meth c hsz o hr hnm => ?_)
  refine v_lv (lv2 := [(0, .ref a), (1, .int p1)]) rfl ?_
  unfold vX5_aboveAt at h
  refine v_aload_n o 0 dX5_aboveAt_0 rfl ?_
  refine v_gfR o lkX5_20 (by decide) (wfTrace_o ha) (wfTrace_r1 ha) dX5_aboveAt_1 ?_
  refine v_iload_n o 1 dX5_aboveAt_4 rfl ?_
  refine v_cVi o [.int p1] [] (fun sz => metX3_at l G P f sz (a + 3) (wfTrace_t1 ha) p1 _ h) (cwX5_61 o.1.2.2.2.2 (by decide)) ⟨_, _, rfl⟩ (by decide) (wfRow_o (wfTrace_t1 ha)) rfl (Nat.le_of_ble_eq_true rfl) ⟨Nat.le_of_ble_eq_true rfl, Nat.le_of_ble_eq_true rfl⟩ dX5_aboveAt_5 rfl (fun r5 g5 h => ?_)
  exact v_iret o rfl hr dX5_aboveAt_8 h
abbrev kX5_aboveAt := @vX5_aboveAt
abbrev metX5_aboveAt := @mX5_aboveAt

def vX2_numberOfCrossing (P : Sk) (f : St) (a : Nat) (p1 : Int32) (p2 : Int32) (K : Int32 → St → Prop) : Prop :=
  (p1 < 0 → K (-1) f) ∧ (¬ p1 < 0 → kX6_size P f (a + 1) (fun r9 g9 => (p1 < r9 → (p2 = 0 → kX6_codeAt P g9 (a + 1) p1 (fun r49 g49 => kX6_placeOf P g49 r49 (fun r52 g52 => K r52 g52))) ∧ (¬ p2 = 0 → (p2 = 1 → kX6_codeAt P g9 (a + 1) p1 (fun r61 g61 => kX6_isRight P g61 r61 (fun r64 g64 => (r64 = 0 → K 0 g64) ∧ (¬ r64 = 0 → K 1 g64)))) ∧ (¬ p2 = 1 → (p2 = 2 → kX5_hiddenAt P g9 (a + 7) p1 (fun r81 g81 => K r81 g81)) ∧ (¬ p2 = 2 → kX5_aboveAt P g9 (a + 7) p1 (fun r90 g90 => K r90 g90))))) ∧ (¬ p1 < r9 → K (-1) g9)))
set_option maxRecDepth 20000 in
set_option maxHeartbeats 4000000 in
theorem mX2_numberOfCrossing (l : Launch) (G : Gl) (P : Sk) (f : St) (sz : Nat) (a : Nat) (ha : IsLoaf P a) (p1 : Int32) (p2 : Int32) (K : Int32 → St → Prop) (h : vX2_numberOfCrossing P f a p1 p2 K)  :
  Met l yX2_numberOfCrossing (wU yX2_numberOfCrossing cX2_numberOfCrossing 3 (some .int)) rmX2_numberOfCrossing (PcW G P f sz [.ref a, .int p1, .int p2]) (QcI G P sz K) 0 0 (frA P sz) := by
  refine v_met (own := RX2) [.ref a, .int p1, .int p2] (by decide +kernel) rfl (Nat.le_of_ble_eq_true rfl) (fun p e s m args below meth c hsz o hr hnm => ?_)
  refine v_lv (lv2 := [(0, .ref a), (1, .int p1), (2, .int p2)]) rfl ?_
  unfold vX2_numberOfCrossing at h
  refine v_iload_n o 1 dX2_numberOfCrossing_0 rfl ?_
  refine v_if_lt o (tgt := 15) dX2_numberOfCrossing_1 (by decide) (fun c1 => ?_) (fun c1 => ?_)
  · replace h := h.1 c1
    refine v_iconst o (v := (-1)) dX2_numberOfCrossing_15 (by decide) ?_
    exact v_iret o rfl hr dX2_numberOfCrossing_16 h
  · replace h := h.2 c1
    refine v_iload_n o 1 dX2_numberOfCrossing_4 rfl ?_
    refine v_aload_n o 0 dX2_numberOfCrossing_5 rfl ?_
    refine v_gfR o lkX2_12 (by decide) (wfLoaf_o ha) (wfLoaf_r0 ha) dX2_numberOfCrossing_6 ?_
    refine v_cVi o [] [.int p1] (fun sz => metX6_size l G P f sz (a + 1) (wfLoaf_t0 ha) _ h) (cwX2_45 o.1.2.2.2.2 (by decide)) ⟨_, _, rfl⟩ (by decide) (wfWord_o (wfLoaf_t0 ha)) rfl (Nat.le_of_ble_eq_true rfl) ⟨Nat.le_of_ble_eq_true rfl, Nat.le_of_ble_eq_true rfl⟩ dX2_numberOfCrossing_9 rfl (fun r9 g9 h => ?_)
    refine v_icmp_lt o (tgt := 17) dX2_numberOfCrossing_12 (by decide) (fun c12 => ?_) (fun c12 => ?_)
    · replace h := h.1 c12
      refine v_iload_n o 2 dX2_numberOfCrossing_17 rfl ?_
      by_cases c18_0 : p2 = 0
      · replace h := h.1 c18_0
        refine v_tableIn o (off := 26) (tgt := 44) dX2_numberOfCrossing_18 (by rw [c18_0]; decide) (by rw [c18_0]; decide) (by rw [c18_0]; decide) (by decide) ?_
        refine v_aload_n o 0 dX2_numberOfCrossing_44 rfl ?_
        refine v_gfR o lkX2_12 (by decide) (wfLoaf_o ha) (wfLoaf_r0 ha) dX2_numberOfCrossing_45 ?_
        refine v_iload_n o 1 dX2_numberOfCrossing_48 rfl ?_
        refine v_cVi o [.int p1] [] (fun sz => metX6_codeAt l G P g9 sz (a + 1) (wfLoaf_t0 ha) p1 _ h) (cwX2_49 o.1.2.2.2.2 (by decide)) ⟨_, _, rfl⟩ (by decide) (wfWord_o (wfLoaf_t0 ha)) rfl (Nat.le_of_ble_eq_true rfl) ⟨Nat.le_of_ble_eq_true rfl, Nat.le_of_ble_eq_true rfl⟩ dX2_numberOfCrossing_49 rfl (fun r49 g49 h => ?_)
        refine v_cSi o [.int r49] [] (fun sz => metX6_placeOf l G P g49 sz r49 _ h) (cwX2_53 o.1.2.2.2.2 (by decide)) rfl (Nat.le_of_ble_eq_true rfl) ⟨Nat.le_of_ble_eq_true rfl, Nat.le_of_ble_eq_true rfl⟩ dX2_numberOfCrossing_52 rfl (fun r52 g52 h => ?_)
        exact v_iret o rfl hr dX2_numberOfCrossing_55 h
      · replace h := h.2 c18_0
        by_cases c18_1 : p2 = 1
        · replace h := h.1 c18_1
          refine v_tableIn o (off := 38) (tgt := 56) dX2_numberOfCrossing_18 (by rw [c18_1]; decide) (by rw [c18_1]; decide) (by rw [c18_1]; decide) (by decide) ?_
          refine v_aload_n o 0 dX2_numberOfCrossing_56 rfl ?_
          refine v_gfR o lkX2_12 (by decide) (wfLoaf_o ha) (wfLoaf_r0 ha) dX2_numberOfCrossing_57 ?_
          refine v_iload_n o 1 dX2_numberOfCrossing_60 rfl ?_
          refine v_cVi o [.int p1] [] (fun sz => metX6_codeAt l G P g9 sz (a + 1) (wfLoaf_t0 ha) p1 _ h) (cwX2_49 o.1.2.2.2.2 (by decide)) ⟨_, _, rfl⟩ (by decide) (wfWord_o (wfLoaf_t0 ha)) rfl (Nat.le_of_ble_eq_true rfl) ⟨Nat.le_of_ble_eq_true rfl, Nat.le_of_ble_eq_true rfl⟩ dX2_numberOfCrossing_61 rfl (fun r61 g61 h => ?_)
          refine v_cSi o [.int r61] [] (fun sz => metX6_isRight l G P g61 sz r61 _ h) (cwX2_56 o.1.2.2.2.2 (by decide)) rfl (Nat.le_of_ble_eq_true rfl) ⟨Nat.le_of_ble_eq_true rfl, Nat.le_of_ble_eq_true rfl⟩ dX2_numberOfCrossing_64 rfl (fun r64 g64 h => ?_)
          refine v_if_eq o (tgt := 74) dX2_numberOfCrossing_67 (by decide) (fun c67 => ?_) (fun c67 => ?_)
          · replace h := h.1 c67
            refine v_iconst o (v := 0) dX2_numberOfCrossing_74 (by decide) ?_
            exact v_iret o rfl hr dX2_numberOfCrossing_75 h
          · replace h := h.2 c67
            refine v_iconst o (v := 1) dX2_numberOfCrossing_70 (by decide) ?_
            refine v_goto o (tgt := 75) dX2_numberOfCrossing_71 (by decide) ?_
            exact v_iret o rfl hr dX2_numberOfCrossing_75 h
        · replace h := h.2 c18_1
          by_cases c18_2 : p2 = 2
          · replace h := h.1 c18_2
            refine v_tableIn o (off := 58) (tgt := 76) dX2_numberOfCrossing_18 (by rw [c18_2]; decide) (by rw [c18_2]; decide) (by rw [c18_2]; decide) (by decide) ?_
            refine v_aload_n o 0 dX2_numberOfCrossing_76 rfl ?_
            refine v_gfR o lkX2_24 (by decide) (wfLoaf_o ha) (wfLoaf_r2 ha) dX2_numberOfCrossing_77 ?_
            refine v_iload_n o 1 dX2_numberOfCrossing_80 rfl ?_
            refine v_cVi o [.int p1] [] (fun sz => metX5_hiddenAt l G P g9 sz (a + 7) (wfLoaf_t2 ha) p1 _ h) (cwX2_60 o.1.2.2.2.2 (by decide)) ⟨_, _, rfl⟩ (by decide) (wfTrace_o (wfLoaf_t2 ha)) rfl (Nat.le_of_ble_eq_true rfl) ⟨Nat.le_of_ble_eq_true rfl, Nat.le_of_ble_eq_true rfl⟩ dX2_numberOfCrossing_81 rfl (fun r81 g81 h => ?_)
            exact v_iret o rfl hr dX2_numberOfCrossing_84 h
          · replace h := h.2 c18_2
            refine v_tableOut o (tgt := 85) dX2_numberOfCrossing_18 (by have q0 := lv_neT c18_0 (a := 0) (by decide); have q1 := lv_neT c18_1 (a := 1) (by decide); have q2 := lv_neT c18_2 (a := 2) (by decide); omega) (by decide) ?_
            refine v_aload_n o 0 dX2_numberOfCrossing_85 rfl ?_
            refine v_gfR o lkX2_24 (by decide) (wfLoaf_o ha) (wfLoaf_r2 ha) dX2_numberOfCrossing_86 ?_
            refine v_iload_n o 1 dX2_numberOfCrossing_89 rfl ?_
            refine v_cVi o [.int p1] [] (fun sz => metX5_aboveAt l G P g9 sz (a + 7) (wfLoaf_t2 ha) p1 _ h) (cwX2_63 o.1.2.2.2.2 (by decide)) ⟨_, _, rfl⟩ (by decide) (wfTrace_o (wfLoaf_t2 ha)) rfl (Nat.le_of_ble_eq_true rfl) ⟨Nat.le_of_ble_eq_true rfl, Nat.le_of_ble_eq_true rfl⟩ dX2_numberOfCrossing_90 rfl (fun r90 g90 h => ?_)
            exact v_iret o rfl hr dX2_numberOfCrossing_93 h
    · replace h := h.2 c12
      refine v_iconst o (v := (-1)) dX2_numberOfCrossing_15 (by decide) ?_
      exact v_iret o rfl hr dX2_numberOfCrossing_16 h
abbrev kX2_numberOfCrossing := @vX2_numberOfCrossing
abbrev metX2_numberOfCrossing := @mX2_numberOfCrossing

def vX5_numberOfStrand (P : Sk) (f : St) (a : Nat) (p1 : Int32) (p2 : Int32) (K : Int32 → St → Prop) : Prop :=
  (p1 < 0 → K (-1) f) ∧ (¬ p1 < 0 → (p1 < f a 7 → (p2 = 0 → kX3_at P f (a + 7) p1 (fun r49 g49 => K r49 g49)) ∧ (¬ p2 = 0 → (p2 = 1 → kX3_at P f (a + 9) p1 (fun r58 g58 => K r58 g58)) ∧ (¬ p2 = 1 → (p2 = 2 → kX3_at P f (a + 11) p1 (fun r67 g67 => K r67 g67)) ∧ (¬ p2 = 2 → (p2 = 3 → kX5_doughUsed P f a p1 (fun r75 g75 => K (30 - r75) g75)) ∧ (¬ p2 = 3 → kX3_at P f (a + 5) p1 (fun r85 g85 => K r85 g85)))))) ∧ (¬ p1 < f a 7 → K (-1) f))
set_option maxRecDepth 20000 in
set_option maxHeartbeats 4000000 in
theorem mX5_numberOfStrand (l : Launch) (G : Gl) (P : Sk) (f : St) (sz : Nat) (a : Nat) (ha : IsTrace P a) (p1 : Int32) (p2 : Int32) (K : Int32 → St → Prop) (h : vX5_numberOfStrand P f a p1 p2 K)  :
  Met l yX5_numberOfStrand (wU yX5_numberOfStrand cX5_numberOfStrand 3 (some .int)) rmX5_numberOfStrand (PcW G P f sz [.ref a, .int p1, .int p2]) (QcI G P sz K) 0 0 (frA P sz) := by
  refine v_met (own := RX5) [.ref a, .int p1, .int p2] (by decide +kernel) rfl (Nat.le_of_ble_eq_true rfl) (fun p e s m args below meth c hsz o hr hnm => ?_)
  refine v_lv (lv2 := [(0, .ref a), (1, .int p1), (2, .int p2)]) rfl ?_
  unfold vX5_numberOfStrand at h
  refine v_iload_n o 1 dX5_numberOfStrand_0 rfl ?_
  refine v_if_lt o (tgt := 12) dX5_numberOfStrand_1 (by decide) (fun c1 => ?_) (fun c1 => ?_)
  · replace h := h.1 c1
    refine v_iconst o (v := (-1)) dX5_numberOfStrand_12 (by decide) ?_
    exact v_iret o rfl hr dX5_numberOfStrand_13 h
  · replace h := h.2 c1
    refine v_iload_n o 1 dX5_numberOfStrand_4 rfl ?_
    refine v_aload_n o 0 dX5_numberOfStrand_5 rfl ?_
    refine v_gfI o lkX5_38 (by decide) (wfTrace_o ha) dX5_numberOfStrand_6 ?_
    refine v_icmp_lt o (tgt := 14) dX5_numberOfStrand_9 (by decide) (fun c9 => ?_) (fun c9 => ?_)
    · replace h := h.1 c9
      refine v_iload_n o 2 dX5_numberOfStrand_14 rfl ?_
      by_cases c15_0 : p2 = 0
      · replace h := h.1 c15_0
        refine v_tableIn o (off := 29) (tgt := 44) dX5_numberOfStrand_15 (by rw [c15_0]; decide) (by rw [c15_0]; decide) (by rw [c15_0]; decide) (by decide) ?_
        refine v_aload_n o 0 dX5_numberOfStrand_44 rfl ?_
        refine v_gfR o lkX5_26 (by decide) (wfTrace_o ha) (wfTrace_r3 ha) dX5_numberOfStrand_45 ?_
        refine v_iload_n o 1 dX5_numberOfStrand_48 rfl ?_
        refine v_cVi o [.int p1] [] (fun sz => metX3_at l G P f sz (a + 7) (wfTrace_t3 ha) p1 _ h) (cwX5_61 o.1.2.2.2.2 (by decide)) ⟨_, _, rfl⟩ (by decide) (wfRow_o (wfTrace_t3 ha)) rfl (Nat.le_of_ble_eq_true rfl) ⟨Nat.le_of_ble_eq_true rfl, Nat.le_of_ble_eq_true rfl⟩ dX5_numberOfStrand_49 rfl (fun r49 g49 h => ?_)
        exact v_iret o rfl hr dX5_numberOfStrand_52 h
      · replace h := h.2 c15_0
        by_cases c15_1 : p2 = 1
        · replace h := h.1 c15_1
          refine v_tableIn o (off := 38) (tgt := 53) dX5_numberOfStrand_15 (by rw [c15_1]; decide) (by rw [c15_1]; decide) (by rw [c15_1]; decide) (by decide) ?_
          refine v_aload_n o 0 dX5_numberOfStrand_53 rfl ?_
          refine v_gfR o lkX5_29 (by decide) (wfTrace_o ha) (wfTrace_r4 ha) dX5_numberOfStrand_54 ?_
          refine v_iload_n o 1 dX5_numberOfStrand_57 rfl ?_
          refine v_cVi o [.int p1] [] (fun sz => metX3_at l G P f sz (a + 9) (wfTrace_t4 ha) p1 _ h) (cwX5_61 o.1.2.2.2.2 (by decide)) ⟨_, _, rfl⟩ (by decide) (wfRow_o (wfTrace_t4 ha)) rfl (Nat.le_of_ble_eq_true rfl) ⟨Nat.le_of_ble_eq_true rfl, Nat.le_of_ble_eq_true rfl⟩ dX5_numberOfStrand_58 rfl (fun r58 g58 h => ?_)
          exact v_iret o rfl hr dX5_numberOfStrand_61 h
        · replace h := h.2 c15_1
          by_cases c15_2 : p2 = 2
          · replace h := h.1 c15_2
            refine v_tableIn o (off := 47) (tgt := 62) dX5_numberOfStrand_15 (by rw [c15_2]; decide) (by rw [c15_2]; decide) (by rw [c15_2]; decide) (by decide) ?_
            refine v_aload_n o 0 dX5_numberOfStrand_62 rfl ?_
            refine v_gfR o lkX5_32 (by decide) (wfTrace_o ha) (wfTrace_r5 ha) dX5_numberOfStrand_63 ?_
            refine v_iload_n o 1 dX5_numberOfStrand_66 rfl ?_
            refine v_cVi o [.int p1] [] (fun sz => metX3_at l G P f sz (a + 11) (wfTrace_t5 ha) p1 _ h) (cwX5_61 o.1.2.2.2.2 (by decide)) ⟨_, _, rfl⟩ (by decide) (wfRow_o (wfTrace_t5 ha)) rfl (Nat.le_of_ble_eq_true rfl) ⟨Nat.le_of_ble_eq_true rfl, Nat.le_of_ble_eq_true rfl⟩ dX5_numberOfStrand_67 rfl (fun r67 g67 h => ?_)
            exact v_iret o rfl hr dX5_numberOfStrand_70 h
          · replace h := h.2 c15_2
            by_cases c15_3 : p2 = 3
            · replace h := h.1 c15_3
              refine v_tableIn o (off := 56) (tgt := 71) dX5_numberOfStrand_15 (by rw [c15_3]; decide) (by rw [c15_3]; decide) (by rw [c15_3]; decide) (by decide) ?_
              refine v_bipush o (v := 30) dX5_numberOfStrand_71 (by decide) ?_
              refine v_aload_n o 0 dX5_numberOfStrand_73 rfl ?_
              refine v_iload_n o 1 dX5_numberOfStrand_74 rfl ?_
              refine v_cVi o [.int p1] [.int 30] (fun sz => metX5_doughUsed l G P f sz a ha p1 _ h) (cwX5_75 o.1.2.2.2.2 (by decide)) ⟨_, _, rfl⟩ (by decide) (wfTrace_o ha) rfl (Nat.le_of_ble_eq_true rfl) ⟨Nat.le_of_ble_eq_true rfl, Nat.le_of_ble_eq_true rfl⟩ dX5_numberOfStrand_75 rfl (fun r75 g75 h => ?_)
              refine v_isub o dX5_numberOfStrand_78 ?_
              exact v_iret o rfl hr dX5_numberOfStrand_79 h
            · replace h := h.2 c15_3
              refine v_tableOut o (tgt := 80) dX5_numberOfStrand_15 (by have q0 := lv_neT c15_0 (a := 0) (by decide); have q1 := lv_neT c15_1 (a := 1) (by decide); have q2 := lv_neT c15_2 (a := 2) (by decide); have q3 := lv_neT c15_3 (a := 3) (by decide); omega) (by decide) ?_
              refine v_aload_n o 0 dX5_numberOfStrand_80 rfl ?_
              refine v_gfR o lkX5_23 (by decide) (wfTrace_o ha) (wfTrace_r2 ha) dX5_numberOfStrand_81 ?_
              refine v_iload_n o 1 dX5_numberOfStrand_84 rfl ?_
              refine v_cVi o [.int p1] [] (fun sz => metX3_at l G P f sz (a + 5) (wfTrace_t2 ha) p1 _ h) (cwX5_61 o.1.2.2.2.2 (by decide)) ⟨_, _, rfl⟩ (by decide) (wfRow_o (wfTrace_t2 ha)) rfl (Nat.le_of_ble_eq_true rfl) ⟨Nat.le_of_ble_eq_true rfl, Nat.le_of_ble_eq_true rfl⟩ dX5_numberOfStrand_85 rfl (fun r85 g85 h => ?_)
              exact v_iret o rfl hr dX5_numberOfStrand_88 h
    · replace h := h.2 c9
      refine v_iconst o (v := (-1)) dX5_numberOfStrand_12 (by decide) ?_
      exact v_iret o rfl hr dX5_numberOfStrand_13 h
abbrev kX5_numberOfStrand := @vX5_numberOfStrand
abbrev metX5_numberOfStrand := @mX5_numberOfStrand

def bX2_hashOfParts_5 (P : Sk) (a : Nat) (p1 : Int64) (L5 : St → Int64 → Int32 → Prop) (L20 : St → Int64 → Int32 → Int32 → Prop) (L57 : St → Int64 → Int32 → Prop) (L95 : St → Int64 → Int32 → Prop) (L110 : St → Int64 → Int32 → Int32 → Prop) (K : Int64 → St → Prop) (f : St) (x3 : Int64) (x5 : Int32) : Prop :=
  kX6_size P f (a + 1) (fun r11 g11 => (r11 ≤ x5 → L57 g11 x3 0) ∧ (¬ r11 ≤ x5 → L20 g11 x3 x5 0))
def bX2_hashOfParts_20 (P : Sk) (a : Nat) (p1 : Int64) (L5 : St → Int64 → Int32 → Prop) (L20 : St → Int64 → Int32 → Int32 → Prop) (L57 : St → Int64 → Int32 → Prop) (L95 : St → Int64 → Int32 → Prop) (L110 : St → Int64 → Int32 → Int32 → Prop) (K : Int64 → St → Prop) (f : St) (x3 : Int64) (x5 : Int32) (x6 : Int32) : Prop :=
  (3 < x6 → ∀ x5_48 : Int32, x5_48 = x5 + 1 → L5 f x3 x5_48) ∧ (¬ 3 < x6 → kX2_numberOfCrossing P f a x5 x6 (fun r36 g36 => ∀ x3_41 : Int64, x3_41 = (31 * x3) + (r36.toInt64) → ∀ x6_42 : Int32, x6_42 = x6 + 1 → L20 g36 x3_41 x5 x6_42))
def bX2_hashOfParts_57 (P : Sk) (a : Nat) (p1 : Int64) (L5 : St → Int64 → Int32 → Prop) (L20 : St → Int64 → Int32 → Int32 → Prop) (L57 : St → Int64 → Int32 → Prop) (L95 : St → Int64 → Int32 → Prop) (L110 : St → Int64 → Int32 → Int32 → Prop) (K : Int64 → St → Prop) (f : St) (x3 : Int64) (x5 : Int32) : Prop :=
  kX6_size P f (a + 4) (fun r63 g63 => (r63 ≤ x5 → L95 g63 x3 0) ∧ (¬ r63 ≤ x5 → kX6_codeAt P g63 (a + 4) x5 (fun r80 g80 => ∀ x3_85 : Int64, x3_85 = (31 * x3) + (r80.toInt64) → ∀ x5_86 : Int32, x5_86 = x5 + 1 → L57 g80 x3_85 x5_86)))
def bX2_hashOfParts_95 (P : Sk) (a : Nat) (p1 : Int64) (L5 : St → Int64 → Int32 → Prop) (L20 : St → Int64 → Int32 → Int32 → Prop) (L57 : St → Int64 → Int32 → Prop) (L95 : St → Int64 → Int32 → Prop) (L110 : St → Int64 → Int32 → Int32 → Prop) (K : Int64 → St → Prop) (f : St) (x3 : Int64) (x5 : Int32) : Prop :=
  kX6_strands P f (a + 1) (fun r101 g101 => (r101 ≤ x5 → K x3 g101) ∧ (¬ r101 ≤ x5 → L110 g101 x3 x5 0))
def bX2_hashOfParts_110 (P : Sk) (a : Nat) (p1 : Int64) (L5 : St → Int64 → Int32 → Prop) (L20 : St → Int64 → Int32 → Int32 → Prop) (L57 : St → Int64 → Int32 → Prop) (L95 : St → Int64 → Int32 → Prop) (L110 : St → Int64 → Int32 → Int32 → Prop) (K : Int64 → St → Prop) (f : St) (x3 : Int64) (x5 : Int32) (x6 : Int32) : Prop :=
  (4 < x6 → ∀ x5_141 : Int32, x5_141 = x5 + 1 → L95 f x3 x5_141) ∧ (¬ 4 < x6 → kX5_numberOfStrand P f (a + 7) x5 x6 (fun r129 g129 => ∀ x3_134 : Int64, x3_134 = (31 * x3) + (r129.toInt64) → ∀ x6_135 : Int32, x6_135 = x6 + 1 → L110 g129 x3_134 x5 x6_135))
def vX2_hashOfParts (P : Sk) (f : St) (a : Nat) (p1 : Int64) (L5 : St → Int64 → Int32 → Prop) (L20 : St → Int64 → Int32 → Int32 → Prop) (L57 : St → Int64 → Int32 → Prop) (L95 : St → Int64 → Int32 → Prop) (L110 : St → Int64 → Int32 → Int32 → Prop) (K : Int64 → St → Prop) : Prop :=
  L5 f p1 0
set_option maxRecDepth 20000 in
set_option maxHeartbeats 4000000 in
theorem mX2_hashOfParts (l : Launch) (G : Gl) (P : Sk) (f : St) (sz : Nat) (a : Nat) (ha : IsLoaf P a) (p1 : Int64) (K : Int64 → St → Prop) (I5 : St → Int64 → Int32 → Prop) (μ5 : St → Int64 → Int32 → Nat) (I20 : St → Int64 → Int32 → Int32 → Prop) (μ20 : St → Int64 → Int32 → Int32 → Nat) (I57 : St → Int64 → Int32 → Prop) (μ57 : St → Int64 → Int32 → Nat) (I95 : St → Int64 → Int32 → Prop) (μ95 : St → Int64 → Int32 → Nat) (I110 : St → Int64 → Int32 → Int32 → Prop) (μ110 : St → Int64 → Int32 → Int32 → Nat) 
  (h : vX2_hashOfParts P f a p1 I5 I20 I57 I95 I110 K)
  (h5 : ∀ (g : St) (x3 : Int64) (x5 : Int32) , I5 g x3 x5 → bX2_hashOfParts_5 P a p1 (fun g' z0 z1 => I5 g' z0 z1 ∧ μ5 g' z0 z1 < μ5 g x3 x5) (fun g' z0 z1 z2 => I20 g' z0 z1 z2 ∧ μ20 g' z0 z1 z2 < μ5 g x3 x5) (fun g' z0 z1 => I57 g' z0 z1 ∧ μ57 g' z0 z1 < μ5 g x3 x5) (fun g' z0 z1 => I95 g' z0 z1 ∧ μ95 g' z0 z1 < μ5 g x3 x5) (fun g' z0 z1 z2 => I110 g' z0 z1 z2 ∧ μ110 g' z0 z1 z2 < μ5 g x3 x5) K g x3 x5)
  (h20 : ∀ (g : St) (x3 : Int64) (x5 : Int32) (x6 : Int32) , I20 g x3 x5 x6 → bX2_hashOfParts_20 P a p1 (fun g' z0 z1 => I5 g' z0 z1 ∧ μ5 g' z0 z1 < μ20 g x3 x5 x6) (fun g' z0 z1 z2 => I20 g' z0 z1 z2 ∧ μ20 g' z0 z1 z2 < μ20 g x3 x5 x6) (fun g' z0 z1 => I57 g' z0 z1 ∧ μ57 g' z0 z1 < μ20 g x3 x5 x6) (fun g' z0 z1 => I95 g' z0 z1 ∧ μ95 g' z0 z1 < μ20 g x3 x5 x6) (fun g' z0 z1 z2 => I110 g' z0 z1 z2 ∧ μ110 g' z0 z1 z2 < μ20 g x3 x5 x6) K g x3 x5 x6)
  (h57 : ∀ (g : St) (x3 : Int64) (x5 : Int32) , I57 g x3 x5 → bX2_hashOfParts_57 P a p1 (fun g' z0 z1 => I5 g' z0 z1 ∧ μ5 g' z0 z1 < μ57 g x3 x5) (fun g' z0 z1 z2 => I20 g' z0 z1 z2 ∧ μ20 g' z0 z1 z2 < μ57 g x3 x5) (fun g' z0 z1 => I57 g' z0 z1 ∧ μ57 g' z0 z1 < μ57 g x3 x5) (fun g' z0 z1 => I95 g' z0 z1 ∧ μ95 g' z0 z1 < μ57 g x3 x5) (fun g' z0 z1 z2 => I110 g' z0 z1 z2 ∧ μ110 g' z0 z1 z2 < μ57 g x3 x5) K g x3 x5)
  (h95 : ∀ (g : St) (x3 : Int64) (x5 : Int32) , I95 g x3 x5 → bX2_hashOfParts_95 P a p1 (fun g' z0 z1 => I5 g' z0 z1 ∧ μ5 g' z0 z1 < μ95 g x3 x5) (fun g' z0 z1 z2 => I20 g' z0 z1 z2 ∧ μ20 g' z0 z1 z2 < μ95 g x3 x5) (fun g' z0 z1 => I57 g' z0 z1 ∧ μ57 g' z0 z1 < μ95 g x3 x5) (fun g' z0 z1 => I95 g' z0 z1 ∧ μ95 g' z0 z1 < μ95 g x3 x5) (fun g' z0 z1 z2 => I110 g' z0 z1 z2 ∧ μ110 g' z0 z1 z2 < μ95 g x3 x5) K g x3 x5)
  (h110 : ∀ (g : St) (x3 : Int64) (x5 : Int32) (x6 : Int32) , I110 g x3 x5 x6 → bX2_hashOfParts_110 P a p1 (fun g' z0 z1 => I5 g' z0 z1 ∧ μ5 g' z0 z1 < μ110 g x3 x5 x6) (fun g' z0 z1 z2 => I20 g' z0 z1 z2 ∧ μ20 g' z0 z1 z2 < μ110 g x3 x5 x6) (fun g' z0 z1 => I57 g' z0 z1 ∧ μ57 g' z0 z1 < μ110 g x3 x5 x6) (fun g' z0 z1 => I95 g' z0 z1 ∧ μ95 g' z0 z1 < μ110 g x3 x5 x6) (fun g' z0 z1 z2 => I110 g' z0 z1 z2 ∧ μ110 g' z0 z1 z2 < μ110 g x3 x5 x6) K g x3 x5 x6) :
  Met l yX2_hashOfParts (wU yX2_hashOfParts cX2_hashOfParts 7 (some .long)) rmX2_hashOfParts (PcW G P f sz [.ref a, .long p1]) (QcL G P sz K) 0 0 (frA P sz) := by
  refine v_met (own := RX2) [.ref a, .long p1] (by decide +kernel) rfl (Nat.le_of_ble_eq_true rfl) (fun p e s m args below meth c hsz o hr hnm => ?_)
  refine v_lv (lv2 := [(0, .ref a), (1, .long p1)]) rfl ?_
  have main : ∀ n : Nat, (∀ (g : St) (x3 : Int64) (x5 : Int32) , I5 g x3 x5 → μ5 g x3 x5 < n → V p l e rmX2_hashOfParts s m args below meth c 7 G (frA P sz) (MQ below (QcL G P sz K) args s 0 0 (frA P sz)) 0 0 P [(0, .ref a), (1, .long p1), (3, .long x3), (5, .int x5)] [] 5 g) ∧ (∀ (g : St) (x3 : Int64) (x5 : Int32) (x6 : Int32) , I20 g x3 x5 x6 → μ20 g x3 x5 x6 < n → V p l e rmX2_hashOfParts s m args below meth c 7 G (frA P sz) (MQ below (QcL G P sz K) args s 0 0 (frA P sz)) 0 0 P [(0, .ref a), (1, .long p1), (3, .long x3), (5, .int x5), (6, .int x6)] [] 20 g) ∧ (∀ (g : St) (x3 : Int64) (x5 : Int32) , I57 g x3 x5 → μ57 g x3 x5 < n → V p l e rmX2_hashOfParts s m args below meth c 7 G (frA P sz) (MQ below (QcL G P sz K) args s 0 0 (frA P sz)) 0 0 P [(0, .ref a), (1, .long p1), (3, .long x3), (5, .int x5)] [] 57 g) ∧ (∀ (g : St) (x3 : Int64) (x5 : Int32) , I95 g x3 x5 → μ95 g x3 x5 < n → V p l e rmX2_hashOfParts s m args below meth c 7 G (frA P sz) (MQ below (QcL G P sz K) args s 0 0 (frA P sz)) 0 0 P [(0, .ref a), (1, .long p1), (3, .long x3), (5, .int x5)] [] 95 g) ∧ (∀ (g : St) (x3 : Int64) (x5 : Int32) (x6 : Int32) , I110 g x3 x5 x6 → μ110 g x3 x5 x6 < n → V p l e rmX2_hashOfParts s m args below meth c 7 G (frA P sz) (MQ below (QcL G P sz K) args s 0 0 (frA P sz)) 0 0 P [(0, .ref a), (1, .long p1), (3, .long x3), (5, .int x5), (6, .int x6)] [] 110 g) := by
    intro n
    induction n with
    | zero => exact ⟨fun g x3 x5 hI hm => absurd hm (Nat.not_lt_zero _), fun g x3 x5 x6 hI hm => absurd hm (Nat.not_lt_zero _), fun g x3 x5 hI hm => absurd hm (Nat.not_lt_zero _), fun g x3 x5 hI hm => absurd hm (Nat.not_lt_zero _), fun g x3 x5 x6 hI hm => absurd hm (Nat.not_lt_zero _)⟩
    | succ n ih =>
      refine ⟨?_, ?_, ?_, ?_, ?_⟩
      · intro g x3 x5 hI hm
        have h := h5 g x3 x5 hI
        clear hI
        unfold bX2_hashOfParts_5 at h
        refine v_iload o 3 dX2_hashOfParts_5 rfl ?_
        refine v_aload_n o 0 dX2_hashOfParts_7 rfl ?_
        refine v_gfR o lkX2_12 (by decide) (wfLoaf_o ha) (wfLoaf_r0 ha) dX2_hashOfParts_8 ?_
        refine v_cVi o [] [.int x5] (fun sz => metX6_size l G P g sz (a + 1) (wfLoaf_t0 ha) _ h) (cwX2_45 o.1.2.2.2.2 (by decide)) ⟨_, _, rfl⟩ (by decide) (wfWord_o (wfLoaf_t0 ha)) rfl (Nat.le_of_ble_eq_true rfl) ⟨Nat.le_of_ble_eq_true rfl, Nat.le_of_ble_eq_true rfl⟩ dX2_hashOfParts_11 rfl (fun r11 g11 h => ?_)
        refine v_icmp_ge o (tgt := 54) dX2_hashOfParts_14 (by decide) (fun c14 => ?_) (fun c14 => ?_)
        · replace h := h.1 c14
          refine v_iconst o (v := 0) dX2_hashOfParts_54 (by decide) ?_
          refine v_istore o (lv' := [(5, .int 0), (0, .ref a), (1, .long p1), (3, .long x3)]) dX2_hashOfParts_55 (by decide) rfl ?_
          refine v_sub [1, 2, 3, 0] (lv2 := [(0, .ref a), (1, .long p1), (3, .long x3), (5, .int 0)]) rfl ?_
          exact ih.2.2.1 g11 x3 0  h.1 (by have := h.2; omega)
        · replace h := h.2 c14
          refine v_iconst o (v := 0) dX2_hashOfParts_17 (by decide) ?_
          refine v_istore o (lv' := [(6, .int 0), (0, .ref a), (1, .long p1), (3, .long x3), (5, .int x5)]) dX2_hashOfParts_18 (by decide) rfl ?_
          refine v_sub [1, 2, 3, 4, 0] (lv2 := [(0, .ref a), (1, .long p1), (3, .long x3), (5, .int x5), (6, .int 0)]) rfl ?_
          exact ih.2.1 g11 x3 x5 0  h.1 (by have := h.2; omega)
      · intro g x3 x5 x6 hI hm
        have h := h20 g x3 x5 x6 hI
        clear hI
        unfold bX2_hashOfParts_20 at h
        refine v_iload o 4 dX2_hashOfParts_20 rfl ?_
        refine v_iconst o (v := 3) dX2_hashOfParts_22 (by decide) ?_
        refine v_icmp_gt o (tgt := 48) dX2_hashOfParts_23 (by decide) (fun c23 => ?_) (fun c23 => ?_)
        · replace h := h.1 c23
          obtain ⟨x5_48, ex5_48⟩ : ∃ y : Int32, y = x5 + 1 := ⟨_, rfl⟩
          replace h := h x5_48 ex5_48
          refine v_iinc o (v := x5_48) (lv' := [(5, .int x5_48), (0, .ref a), (1, .long p1), (3, .long x3), (6, .int x6)]) 3 dX2_hashOfParts_48 rfl (by rw [ex5_48]; rfl) (by decide) rfl ?_
          refine v_goto o (tgt := 5) dX2_hashOfParts_51 (by decide) ?_
          refine v_sub [1, 2, 3, 0] (lv2 := [(0, .ref a), (1, .long p1), (3, .long x3), (5, .int x5_48)]) rfl ?_
          exact ih.1 g x3 x5_48  h.1 (by have := h.2; omega)
        · replace h := h.2 c23
          refine v_ldc2 o (v := 31) dX2_hashOfParts_26 (mU 562 (by decide +kernel) rfl) ?_
          refine v_lload_n o 2 dX2_hashOfParts_29 rfl ?_
          refine v_lmul o dX2_hashOfParts_30 ?_
          refine v_aload_n o 0 dX2_hashOfParts_31 rfl ?_
          refine v_iload o 3 dX2_hashOfParts_32 rfl ?_
          refine v_iload o 4 dX2_hashOfParts_34 rfl ?_
          refine v_cVi o [.int x5, .int x6] [.long (31 * x3)] (fun sz => metX2_numberOfCrossing l G P g sz a ha x5 x6 _ h) (cwX2_68 o.1.2.2.2.2 (by decide)) ⟨_, _, rfl⟩ (by decide) (wfLoaf_o ha) rfl (Nat.le_of_ble_eq_true rfl) ⟨Nat.le_of_ble_eq_true rfl, Nat.le_of_ble_eq_true rfl⟩ dX2_hashOfParts_36 rfl (fun r36 g36 h => ?_)
          refine v_i2l o dX2_hashOfParts_39 ?_
          refine v_ladd o dX2_hashOfParts_40 ?_
          refine v_topl (fun x3_41 ex3_41 => ?_)
          replace h := h x3_41 ex3_41
          refine v_lstore_n o (lv' := [(3, .long x3_41), (0, .ref a), (1, .long p1), (5, .int x5), (6, .int x6)]) dX2_hashOfParts_41 rfl (by decide) rfl ?_
          obtain ⟨x6_42, ex6_42⟩ : ∃ y : Int32, y = x6 + 1 := ⟨_, rfl⟩
          replace h := h x6_42 ex6_42
          refine v_iinc o (v := x6_42) (lv' := [(6, .int x6_42), (3, .long x3_41), (0, .ref a), (1, .long p1), (5, .int x5)]) 4 dX2_hashOfParts_42 rfl (by rw [ex6_42]; rfl) (by decide) rfl ?_
          refine v_goto o (tgt := 20) dX2_hashOfParts_45 (by decide) ?_
          refine v_sub [2, 3, 1, 4, 0] (lv2 := [(0, .ref a), (1, .long p1), (3, .long x3_41), (5, .int x5), (6, .int x6_42)]) rfl ?_
          exact ih.2.1 g36 x3_41 x5 x6_42  h.1 (by have := h.2; omega)
      · intro g x3 x5 hI hm
        have h := h57 g x3 x5 hI
        clear hI
        unfold bX2_hashOfParts_57 at h
        refine v_iload o 3 dX2_hashOfParts_57 rfl ?_
        refine v_aload_n o 0 dX2_hashOfParts_59 rfl ?_
        refine v_gfR o lkX2_18 (by decide) (wfLoaf_o ha) (wfLoaf_r1 ha) dX2_hashOfParts_60 ?_
        refine v_cVi o [] [.int x5] (fun sz => metX6_size l G P g sz (a + 4) (wfLoaf_t1 ha) _ h) (cwX2_45 o.1.2.2.2.2 (by decide)) ⟨_, _, rfl⟩ (by decide) (wfWord_o (wfLoaf_t1 ha)) rfl (Nat.le_of_ble_eq_true rfl) ⟨Nat.le_of_ble_eq_true rfl, Nat.le_of_ble_eq_true rfl⟩ dX2_hashOfParts_63 rfl (fun r63 g63 h => ?_)
        refine v_icmp_ge o (tgt := 92) dX2_hashOfParts_66 (by decide) (fun c66 => ?_) (fun c66 => ?_)
        · replace h := h.1 c66
          refine v_iconst o (v := 0) dX2_hashOfParts_92 (by decide) ?_
          refine v_istore o (lv' := [(5, .int 0), (0, .ref a), (1, .long p1), (3, .long x3)]) dX2_hashOfParts_93 (by decide) rfl ?_
          refine v_sub [1, 2, 3, 0] (lv2 := [(0, .ref a), (1, .long p1), (3, .long x3), (5, .int 0)]) rfl ?_
          exact ih.2.2.2.1 g63 x3 0  h.1 (by have := h.2; omega)
        · replace h := h.2 c66
          refine v_ldc2 o (v := 31) dX2_hashOfParts_69 (mU 562 (by decide +kernel) rfl) ?_
          refine v_lload_n o 2 dX2_hashOfParts_72 rfl ?_
          refine v_lmul o dX2_hashOfParts_73 ?_
          refine v_aload_n o 0 dX2_hashOfParts_74 rfl ?_
          refine v_gfR o lkX2_18 (by decide) (wfLoaf_o ha) (wfLoaf_r1 ha) dX2_hashOfParts_75 ?_
          refine v_iload o 3 dX2_hashOfParts_78 rfl ?_
          refine v_cVi o [.int x5] [.long (31 * x3)] (fun sz => metX6_codeAt l G P g63 sz (a + 4) (wfLoaf_t1 ha) x5 _ h) (cwX2_49 o.1.2.2.2.2 (by decide)) ⟨_, _, rfl⟩ (by decide) (wfWord_o (wfLoaf_t1 ha)) rfl (Nat.le_of_ble_eq_true rfl) ⟨Nat.le_of_ble_eq_true rfl, Nat.le_of_ble_eq_true rfl⟩ dX2_hashOfParts_80 rfl (fun r80 g80 h => ?_)
          refine v_i2l o dX2_hashOfParts_83 ?_
          refine v_ladd o dX2_hashOfParts_84 ?_
          refine v_topl (fun x3_85 ex3_85 => ?_)
          replace h := h x3_85 ex3_85
          refine v_lstore_n o (lv' := [(3, .long x3_85), (0, .ref a), (1, .long p1), (5, .int x5)]) dX2_hashOfParts_85 rfl (by decide) rfl ?_
          obtain ⟨x5_86, ex5_86⟩ : ∃ y : Int32, y = x5 + 1 := ⟨_, rfl⟩
          replace h := h x5_86 ex5_86
          refine v_iinc o (v := x5_86) (lv' := [(5, .int x5_86), (3, .long x3_85), (0, .ref a), (1, .long p1)]) 3 dX2_hashOfParts_86 rfl (by rw [ex5_86]; rfl) (by decide) rfl ?_
          refine v_goto o (tgt := 57) dX2_hashOfParts_89 (by decide) ?_
          refine v_sub [2, 3, 1, 0] (lv2 := [(0, .ref a), (1, .long p1), (3, .long x3_85), (5, .int x5_86)]) rfl ?_
          exact ih.2.2.1 g80 x3_85 x5_86  h.1 (by have := h.2; omega)
      · intro g x3 x5 hI hm
        have h := h95 g x3 x5 hI
        clear hI
        unfold bX2_hashOfParts_95 at h
        refine v_iload o 3 dX2_hashOfParts_95 rfl ?_
        refine v_aload_n o 0 dX2_hashOfParts_97 rfl ?_
        refine v_gfR o lkX2_12 (by decide) (wfLoaf_o ha) (wfLoaf_r0 ha) dX2_hashOfParts_98 ?_
        refine v_cVi o [] [.int x5] (fun sz => metX6_strands l G P g sz (a + 1) (wfLoaf_t0 ha) _ h) (cwX2_72 o.1.2.2.2.2 (by decide)) ⟨_, _, rfl⟩ (by decide) (wfWord_o (wfLoaf_t0 ha)) rfl (Nat.le_of_ble_eq_true rfl) ⟨Nat.le_of_ble_eq_true rfl, Nat.le_of_ble_eq_true rfl⟩ dX2_hashOfParts_101 rfl (fun r101 g101 h => ?_)
        refine v_icmp_ge o (tgt := 147) dX2_hashOfParts_104 (by decide) (fun c104 => ?_) (fun c104 => ?_)
        · replace h := h.1 c104
          refine v_lload_n o 2 dX2_hashOfParts_147 rfl ?_
          exact v_lret o rfl hr dX2_hashOfParts_148 h
        · replace h := h.2 c104
          refine v_iconst o (v := 0) dX2_hashOfParts_107 (by decide) ?_
          refine v_istore o (lv' := [(6, .int 0), (0, .ref a), (1, .long p1), (3, .long x3), (5, .int x5)]) dX2_hashOfParts_108 (by decide) rfl ?_
          refine v_sub [1, 2, 3, 4, 0] (lv2 := [(0, .ref a), (1, .long p1), (3, .long x3), (5, .int x5), (6, .int 0)]) rfl ?_
          exact ih.2.2.2.2 g101 x3 x5 0  h.1 (by have := h.2; omega)
      · intro g x3 x5 x6 hI hm
        have h := h110 g x3 x5 x6 hI
        clear hI
        unfold bX2_hashOfParts_110 at h
        refine v_iload o 4 dX2_hashOfParts_110 rfl ?_
        refine v_iconst o (v := 4) dX2_hashOfParts_112 (by decide) ?_
        refine v_icmp_gt o (tgt := 141) dX2_hashOfParts_113 (by decide) (fun c113 => ?_) (fun c113 => ?_)
        · replace h := h.1 c113
          obtain ⟨x5_141, ex5_141⟩ : ∃ y : Int32, y = x5 + 1 := ⟨_, rfl⟩
          replace h := h x5_141 ex5_141
          refine v_iinc o (v := x5_141) (lv' := [(5, .int x5_141), (0, .ref a), (1, .long p1), (3, .long x3), (6, .int x6)]) 3 dX2_hashOfParts_141 rfl (by rw [ex5_141]; rfl) (by decide) rfl ?_
          refine v_goto o (tgt := 95) dX2_hashOfParts_144 (by decide) ?_
          refine v_sub [1, 2, 3, 0] (lv2 := [(0, .ref a), (1, .long p1), (3, .long x3), (5, .int x5_141)]) rfl ?_
          exact ih.2.2.2.1 g x3 x5_141  h.1 (by have := h.2; omega)
        · replace h := h.2 c113
          refine v_ldc2 o (v := 31) dX2_hashOfParts_116 (mU 562 (by decide +kernel) rfl) ?_
          refine v_lload_n o 2 dX2_hashOfParts_119 rfl ?_
          refine v_lmul o dX2_hashOfParts_120 ?_
          refine v_aload_n o 0 dX2_hashOfParts_121 rfl ?_
          refine v_gfR o lkX2_24 (by decide) (wfLoaf_o ha) (wfLoaf_r2 ha) dX2_hashOfParts_122 ?_
          refine v_iload o 3 dX2_hashOfParts_125 rfl ?_
          refine v_iload o 4 dX2_hashOfParts_127 rfl ?_
          refine v_cVi o [.int x5, .int x6] [.long (31 * x3)] (fun sz => metX5_numberOfStrand l G P g sz (a + 7) (wfLoaf_t2 ha) x5 x6 _ h) (cwX2_75 o.1.2.2.2.2 (by decide)) ⟨_, _, rfl⟩ (by decide) (wfTrace_o (wfLoaf_t2 ha)) rfl (Nat.le_of_ble_eq_true rfl) ⟨Nat.le_of_ble_eq_true rfl, Nat.le_of_ble_eq_true rfl⟩ dX2_hashOfParts_129 rfl (fun r129 g129 h => ?_)
          refine v_i2l o dX2_hashOfParts_132 ?_
          refine v_ladd o dX2_hashOfParts_133 ?_
          refine v_topl (fun x3_134 ex3_134 => ?_)
          replace h := h x3_134 ex3_134
          refine v_lstore_n o (lv' := [(3, .long x3_134), (0, .ref a), (1, .long p1), (5, .int x5), (6, .int x6)]) dX2_hashOfParts_134 rfl (by decide) rfl ?_
          obtain ⟨x6_135, ex6_135⟩ : ∃ y : Int32, y = x6 + 1 := ⟨_, rfl⟩
          replace h := h x6_135 ex6_135
          refine v_iinc o (v := x6_135) (lv' := [(6, .int x6_135), (3, .long x3_134), (0, .ref a), (1, .long p1), (5, .int x5)]) 4 dX2_hashOfParts_135 rfl (by rw [ex6_135]; rfl) (by decide) rfl ?_
          refine v_goto o (tgt := 110) dX2_hashOfParts_138 (by decide) ?_
          refine v_sub [2, 3, 1, 4, 0] (lv2 := [(0, .ref a), (1, .long p1), (3, .long x3_134), (5, .int x5), (6, .int x6_135)]) rfl ?_
          exact ih.2.2.2.2 g129 x3_134 x5 x6_135  h.1 (by have := h.2; omega)
  unfold vX2_hashOfParts at h
  refine v_lload_n o 1 dX2_hashOfParts_0 rfl ?_
  refine v_lstore_n o (lv' := [(3, .long p1), (0, .ref a), (1, .long p1)]) dX2_hashOfParts_1 rfl (by decide) rfl ?_
  refine v_iconst o (v := 0) dX2_hashOfParts_2 (by decide) ?_
  refine v_istore o (lv' := [(5, .int 0), (3, .long p1), (0, .ref a), (1, .long p1)]) dX2_hashOfParts_3 (by decide) rfl ?_
  refine v_sub [2, 3, 1, 0] (lv2 := [(0, .ref a), (1, .long p1), (3, .long p1), (5, .int 0)]) rfl ?_
  exact (main (μ5 f p1 0 + 1)).1 f p1 0  h (Nat.lt_succ_self _)
def kX2_hashOfParts (P : Sk) (f : St) (a : Nat) (p1 : Int64) (K : Int64 → St → Prop) : Prop := False
theorem metX2_hashOfParts (l : Launch) (G : Gl) (P : Sk) (f : St) (sz : Nat) (a : Nat) (ha : IsLoaf P a) (p1 : Int64) (K : Int64 → St → Prop) (h : kX2_hashOfParts P f a p1 K) : Met l yX2_hashOfParts (wU yX2_hashOfParts cX2_hashOfParts 7 (some .long)) rmX2_hashOfParts (PcW G P f sz [.ref a, .long p1]) (QcL G P sz K) 0 0 (frA P sz) := sorry

def vX4_size (P : Sk) (f : St) (a : Nat) (K : Int32 → St → Prop) : Prop :=
  K (f a 1) f
set_option maxRecDepth 20000 in
set_option maxHeartbeats 4000000 in
theorem mX4_size (l : Launch) (G : Gl) (P : Sk) (f : St) (sz : Nat) (a : Nat) (ha : IsText P a) (K : Int32 → St → Prop) (h : vX4_size P f a K)  :
  Met l yX4_size (wU yX4_size cX4_size 1 (some .int)) rmX4_size (PcW G P f sz [.ref a]) (QcI G P sz K) 0 0 (frA P sz) := by
  refine v_met (own := RX4) [.ref a] (by decide +kernel) rfl (Nat.le_of_ble_eq_true rfl) (fun p e s m args below meth c hsz o hr hnm => ?_)
  refine v_lv (lv2 := [(0, .ref a)]) rfl ?_
  unfold vX4_size at h
  refine v_aload_n o 0 dX4_size_0 rfl ?_
  refine v_gfI o lkX4_20 (by decide) (wfText_o ha) dX4_size_1 ?_
  exact v_iret o rfl hr dX4_size_4 h
abbrev kX4_size := @vX4_size
abbrev metX4_size := @mX4_size

def vX4_signAt (P : Sk) (f : St) (a : Nat) (p1 : Int32) (K : Int32 → St → Prop) : Prop :=
  kX3_at P f (a + 1) p1 (fun r5 g5 => K r5 g5)
set_option maxRecDepth 20000 in
set_option maxHeartbeats 4000000 in
theorem mX4_signAt (l : Launch) (G : Gl) (P : Sk) (f : St) (sz : Nat) (a : Nat) (ha : IsText P a) (p1 : Int32) (K : Int32 → St → Prop) (h : vX4_signAt P f a p1 K)  :
  Met l yX4_signAt (wU yX4_signAt cX4_signAt 2 (some .int)) rmX4_signAt (PcW G P f sz [.ref a, .int p1]) (QcI G P sz K) 0 0 (frA P sz) := by
  refine v_met (own := RX4) [.ref a, .int p1] (by decide +kernel) rfl (Nat.le_of_ble_eq_true rfl) (fun p e s m args below meth c hsz o hr hnm => ?_)
  refine v_lv (lv2 := [(0, .ref a), (1, .int p1)]) rfl ?_
  unfold vX4_signAt at h
  refine v_aload_n o 0 dX4_signAt_0 rfl ?_
  refine v_gfR o lkX4_14 (by decide) (wfText_o ha) (wfText_r0 ha) dX4_signAt_1 ?_
  refine v_iload_n o 1 dX4_signAt_4 rfl ?_
  refine v_cVi o [.int p1] [] (fun sz => metX3_at l G P f sz (a + 1) (wfText_t0 ha) p1 _ h) (cwX4_24 o.1.2.2.2.2 (by decide)) ⟨_, _, rfl⟩ (by decide) (wfRow_o (wfText_t0 ha)) rfl (Nat.le_of_ble_eq_true rfl) ⟨Nat.le_of_ble_eq_true rfl, Nat.le_of_ble_eq_true rfl⟩ dX4_signAt_5 rfl (fun r5 g5 h => ?_)
  exact v_iret o rfl hr dX4_signAt_8 h
abbrev kX4_signAt := @vX4_signAt
abbrev metX4_signAt := @mX4_signAt

def vX4_addSign (P : Sk) (f : St) (a : Nat) (p1 : Int32) (K : St → Prop) : Prop :=
  (60 ≤ f a 1 → K f) ∧ (¬ 60 ≤ f a 1 → kX3_put P f (a + 1) (f a 1) p1 (fun g18 => ∀ g28 : St, g28 = setf g18 a 1 ((g18 a 1) + 1) → K g28))
set_option maxRecDepth 20000 in
set_option maxHeartbeats 4000000 in
theorem mX4_addSign (l : Launch) (G : Gl) (P : Sk) (f : St) (sz : Nat) (a : Nat) (ha : IsText P a) (p1 : Int32) (K : St → Prop) (h : vX4_addSign P f a p1 K)  :
  Met l yX4_addSign (wU yX4_addSign cX4_addSign 2 none) rmX4_addSign (PcW G P f sz [.ref a, .int p1]) (QcV G P sz K) 0 0 (frA P sz) := by
  refine v_met (own := RX4) [.ref a, .int p1] (by decide +kernel) rfl (Nat.le_of_ble_eq_true rfl) (fun p e s m args below meth c hsz o hr hnm => ?_)
  refine v_lv (lv2 := [(0, .ref a), (1, .int p1)]) rfl ?_
  unfold vX4_addSign at h
  refine v_aload_n o 0 dX4_addSign_0 rfl ?_
  refine v_gfI o lkX4_20 (by decide) (wfText_o ha) dX4_addSign_1 ?_
  refine v_bipush o (v := 60) dX4_addSign_4 (by decide) ?_
  refine v_icmp_ge o (tgt := 31) dX4_addSign_6 (by decide) (fun c6 => ?_) (fun c6 => ?_)
  · replace h := h.1 c6
    exact v_vret o rfl hr dX4_addSign_31 h
  · replace h := h.2 c6
    refine v_aload_n o 0 dX4_addSign_9 rfl ?_
    refine v_gfR o lkX4_14 (by decide) (wfText_o ha) (wfText_r0 ha) dX4_addSign_10 ?_
    refine v_aload_n o 0 dX4_addSign_13 rfl ?_
    refine v_gfI o lkX4_20 (by decide) (wfText_o ha) dX4_addSign_14 ?_
    refine v_iload_n o 1 dX4_addSign_17 rfl ?_
    refine v_cVv o [.int (f a 1), .int p1] [] (fun sz => metX3_put l G P f sz (a + 1) (wfText_t0 ha) (f a 1) p1 _ h) (cwX4_28 o.1.2.2.2.2 (by decide)) ⟨_, _, rfl⟩ (by decide) (wfRow_o (wfText_t0 ha)) rfl (Nat.le_of_ble_eq_true rfl) ⟨Nat.le_of_ble_eq_true rfl, Nat.le_of_ble_eq_true rfl⟩ dX4_addSign_18 rfl (fun g18 h => ?_)
    refine v_aload_n o 0 dX4_addSign_21 rfl ?_
    refine v_dup o dX4_addSign_22 rfl ?_
    refine v_gfI o lkX4_20 (by decide) (wfText_o ha) dX4_addSign_23 ?_
    refine v_iconst o (v := 1) dX4_addSign_26 (by decide) ?_
    refine v_iadd o dX4_addSign_27 ?_
    refine v_pf o lpX4_20 (wfText_o ha) ⟨rfl, rfl⟩ dX4_addSign_28 ?_
    refine v_nmf (fun g28 eg28 => ?_)
    replace h := h g28 eg28
    exact v_vret o rfl hr dX4_addSign_31 h
abbrev kX4_addSign := @vX4_addSign
abbrev metX4_addSign := @mX4_addSign

def vX4_clear (P : Sk) (f : St) (a : Nat) (K : St → Prop) : Prop :=
  ∀ g2 : St, g2 = setf f a 1 0 → K g2
set_option maxRecDepth 20000 in
set_option maxHeartbeats 4000000 in
theorem mX4_clear (l : Launch) (G : Gl) (P : Sk) (f : St) (sz : Nat) (a : Nat) (ha : IsText P a) (K : St → Prop) (h : vX4_clear P f a K)  :
  Met l yX4_clear (wU yX4_clear cX4_clear 1 none) rmX4_clear (PcW G P f sz [.ref a]) (QcV G P sz K) 0 0 (frA P sz) := by
  refine v_met (own := RX4) [.ref a] (by decide +kernel) rfl (Nat.le_of_ble_eq_true rfl) (fun p e s m args below meth c hsz o hr hnm => ?_)
  refine v_lv (lv2 := [(0, .ref a)]) rfl ?_
  unfold vX4_clear at h
  refine v_aload_n o 0 dX4_clear_0 rfl ?_
  refine v_iconst o (v := 0) dX4_clear_1 (by decide) ?_
  refine v_pf o lpX4_20 (wfText_o ha) ⟨rfl, rfl⟩ dX4_clear_2 ?_
  refine v_nmf (fun g2 eg2 => ?_)
  replace h := h g2 eg2
  exact v_vret o rfl hr dX4_clear_5 h
abbrev kX4_clear := @vX4_clear
abbrev metX4_clear := @mX4_clear

def vX4_digitAt (P : Sk) (f : St) (a : Nat) (p1 : Int32) (K : Int32 → St → Prop) : Prop :=
  kX4_signAt P f a p1 (fun r2 g2 => K (r2 - 48) g2)
set_option maxRecDepth 20000 in
set_option maxHeartbeats 4000000 in
theorem mX4_digitAt (l : Launch) (G : Gl) (P : Sk) (f : St) (sz : Nat) (a : Nat) (ha : IsText P a) (p1 : Int32) (K : Int32 → St → Prop) (h : vX4_digitAt P f a p1 K)  :
  Met l yX4_digitAt (wU yX4_digitAt cX4_digitAt 2 (some .int)) rmX4_digitAt (PcW G P f sz [.ref a, .int p1]) (QcI G P sz K) 0 0 (frA P sz) := by
  refine v_met (own := RX4) [.ref a, .int p1] (by decide +kernel) rfl (Nat.le_of_ble_eq_true rfl) (fun p e s m args below meth c hsz o hr hnm => ?_)
  refine v_lv (lv2 := [(0, .ref a), (1, .int p1)]) rfl ?_
  unfold vX4_digitAt at h
  refine v_aload_n o 0 dX4_digitAt_0 rfl ?_
  refine v_iload_n o 1 dX4_digitAt_1 rfl ?_
  refine v_cVi o [.int p1] [] (fun sz => metX4_signAt l G P f sz a ha p1 _ h) (cwX4_32 o.1.2.2.2.2 (by decide)) ⟨_, _, rfl⟩ (by decide) (wfText_o ha) rfl (Nat.le_of_ble_eq_true rfl) ⟨Nat.le_of_ble_eq_true rfl, Nat.le_of_ble_eq_true rfl⟩ dX4_digitAt_2 rfl (fun r2 g2 h => ?_)
  refine v_bipush o (v := 48) dX4_digitAt_5 (by decide) ?_
  refine v_isub o dX4_digitAt_7 ?_
  exact v_iret o rfl hr dX4_digitAt_8 h
abbrev kX4_digitAt := @vX4_digitAt
abbrev metX4_digitAt := @mX4_digitAt

def vX4_placeAt (P : Sk) (f : St) (a : Nat) (p1 : Int32) (K : Int32 → St → Prop) : Prop :=
  kX4_signAt P f a p1 (fun r2 g2 => K (r2 - 97) g2)
set_option maxRecDepth 20000 in
set_option maxHeartbeats 4000000 in
theorem mX4_placeAt (l : Launch) (G : Gl) (P : Sk) (f : St) (sz : Nat) (a : Nat) (ha : IsText P a) (p1 : Int32) (K : Int32 → St → Prop) (h : vX4_placeAt P f a p1 K)  :
  Met l yX4_placeAt (wU yX4_placeAt cX4_placeAt 2 (some .int)) rmX4_placeAt (PcW G P f sz [.ref a, .int p1]) (QcI G P sz K) 0 0 (frA P sz) := by
  refine v_met (own := RX4) [.ref a, .int p1] (by decide +kernel) rfl (Nat.le_of_ble_eq_true rfl) (fun p e s m args below meth c hsz o hr hnm => ?_)
  refine v_lv (lv2 := [(0, .ref a), (1, .int p1)]) rfl ?_
  unfold vX4_placeAt at h
  refine v_aload_n o 0 dX4_placeAt_0 rfl ?_
  refine v_iload_n o 1 dX4_placeAt_1 rfl ?_
  refine v_cVi o [.int p1] [] (fun sz => metX4_signAt l G P f sz a ha p1 _ h) (cwX4_32 o.1.2.2.2.2 (by decide)) ⟨_, _, rfl⟩ (by decide) (wfText_o ha) rfl (Nat.le_of_ble_eq_true rfl) ⟨Nat.le_of_ble_eq_true rfl, Nat.le_of_ble_eq_true rfl⟩ dX4_placeAt_2 rfl (fun r2 g2 h => ?_)
  refine v_bipush o (v := 97) dX4_placeAt_5 (by decide) ?_
  refine v_isub o dX4_placeAt_7 ?_
  exact v_iret o rfl hr dX4_placeAt_8 h
abbrev kX4_placeAt := @vX4_placeAt
abbrev metX4_placeAt := @mX4_placeAt

def vX4_isBetween (P : Sk) (f : St) (p0 : Int32) (p1 : Int32) (p2 : Int32) (K : Int32 → St → Prop) : Prop :=
  (p0 < p1 → K 0 f) ∧ (¬ p0 < p1 → (p2 < p0 → K 0 f) ∧ (¬ p2 < p0 → K 1 f))
set_option maxRecDepth 20000 in
set_option maxHeartbeats 4000000 in
theorem mX4_isBetween (l : Launch) (G : Gl) (P : Sk) (f : St) (sz : Nat) (p0 : Int32) (p1 : Int32) (p2 : Int32) (K : Int32 → St → Prop) (h : vX4_isBetween P f p0 p1 p2 K)  :
  Met l yX4_isBetween (wU yX4_isBetween cX4_isBetween 3 (some .boolean)) rmX4_isBetween (PcW G P f sz [.int p0, .int p1, .int p2]) (QcI G P sz K) 0 0 (frA P sz) := by
  refine v_met (own := RX4) [.int p0, .int p1, .int p2] (by decide +kernel) rfl (Nat.le_of_ble_eq_true rfl) (fun p e s m args below meth c hsz o hr hnm => ?_)
  refine v_lv (lv2 := [(0, .int p0), (1, .int p1), (2, .int p2)]) rfl ?_
  unfold vX4_isBetween at h
  refine v_iload_n o 0 dX4_isBetween_0 rfl ?_
  refine v_iload_n o 1 dX4_isBetween_1 rfl ?_
  refine v_icmp_lt o (tgt := 14) dX4_isBetween_2 (by decide) (fun c2 => ?_) (fun c2 => ?_)
  · replace h := h.1 c2
    refine v_iconst o (v := 0) dX4_isBetween_14 (by decide) ?_
    exact v_zret o rfl hr bz0.1 dX4_isBetween_15 h
  · replace h := h.2 c2
    refine v_iload_n o 0 dX4_isBetween_5 rfl ?_
    refine v_iload_n o 2 dX4_isBetween_6 rfl ?_
    refine v_icmp_gt o (tgt := 14) dX4_isBetween_7 (by decide) (fun c7 => ?_) (fun c7 => ?_)
    · replace h := h.1 c7
      refine v_iconst o (v := 0) dX4_isBetween_14 (by decide) ?_
      exact v_zret o rfl hr bz0.1 dX4_isBetween_15 h
    · replace h := h.2 c7
      refine v_iconst o (v := 1) dX4_isBetween_10 (by decide) ?_
      refine v_goto o (tgt := 15) dX4_isBetween_11 (by decide) ?_
      exact v_zret o rfl hr bz1.1 dX4_isBetween_15 h
abbrev kX4_isBetween := @vX4_isBetween
abbrev metX4_isBetween := @mX4_isBetween

def vX4_isSide (P : Sk) (f : St) (p0 : Int32) (K : Int32 → St → Prop) : Prop :=
  (p0 = 43 → K 1 f) ∧ (¬ p0 = 43 → (¬ p0 = 45 → K 0 f) ∧ (p0 = 45 → K 1 f))
set_option maxRecDepth 20000 in
set_option maxHeartbeats 4000000 in
theorem mX4_isSide (l : Launch) (G : Gl) (P : Sk) (f : St) (sz : Nat) (p0 : Int32) (K : Int32 → St → Prop) (h : vX4_isSide P f p0 K)  :
  Met l yX4_isSide (wU yX4_isSide cX4_isSide 1 (some .boolean)) rmX4_isSide (PcW G P f sz [.int p0]) (QcI G P sz K) 0 0 (frA P sz) := by
  refine v_met (own := RX4) [.int p0] (by decide +kernel) rfl (Nat.le_of_ble_eq_true rfl) (fun p e s m args below meth c hsz o hr hnm => ?_)
  refine v_lv (lv2 := [(0, .int p0)]) rfl ?_
  unfold vX4_isSide at h
  refine v_iload_n o 0 dX4_isSide_0 rfl ?_
  refine v_bipush o (v := 43) dX4_isSide_1 (by decide) ?_
  refine v_icmp_eq o (tgt := 12) dX4_isSide_3 (by decide) (fun c3 => ?_) (fun c3 => ?_)
  · replace h := h.1 c3
    refine v_iconst o (v := 1) dX4_isSide_12 (by decide) ?_
    refine v_goto o (tgt := 17) dX4_isSide_13 (by decide) ?_
    exact v_zret o rfl hr bz1.1 dX4_isSide_17 h
  · replace h := h.2 c3
    refine v_iload_n o 0 dX4_isSide_6 rfl ?_
    refine v_bipush o (v := 45) dX4_isSide_7 (by decide) ?_
    refine v_icmp_ne o (tgt := 16) dX4_isSide_9 (by decide) (fun c9 => ?_) (fun c9 => ?_)
    · replace h := h.1 c9
      refine v_iconst o (v := 0) dX4_isSide_16 (by decide) ?_
      exact v_zret o rfl hr bz0.1 dX4_isSide_17 h
    · replace h := h.2 c9
      refine v_iconst o (v := 1) dX4_isSide_12 (by decide) ?_
      refine v_goto o (tgt := 17) dX4_isSide_13 (by decide) ?_
      exact v_zret o rfl hr bz1.1 dX4_isSide_17 h
abbrev kX4_isSide := @vX4_isSide
abbrev metX4_isSide := @mX4_isSide

def vX4_canFollowInLoaf (P : Sk) (f : St) (a : Nat) (p1 : Int32) (K : Int32 → St → Prop) : Prop :=
  kX4_signAt P f a p1 (fun r2 g2 => (¬ p1 = 0 → (¬ p1 = 1 → (p1 < 50 → (¬ p1 - p1 / 2 * 2 = 0 → kX4_isSide P g2 r2 (fun r70 g70 => (r70 = 0 ∨ r70 = 1) ∧ K r70 g70)) ∧ (p1 - p1 / 2 * 2 = 0 → kX4_digitAt P g2 a 0 (fun r57 g57 => kX4_isBetween P g57 r2 97 ((97 + r57) - 2) (fun r63 g63 => (r63 = 0 ∨ r63 = 1) ∧ K r63 g63)))) ∧ (¬ p1 < 50 → K 0 g2)) ∧ (p1 = 1 → (¬ r2 = 58 → K 0 g2) ∧ (r2 = 58 → K 1 g2))) ∧ (p1 = 0 → kX4_isBetween P g2 r2 50 55 (fun r15 g15 => (r15 = 0 ∨ r15 = 1) ∧ K r15 g15)))
set_option maxRecDepth 20000 in
set_option maxHeartbeats 4000000 in
theorem mX4_canFollowInLoaf (l : Launch) (G : Gl) (P : Sk) (f : St) (sz : Nat) (a : Nat) (ha : IsText P a) (p1 : Int32) (K : Int32 → St → Prop) (h : vX4_canFollowInLoaf P f a p1 K)  :
  Met l yX4_canFollowInLoaf (wU yX4_canFollowInLoaf cX4_canFollowInLoaf 3 (some .boolean)) rmX4_canFollowInLoaf (PcW G P f sz [.ref a, .int p1]) (QcI G P sz K) 0 0 (frA P sz) := by
  refine v_met (own := RX4) [.ref a, .int p1] (by decide +kernel) rfl (Nat.le_of_ble_eq_true rfl) (fun p e s m args below meth c hsz o hr hnm => ?_)
  refine v_lv (lv2 := [(0, .ref a), (1, .int p1)]) rfl ?_
  unfold vX4_canFollowInLoaf at h
  refine v_aload_n o 0 dX4_canFollowInLoaf_0 rfl ?_
  refine v_iload_n o 1 dX4_canFollowInLoaf_1 rfl ?_
  refine v_cVi o [.int p1] [] (fun sz => metX4_signAt l G P f sz a ha p1 _ h) (cwX4_32 o.1.2.2.2.2 (by decide)) ⟨_, _, rfl⟩ (by decide) (wfText_o ha) rfl (Nat.le_of_ble_eq_true rfl) ⟨Nat.le_of_ble_eq_true rfl, Nat.le_of_ble_eq_true rfl⟩ dX4_canFollowInLoaf_2 rfl (fun r2 g2 h => ?_)
  refine v_istore_n o (lv' := [(2, .int r2), (0, .ref a), (1, .int p1)]) dX4_canFollowInLoaf_5 rfl (by decide) rfl ?_
  refine v_iload_n o 2 dX4_canFollowInLoaf_6 rfl ?_
  refine v_if_ne o (tgt := 19) dX4_canFollowInLoaf_7 (by decide) (fun c7 => ?_) (fun c7 => ?_)
  · replace h := h.1 c7
    refine v_iload_n o 2 dX4_canFollowInLoaf_19 rfl ?_
    refine v_iconst o (v := 1) dX4_canFollowInLoaf_20 (by decide) ?_
    refine v_icmp_ne o (tgt := 36) dX4_canFollowInLoaf_21 (by decide) (fun c21 => ?_) (fun c21 => ?_)
    · replace h := h.1 c21
      refine v_iload_n o 2 dX4_canFollowInLoaf_36 rfl ?_
      refine v_bipush o (v := 50) dX4_canFollowInLoaf_37 (by decide) ?_
      refine v_icmp_lt o (tgt := 44) dX4_canFollowInLoaf_39 (by decide) (fun c39 => ?_) (fun c39 => ?_)
      · replace h := h.1 c39
        refine v_iload_n o 2 dX4_canFollowInLoaf_44 rfl ?_
        refine v_iconst o (v := 2) dX4_canFollowInLoaf_45 (by decide) ?_
        refine v_irem o dX4_canFollowInLoaf_46 (by decide) ?_
        refine v_if_ne o (tgt := 69) dX4_canFollowInLoaf_47 (by decide) (fun c47 => ?_) (fun c47 => ?_)
        · replace h := h.1 c47
          refine v_iload_n o 0 dX4_canFollowInLoaf_69 rfl ?_
          refine v_cSi o [.int r2] [] (fun sz => metX4_isSide l G P g2 sz r2 _ h) (cwX4_50 o.1.2.2.2.2 (by decide)) rfl (Nat.le_of_ble_eq_true rfl) ⟨Nat.le_of_ble_eq_true rfl, Nat.le_of_ble_eq_true rfl⟩ dX4_canFollowInLoaf_70 rfl (fun r70 g70 h => ?_)
          exact v_zret o rfl hr (bzz h.1).1 dX4_canFollowInLoaf_73 h.2
        · replace h := h.2 c47
          refine v_iload_n o 0 dX4_canFollowInLoaf_50 rfl ?_
          refine v_bipush o (v := 97) dX4_canFollowInLoaf_51 (by decide) ?_
          refine v_bipush o (v := 97) dX4_canFollowInLoaf_53 (by decide) ?_
          refine v_aload_n o 1 dX4_canFollowInLoaf_55 rfl ?_
          refine v_iconst o (v := 0) dX4_canFollowInLoaf_56 (by decide) ?_
          refine v_cVi o [.int 0] [.int 97, .int 97, .int r2] (fun sz => metX4_digitAt l G P g2 sz a ha 0 _ h) (cwX4_47 o.1.2.2.2.2 (by decide)) ⟨_, _, rfl⟩ (by decide) (wfText_o ha) rfl (Nat.le_of_ble_eq_true rfl) ⟨Nat.le_of_ble_eq_true rfl, Nat.le_of_ble_eq_true rfl⟩ dX4_canFollowInLoaf_57 rfl (fun r57 g57 h => ?_)
          refine v_iadd o dX4_canFollowInLoaf_60 ?_
          refine v_iconst o (v := 2) dX4_canFollowInLoaf_61 (by decide) ?_
          refine v_isub o dX4_canFollowInLoaf_62 ?_
          refine v_cSi o [.int r2, .int 97, .int ((97 + r57) - 2)] [] (fun sz => metX4_isBetween l G P g57 sz r2 97 ((97 + r57) - 2) _ h) (cwX4_43 o.1.2.2.2.2 (by decide)) rfl (Nat.le_of_ble_eq_true rfl) ⟨Nat.le_of_ble_eq_true rfl, Nat.le_of_ble_eq_true rfl⟩ dX4_canFollowInLoaf_63 rfl (fun r63 g63 h => ?_)
          refine v_goto o (tgt := 73) dX4_canFollowInLoaf_66 (by decide) ?_
          exact v_zret o rfl hr (bzz h.1).1 dX4_canFollowInLoaf_73 h.2
      · replace h := h.2 c39
        refine v_iconst o (v := 0) dX4_canFollowInLoaf_42 (by decide) ?_
        exact v_zret o rfl hr bz0.1 dX4_canFollowInLoaf_43 h
    · replace h := h.2 c21
      refine v_iload_n o 0 dX4_canFollowInLoaf_24 rfl ?_
      refine v_bipush o (v := 58) dX4_canFollowInLoaf_25 (by decide) ?_
      refine v_icmp_ne o (tgt := 34) dX4_canFollowInLoaf_27 (by decide) (fun c27 => ?_) (fun c27 => ?_)
      · replace h := h.1 c27
        refine v_iconst o (v := 0) dX4_canFollowInLoaf_34 (by decide) ?_
        exact v_zret o rfl hr bz0.1 dX4_canFollowInLoaf_35 h
      · replace h := h.2 c27
        refine v_iconst o (v := 1) dX4_canFollowInLoaf_30 (by decide) ?_
        refine v_goto o (tgt := 35) dX4_canFollowInLoaf_31 (by decide) ?_
        exact v_zret o rfl hr bz1.1 dX4_canFollowInLoaf_35 h
  · replace h := h.2 c7
    refine v_iload_n o 0 dX4_canFollowInLoaf_10 rfl ?_
    refine v_bipush o (v := 50) dX4_canFollowInLoaf_11 (by decide) ?_
    refine v_bipush o (v := 55) dX4_canFollowInLoaf_13 (by decide) ?_
    refine v_cSi o [.int r2, .int 50, .int 55] [] (fun sz => metX4_isBetween l G P g2 sz r2 50 55 _ h) (cwX4_43 o.1.2.2.2.2 (by decide)) rfl (Nat.le_of_ble_eq_true rfl) ⟨Nat.le_of_ble_eq_true rfl, Nat.le_of_ble_eq_true rfl⟩ dX4_canFollowInLoaf_15 rfl (fun r15 g15 h => ?_)
    exact v_zret o rfl hr (bzz h.1).1 dX4_canFollowInLoaf_18 h.2
abbrev kX4_canFollowInLoaf := @vX4_canFollowInLoaf
abbrev metX4_canFollowInLoaf := @mX4_canFollowInLoaf

def bX4_firstErrorOfLoaf_2 (P : Sk) (a : Nat) (L2 : St → Int32 → Prop) (K : Int32 → St → Prop) (f : St) (x1 : Int32) : Prop :=
  (f a 1 ≤ x1 → K (f a 1) f) ∧ (¬ f a 1 ≤ x1 → kX4_canFollowInLoaf P f a x1 (fun r12 g12 => (¬ r12 = 0 → ∀ x1_20 : Int32, x1_20 = x1 + 1 → L2 g12 x1_20) ∧ (r12 = 0 → K x1 g12)))
def vX4_firstErrorOfLoaf (P : Sk) (f : St) (a : Nat) (L2 : St → Int32 → Prop) (K : Int32 → St → Prop) : Prop :=
  L2 f 0
set_option maxRecDepth 20000 in
set_option maxHeartbeats 4000000 in
theorem mX4_firstErrorOfLoaf (l : Launch) (G : Gl) (P : Sk) (f : St) (sz : Nat) (a : Nat) (ha : IsText P a) (K : Int32 → St → Prop) (I2 : St → Int32 → Prop) (μ2 : St → Int32 → Nat) 
  (h : vX4_firstErrorOfLoaf P f a I2 K)
  (h2 : ∀ (g : St) (x1 : Int32) , I2 g x1 → bX4_firstErrorOfLoaf_2 P a (fun g' z0 => I2 g' z0 ∧ μ2 g' z0 < μ2 g x1) K g x1) :
  Met l yX4_firstErrorOfLoaf (wU yX4_firstErrorOfLoaf cX4_firstErrorOfLoaf 2 (some .int)) rmX4_firstErrorOfLoaf (PcW G P f sz [.ref a]) (QcI G P sz K) 0 0 (frA P sz) := by
  refine v_met (own := RX4) [.ref a] (by decide +kernel) rfl (Nat.le_of_ble_eq_true rfl) (fun p e s m args below meth c hsz o hr hnm => ?_)
  refine v_lv (lv2 := [(0, .ref a)]) rfl ?_
  have main : ∀ n : Nat, (∀ (g : St) (x1 : Int32) , I2 g x1 → μ2 g x1 < n → V p l e rmX4_firstErrorOfLoaf s m args below meth c 2 G (frA P sz) (MQ below (QcI G P sz K) args s 0 0 (frA P sz)) 0 0 P [(0, .ref a), (1, .int x1)] [] 2 g) := by
    intro n
    induction n with
    | zero => exact fun g x1 hI hm => absurd hm (Nat.not_lt_zero _)
    | succ n ih =>
      intro g x1 hI hm
      have h := h2 g x1 hI
      clear hI
      unfold bX4_firstErrorOfLoaf_2 at h
      refine v_iload_n o 1 dX4_firstErrorOfLoaf_2 rfl ?_
      refine v_aload_n o 0 dX4_firstErrorOfLoaf_3 rfl ?_
      refine v_gfI o lkX4_20 (by decide) (wfText_o ha) dX4_firstErrorOfLoaf_4 ?_
      refine v_icmp_ge o (tgt := 26) dX4_firstErrorOfLoaf_7 (by decide) (fun c7 => ?_) (fun c7 => ?_)
      · replace h := h.1 c7
        refine v_aload_n o 0 dX4_firstErrorOfLoaf_26 rfl ?_
        refine v_gfI o lkX4_20 (by decide) (wfText_o ha) dX4_firstErrorOfLoaf_27 ?_
        exact v_iret o rfl hr dX4_firstErrorOfLoaf_30 h
      · replace h := h.2 c7
        refine v_aload_n o 0 dX4_firstErrorOfLoaf_10 rfl ?_
        refine v_iload_n o 1 dX4_firstErrorOfLoaf_11 rfl ?_
        refine v_cVi o [.int x1] [] (fun sz => metX4_canFollowInLoaf l G P g sz a ha x1 _ h) (cwX4_39 o.1.2.2.2.2 (by decide)) ⟨_, _, rfl⟩ (by decide) (wfText_o ha) rfl (Nat.le_of_ble_eq_true rfl) ⟨Nat.le_of_ble_eq_true rfl, Nat.le_of_ble_eq_true rfl⟩ dX4_firstErrorOfLoaf_12 rfl (fun r12 g12 h => ?_)
        refine v_if_ne o (tgt := 20) dX4_firstErrorOfLoaf_15 (by decide) (fun c15 => ?_) (fun c15 => ?_)
        · replace h := h.1 c15
          obtain ⟨x1_20, ex1_20⟩ : ∃ y : Int32, y = x1 + 1 := ⟨_, rfl⟩
          replace h := h x1_20 ex1_20
          refine v_iinc o (v := x1_20) (lv' := [(1, .int x1_20), (0, .ref a)]) 1 dX4_firstErrorOfLoaf_20 rfl (by rw [ex1_20]; rfl) (by decide) rfl ?_
          refine v_goto o (tgt := 2) dX4_firstErrorOfLoaf_23 (by decide) ?_
          refine v_sub [1, 0] (lv2 := [(0, .ref a), (1, .int x1_20)]) rfl ?_
          exact ih g12 x1_20  h.1 (by have := h.2; omega)
        · replace h := h.2 c15
          refine v_iload_n o 1 dX4_firstErrorOfLoaf_18 rfl ?_
          exact v_iret o rfl hr dX4_firstErrorOfLoaf_19 h
  unfold vX4_firstErrorOfLoaf at h
  refine v_iconst o (v := 0) dX4_firstErrorOfLoaf_0 (by decide) ?_
  refine v_istore_n o (lv' := [(1, .int 0), (0, .ref a)]) dX4_firstErrorOfLoaf_1 rfl (by decide) rfl ?_
  refine v_sub [1, 0] (lv2 := [(0, .ref a), (1, .int 0)]) rfl ?_
  exact (main (μ2 f 0 + 1)) f 0  h (Nat.lt_succ_self _)
def kX4_firstErrorOfLoaf (P : Sk) (f : St) (a : Nat) (K : Int32 → St → Prop) : Prop := False
theorem metX4_firstErrorOfLoaf (l : Launch) (G : Gl) (P : Sk) (f : St) (sz : Nat) (a : Nat) (ha : IsText P a) (K : Int32 → St → Prop) (h : kX4_firstErrorOfLoaf P f a K) : Met l yX4_firstErrorOfLoaf (wU yX4_firstErrorOfLoaf cX4_firstErrorOfLoaf 2 (some .int)) rmX4_firstErrorOfLoaf (PcW G P f sz [.ref a]) (QcI G P sz K) 0 0 (frA P sz) := sorry

def vX4_isLoaf (P : Sk) (f : St) (a : Nat) (K : Int32 → St → Prop) : Prop :=
  (f a 1 < 2 → K 0 f) ∧ (¬ f a 1 < 2 → (¬ (f a 1) - (f a 1) / 2 * 2 = 0 → K 0 f) ∧ ((f a 1) - (f a 1) / 2 * 2 = 0 → kX4_firstErrorOfLoaf P f a (fun r18 g18 => (¬ r18 = g18 a 1 → K 0 g18) ∧ (r18 = g18 a 1 → K 1 g18))))
set_option maxRecDepth 20000 in
set_option maxHeartbeats 4000000 in
theorem mX4_isLoaf (l : Launch) (G : Gl) (P : Sk) (f : St) (sz : Nat) (a : Nat) (ha : IsText P a) (K : Int32 → St → Prop) (h : vX4_isLoaf P f a K)  :
  Met l yX4_isLoaf (wU yX4_isLoaf cX4_isLoaf 1 (some .boolean)) rmX4_isLoaf (PcW G P f sz [.ref a]) (QcI G P sz K) 0 0 (frA P sz) := by
  refine v_met (own := RX4) [.ref a] (by decide +kernel) rfl (Nat.le_of_ble_eq_true rfl) (fun p e s m args below meth c hsz o hr hnm => ?_)
  refine v_lv (lv2 := [(0, .ref a)]) rfl ?_
  unfold vX4_isLoaf at h
  refine v_aload_n o 0 dX4_isLoaf_0 rfl ?_
  refine v_gfI o lkX4_20 (by decide) (wfText_o ha) dX4_isLoaf_1 ?_
  refine v_iconst o (v := 2) dX4_isLoaf_4 (by decide) ?_
  refine v_icmp_lt o (tgt := 32) dX4_isLoaf_5 (by decide) (fun c5 => ?_) (fun c5 => ?_)
  · replace h := h.1 c5
    refine v_iconst o (v := 0) dX4_isLoaf_32 (by decide) ?_
    exact v_zret o rfl hr bz0.1 dX4_isLoaf_33 h
  · replace h := h.2 c5
    refine v_aload_n o 0 dX4_isLoaf_8 rfl ?_
    refine v_gfI o lkX4_20 (by decide) (wfText_o ha) dX4_isLoaf_9 ?_
    refine v_iconst o (v := 2) dX4_isLoaf_12 (by decide) ?_
    refine v_irem o dX4_isLoaf_13 (by decide) ?_
    refine v_if_ne o (tgt := 32) dX4_isLoaf_14 (by decide) (fun c14 => ?_) (fun c14 => ?_)
    · replace h := h.1 c14
      refine v_iconst o (v := 0) dX4_isLoaf_32 (by decide) ?_
      exact v_zret o rfl hr bz0.1 dX4_isLoaf_33 h
    · replace h := h.2 c14
      refine v_aload_n o 0 dX4_isLoaf_17 rfl ?_
      refine v_cVi o [] [] (fun sz => metX4_firstErrorOfLoaf l G P f sz a ha _ h) (cwX4_35 o.1.2.2.2.2 (by decide)) ⟨_, _, rfl⟩ (by decide) (wfText_o ha) rfl (Nat.le_of_ble_eq_true rfl) ⟨Nat.le_of_ble_eq_true rfl, Nat.le_of_ble_eq_true rfl⟩ dX4_isLoaf_18 rfl (fun r18 g18 h => ?_)
      refine v_aload_n o 0 dX4_isLoaf_21 rfl ?_
      refine v_gfI o lkX4_20 (by decide) (wfText_o ha) dX4_isLoaf_22 ?_
      refine v_icmp_ne o (tgt := 32) dX4_isLoaf_25 (by decide) (fun c25 => ?_) (fun c25 => ?_)
      · replace h := h.1 c25
        refine v_iconst o (v := 0) dX4_isLoaf_32 (by decide) ?_
        exact v_zret o rfl hr bz0.1 dX4_isLoaf_33 h
      · replace h := h.2 c25
        refine v_iconst o (v := 1) dX4_isLoaf_28 (by decide) ?_
        refine v_goto o (tgt := 33) dX4_isLoaf_29 (by decide) ?_
        exact v_zret o rfl hr bz1.1 dX4_isLoaf_33 h
abbrev kX4_isLoaf := @vX4_isLoaf
abbrev metX4_isLoaf := @mX4_isLoaf

def vX6_codeOf (P : Sk) (f : St) (p0 : Int32) (p1 : Int32) (K : Int32 → St → Prop) : Prop :=
  (p1 = 0 → K ((2 * p0) + 0) f) ∧ (¬ p1 = 0 → K ((2 * p0) + 1) f)
set_option maxRecDepth 20000 in
set_option maxHeartbeats 4000000 in
theorem mX6_codeOf (l : Launch) (G : Gl) (P : Sk) (f : St) (sz : Nat) (p0 : Int32) (p1 : Int32) (K : Int32 → St → Prop) (h : vX6_codeOf P f p0 p1 K)  :
  Met l yX6_codeOf (wU yX6_codeOf cX6_codeOf 2 (some .int)) rmX6_codeOf (PcW G P f sz [.int p0, .int p1]) (QcI G P sz K) 0 0 (frA P sz) := by
  refine v_met (own := RX6) [.int p0, .int p1] (by decide +kernel) rfl (Nat.le_of_ble_eq_true rfl) (fun p e s m args below meth c hsz o hr hnm => ?_)
  refine v_lv (lv2 := [(0, .int p0), (1, .int p1)]) rfl ?_
  unfold vX6_codeOf at h
  refine v_iconst o (v := 2) dX6_codeOf_0 (by decide) ?_
  refine v_iload_n o 0 dX6_codeOf_1 rfl ?_
  refine v_imul o dX6_codeOf_2 ?_
  refine v_iload_n o 1 dX6_codeOf_3 rfl ?_
  refine v_if_eq o (tgt := 11) dX6_codeOf_4 (by decide) (fun c4 => ?_) (fun c4 => ?_)
  · replace h := h.1 c4
    refine v_iconst o (v := 0) dX6_codeOf_11 (by decide) ?_
    refine v_iadd o dX6_codeOf_12 ?_
    exact v_iret o rfl hr dX6_codeOf_13 h
  · replace h := h.2 c4
    refine v_iconst o (v := 1) dX6_codeOf_7 (by decide) ?_
    refine v_goto o (tgt := 12) dX6_codeOf_8 (by decide) ?_
    refine v_iadd o dX6_codeOf_12 ?_
    exact v_iret o rfl hr dX6_codeOf_13 h
abbrev kX6_codeOf := @vX6_codeOf
abbrev metX6_codeOf := @mX6_codeOf

def vX6_add (P : Sk) (f : St) (a : Nat) (p1 : Int32) (K : St → Prop) : Prop :=
  kX6_insertAt P f a (f a 2) p1 (fun g6 => K g6)
set_option maxRecDepth 20000 in
set_option maxHeartbeats 4000000 in
theorem mX6_add (l : Launch) (G : Gl) (P : Sk) (f : St) (sz : Nat) (a : Nat) (ha : IsWord P a) (p1 : Int32) (K : St → Prop) (h : vX6_add P f a p1 K)  :
  Met l yX6_add (wU yX6_add cX6_add 2 none) rmX6_add (PcW G P f sz [.ref a, .int p1]) (QcV G P sz K) 0 0 (frA P sz) := by
  refine v_met (own := RX6) [.ref a, .int p1] (by decide +kernel) rfl (Nat.le_of_ble_eq_true rfl) (fun p e s m args below meth c hsz o hr hnm => ?_)
  refine v_lv (lv2 := [(0, .ref a), (1, .int p1)]) rfl ?_
  unfold vX6_add at h
  refine v_aload_n o 0 dX6_add_0 rfl ?_
  refine v_aload_n o 0 dX6_add_1 rfl ?_
  refine v_gfI o lkX6_24 (by decide) (wfWord_o ha) dX6_add_2 ?_
  refine v_iload_n o 1 dX6_add_5 rfl ?_
  refine v_cVv o [.int (f a 2), .int p1] [] (fun sz => metX6_insertAt l G P f sz a ha (f a 2) p1 _ h) (cwX6_31 o.1.2.2.2.2 (by decide)) ⟨_, _, rfl⟩ (by decide) (wfWord_o ha) rfl (Nat.le_of_ble_eq_true rfl) ⟨Nat.le_of_ble_eq_true rfl, Nat.le_of_ble_eq_true rfl⟩ dX6_add_6 rfl (fun g6 h => ?_)
  exact v_vret o rfl hr dX6_add_9 h
abbrev kX6_add := @vX6_add
abbrev metX6_add := @mX6_add

def jX4_readLoaf_42 (P : Sk) (a : Nat) (b1 : Nat) (L11 : St → Int32 → Prop) (K : St → Prop) (x2 : Int32) (y1 : Int32) (y2 : Int32) (f : St) : Prop :=
  kX6_codeOf P f y1 y2 (fun r42 g42 => kX6_add P g42 b1 r42 (fun g45 => ∀ x2_48 : Int32, x2_48 = x2 + 2 → L11 g45 x2_48))
def bX4_readLoaf_11 (P : Sk) (a : Nat) (b1 : Nat) (L11 : St → Int32 → Prop) (K : St → Prop) (f : St) (x2 : Int32) : Prop :=
  (f a 1 ≤ x2 → K f) ∧ (¬ f a 1 ≤ x2 → kX4_placeAt P f a x2 (fun r22 g22 => kX4_signAt P g22 a (x2 + 1) (fun r29 g29 => (¬ r29 = 43 → jX4_readLoaf_42 P a b1 L11 K x2 r22 0 g29) ∧ (r29 = 43 → jX4_readLoaf_42 P a b1 L11 K x2 r22 1 g29))))
def vX4_readLoaf (P : Sk) (f : St) (a : Nat) (b1 : Nat) (L11 : St → Int32 → Prop) (K : St → Prop) : Prop :=
  kX4_digitAt P f a 0 (fun r3 g3 => kX6_begin P g3 b1 r3 (fun g6 => L11 g6 2))
set_option maxRecDepth 20000 in
set_option maxHeartbeats 4000000 in
theorem mX4_readLoaf (l : Launch) (G : Gl) (P : Sk) (f : St) (sz : Nat) (a : Nat) (ha : IsText P a) (b1 : Nat) (hb1 : IsWord P b1) (K : St → Prop) (I11 : St → Int32 → Prop) (μ11 : St → Int32 → Nat) 
  (h : vX4_readLoaf P f a b1 I11 K)
  (h11 : ∀ (g : St) (x2 : Int32) , I11 g x2 → bX4_readLoaf_11 P a b1 (fun g' z0 => I11 g' z0 ∧ μ11 g' z0 < μ11 g x2) K g x2) :
  Met l yX4_readLoaf (wU yX4_readLoaf cX4_readLoaf 3 none) rmX4_readLoaf (PcW G P f sz [.ref a, .ref b1]) (QcV G P sz K) 0 0 (frA P sz) := by
  refine v_met (own := RX4) [.ref a, .ref b1] (by decide +kernel) rfl (Nat.le_of_ble_eq_true rfl) (fun p e s m args below meth c hsz o hr hnm => ?_)
  refine v_lv (lv2 := [(0, .ref a), (1, .ref b1)]) rfl ?_
  have main : ∀ n : Nat, (∀ (g : St) (x2 : Int32) , I11 g x2 → μ11 g x2 < n → V p l e rmX4_readLoaf s m args below meth c 3 G (frA P sz) (MQ below (QcV G P sz K) args s 0 0 (frA P sz)) 0 0 P [(0, .ref a), (1, .ref b1), (2, .int x2)] [] 11 g) := by
    intro n
    induction n with
    | zero => exact fun g x2 hI hm => absurd hm (Nat.not_lt_zero _)
    | succ n ih =>
      intro g x2 hI hm
      have h := h11 g x2 hI
      clear hI
      have J42 : ∀ (x2_42 : Int32) (y1_42 : Int32) (y2_42 : Int32) (g42 : St), jX4_readLoaf_42 P a b1 (fun g' z0 => I11 g' z0 ∧ μ11 g' z0 < μ11 g x2) K x2_42 y1_42 y2_42 g42 → V p l e rmX4_readLoaf s m args below meth c 3 G (frA P sz) (MQ below (QcV G P sz K) args s 0 0 (frA P sz)) 0 0 P [(0, .ref a), (1, .ref b1), (2, .int x2_42)] [.int y2_42, .int y1_42, .ref b1] 42 g42 := by
        intro x2_42 y1_42 y2_42 g42  h
        unfold jX4_readLoaf_42 at h
        refine v_cSi o [.int y1_42, .int y2_42] [.ref b1] (fun sz => metX6_codeOf l G P g42 sz y1_42 y2_42 _ h) (cwX4_61 o.1.2.2.2.2 (by decide)) rfl (Nat.le_of_ble_eq_true rfl) ⟨Nat.le_of_ble_eq_true rfl, Nat.le_of_ble_eq_true rfl⟩ dX4_readLoaf_42 rfl (fun r42 g42 h => ?_)
        refine v_cVv o [.int r42] [] (fun sz => metX6_add l G P g42 sz b1 hb1 r42 _ h) (cwX4_65 o.1.2.2.2.2 (by decide)) ⟨_, _, rfl⟩ (by decide) (wfWord_o hb1) rfl (Nat.le_of_ble_eq_true rfl) ⟨Nat.le_of_ble_eq_true rfl, Nat.le_of_ble_eq_true rfl⟩ dX4_readLoaf_45 rfl (fun g45 h => ?_)
        obtain ⟨x2_48, ex2_48⟩ : ∃ y : Int32, y = x2_42 + 2 := ⟨_, rfl⟩
        replace h := h x2_48 ex2_48
        refine v_iinc o (v := x2_48) (lv' := [(2, .int x2_48), (0, .ref a), (1, .ref b1)]) 2 dX4_readLoaf_48 rfl (by rw [ex2_48]; rfl) (by decide) rfl ?_
        refine v_goto o (tgt := 11) dX4_readLoaf_51 (by decide) ?_
        refine v_sub [1, 2, 0] (lv2 := [(0, .ref a), (1, .ref b1), (2, .int x2_48)]) rfl ?_
        exact ih g45 x2_48  h.1 (by have := h.2; omega)
      unfold bX4_readLoaf_11 at h
      refine v_iload_n o 2 dX4_readLoaf_11 rfl ?_
      refine v_aload_n o 0 dX4_readLoaf_12 rfl ?_
      refine v_gfI o lkX4_20 (by decide) (wfText_o ha) dX4_readLoaf_13 ?_
      refine v_icmp_ge o (tgt := 54) dX4_readLoaf_16 (by decide) (fun c16 => ?_) (fun c16 => ?_)
      · replace h := h.1 c16
        exact v_vret o rfl hr dX4_readLoaf_54 h
      · replace h := h.2 c16
        refine v_aload_n o 1 dX4_readLoaf_19 rfl ?_
        refine v_aload_n o 0 dX4_readLoaf_20 rfl ?_
        refine v_iload_n o 2 dX4_readLoaf_21 rfl ?_
        refine v_cVi o [.int x2] [.ref b1] (fun sz => metX4_placeAt l G P g sz a ha x2 _ h) (cwX4_58 o.1.2.2.2.2 (by decide)) ⟨_, _, rfl⟩ (by decide) (wfText_o ha) rfl (Nat.le_of_ble_eq_true rfl) ⟨Nat.le_of_ble_eq_true rfl, Nat.le_of_ble_eq_true rfl⟩ dX4_readLoaf_22 rfl (fun r22 g22 h => ?_)
        refine v_aload_n o 0 dX4_readLoaf_25 rfl ?_
        refine v_iload_n o 2 dX4_readLoaf_26 rfl ?_
        refine v_iconst o (v := 1) dX4_readLoaf_27 (by decide) ?_
        refine v_iadd o dX4_readLoaf_28 ?_
        refine v_cVi o [.int (x2 + 1)] [.int r22, .ref b1] (fun sz => metX4_signAt l G P g22 sz a ha (x2 + 1) _ h) (cwX4_32 o.1.2.2.2.2 (by decide)) ⟨_, _, rfl⟩ (by decide) (wfText_o ha) rfl (Nat.le_of_ble_eq_true rfl) ⟨Nat.le_of_ble_eq_true rfl, Nat.le_of_ble_eq_true rfl⟩ dX4_readLoaf_29 rfl (fun r29 g29 h => ?_)
        refine v_bipush o (v := 43) dX4_readLoaf_32 (by decide) ?_
        refine v_icmp_ne o (tgt := 41) dX4_readLoaf_34 (by decide) (fun c34 => ?_) (fun c34 => ?_)
        · replace h := h.1 c34
          refine v_iconst o (v := 0) dX4_readLoaf_41 (by decide) ?_
          refine v_sub [0, 1, 2] (lv2 := [(0, .ref a), (1, .ref b1), (2, .int x2)]) rfl ?_
          exact J42 x2 r22 0 g29  h
        · replace h := h.2 c34
          refine v_iconst o (v := 1) dX4_readLoaf_37 (by decide) ?_
          refine v_goto o (tgt := 42) dX4_readLoaf_38 (by decide) ?_
          refine v_sub [0, 1, 2] (lv2 := [(0, .ref a), (1, .ref b1), (2, .int x2)]) rfl ?_
          exact J42 x2 r22 1 g29  h
  unfold vX4_readLoaf at h
  refine v_aload_n o 1 dX4_readLoaf_0 rfl ?_
  refine v_aload_n o 0 dX4_readLoaf_1 rfl ?_
  refine v_iconst o (v := 0) dX4_readLoaf_2 (by decide) ?_
  refine v_cVi o [.int 0] [.ref b1] (fun sz => metX4_digitAt l G P f sz a ha 0 _ h) (cwX4_47 o.1.2.2.2.2 (by decide)) ⟨_, _, rfl⟩ (by decide) (wfText_o ha) rfl (Nat.le_of_ble_eq_true rfl) ⟨Nat.le_of_ble_eq_true rfl, Nat.le_of_ble_eq_true rfl⟩ dX4_readLoaf_3 rfl (fun r3 g3 h => ?_)
  refine v_cVv o [.int r3] [] (fun sz => metX6_begin l G P g3 sz b1 hb1 r3 _ h) (cwX4_53 o.1.2.2.2.2 (by decide)) ⟨_, _, rfl⟩ (by decide) (wfWord_o hb1) rfl (Nat.le_of_ble_eq_true rfl) ⟨Nat.le_of_ble_eq_true rfl, Nat.le_of_ble_eq_true rfl⟩ dX4_readLoaf_6 rfl (fun g6 h => ?_)
  refine v_iconst o (v := 2) dX4_readLoaf_9 (by decide) ?_
  refine v_istore_n o (lv' := [(2, .int 2), (0, .ref a), (1, .ref b1)]) dX4_readLoaf_10 rfl (by decide) rfl ?_
  refine v_sub [1, 2, 0] (lv2 := [(0, .ref a), (1, .ref b1), (2, .int 2)]) rfl ?_
  exact (main (μ11 g6 2 + 1)) g6 2  h (Nat.lt_succ_self _)
def kX4_readLoaf (P : Sk) (f : St) (a : Nat) (b1 : Nat) (K : St → Prop) : Prop := False
theorem metX4_readLoaf (l : Launch) (G : Gl) (P : Sk) (f : St) (sz : Nat) (a : Nat) (ha : IsText P a) (b1 : Nat) (hb1 : IsWord P b1) (K : St → Prop) (h : kX4_readLoaf P f a b1 K) : Met l yX4_readLoaf (wU yX4_readLoaf cX4_readLoaf 3 none) rmX4_readLoaf (PcW G P f sz [.ref a, .ref b1]) (QcV G P sz K) 0 0 (frA P sz) := sorry

def vX4_stateBehindLetter (P : Sk) (f : St) (p0 : Int32) (K : Int32 → St → Prop) : Prop :=
  (p0 = 106 → K 5 f) ∧ (¬ p0 = 106 → (p0 = 108 → K 1 f) ∧ (¬ p0 = 108 → (p0 = 109 → K 1 f) ∧ (¬ p0 = 109 → (p0 = 114 → K 1 f) ∧ (¬ p0 = 114 → (p0 = 116 → K 1 f) ∧ (¬ p0 = 116 → (p0 = 120 → K 2 f) ∧ (¬ p0 = 120 → (p0 = 122 → K 1 f) ∧ (¬ p0 = 122 → K (-1) f)))))))
set_option maxRecDepth 20000 in
set_option maxHeartbeats 4000000 in
theorem mX4_stateBehindLetter (l : Launch) (G : Gl) (P : Sk) (f : St) (sz : Nat) (p0 : Int32) (K : Int32 → St → Prop) (h : vX4_stateBehindLetter P f p0 K)  :
  Met l yX4_stateBehindLetter (wU yX4_stateBehindLetter cX4_stateBehindLetter 1 (some .int)) rmX4_stateBehindLetter (PcW G P f sz [.int p0]) (QcI G P sz K) 0 0 (frA P sz) := by
  refine v_met (own := RX4) [.int p0] (by decide +kernel) rfl (Nat.le_of_ble_eq_true rfl) (fun p e s m args below meth c hsz o hr hnm => ?_)
  refine v_lv (lv2 := [(0, .int p0)]) rfl ?_
  unfold vX4_stateBehindLetter at h
  refine v_iload_n o 0 dX4_stateBehindLetter_0 rfl ?_
  by_cases c1_106 : p0 = 106
  · replace h := h.1 c1_106
    refine v_tableIn o (off := 85) (tgt := 86) dX4_stateBehindLetter_1 (by rw [c1_106]; decide) (by rw [c1_106]; decide) (by rw [c1_106]; decide) (by decide) ?_
    refine v_iconst o (v := 5) dX4_stateBehindLetter_86 (by decide) ?_
    exact v_iret o rfl hr dX4_stateBehindLetter_87 h
  · replace h := h.2 c1_106
    by_cases c1_108 : p0 = 108
    · replace h := h.1 c1_108
      refine v_tableIn o (off := 87) (tgt := 88) dX4_stateBehindLetter_1 (by rw [c1_108]; decide) (by rw [c1_108]; decide) (by rw [c1_108]; decide) (by decide) ?_
      refine v_iconst o (v := 1) dX4_stateBehindLetter_88 (by decide) ?_
      exact v_iret o rfl hr dX4_stateBehindLetter_89 h
    · replace h := h.2 c1_108
      by_cases c1_109 : p0 = 109
      · replace h := h.1 c1_109
        refine v_tableIn o (off := 87) (tgt := 88) dX4_stateBehindLetter_1 (by rw [c1_109]; decide) (by rw [c1_109]; decide) (by rw [c1_109]; decide) (by decide) ?_
        refine v_iconst o (v := 1) dX4_stateBehindLetter_88 (by decide) ?_
        exact v_iret o rfl hr dX4_stateBehindLetter_89 h
      · replace h := h.2 c1_109
        by_cases c1_114 : p0 = 114
        · replace h := h.1 c1_114
          refine v_tableIn o (off := 87) (tgt := 88) dX4_stateBehindLetter_1 (by rw [c1_114]; decide) (by rw [c1_114]; decide) (by rw [c1_114]; decide) (by decide) ?_
          refine v_iconst o (v := 1) dX4_stateBehindLetter_88 (by decide) ?_
          exact v_iret o rfl hr dX4_stateBehindLetter_89 h
        · replace h := h.2 c1_114
          by_cases c1_116 : p0 = 116
          · replace h := h.1 c1_116
            refine v_tableIn o (off := 87) (tgt := 88) dX4_stateBehindLetter_1 (by rw [c1_116]; decide) (by rw [c1_116]; decide) (by rw [c1_116]; decide) (by decide) ?_
            refine v_iconst o (v := 1) dX4_stateBehindLetter_88 (by decide) ?_
            exact v_iret o rfl hr dX4_stateBehindLetter_89 h
          · replace h := h.2 c1_116
            by_cases c1_120 : p0 = 120
            · replace h := h.1 c1_120
              refine v_tableIn o (off := 83) (tgt := 84) dX4_stateBehindLetter_1 (by rw [c1_120]; decide) (by rw [c1_120]; decide) (by rw [c1_120]; decide) (by decide) ?_
              refine v_iconst o (v := 2) dX4_stateBehindLetter_84 (by decide) ?_
              exact v_iret o rfl hr dX4_stateBehindLetter_85 h
            · replace h := h.2 c1_120
              by_cases c1_122 : p0 = 122
              · replace h := h.1 c1_122
                refine v_tableIn o (off := 87) (tgt := 88) dX4_stateBehindLetter_1 (by rw [c1_122]; decide) (by rw [c1_122]; decide) (by rw [c1_122]; decide) (by decide) ?_
                refine v_iconst o (v := 1) dX4_stateBehindLetter_88 (by decide) ?_
                exact v_iret o rfl hr dX4_stateBehindLetter_89 h
              · replace h := h.2 c1_122
                have D1 : V p l e rmX4_stateBehindLetter s m args below meth c 1 G (frA P sz) (MQ below (QcI G P sz K) args s 0 0 (frA P sz)) 0 0 P [(0, .int p0)] [] 90 f := by
                  refine v_iconst o (v := (-1)) dX4_stateBehindLetter_90 (by decide) ?_
                  exact v_iret o rfl hr dX4_stateBehindLetter_91 h
                have E1 : (p0).toInt < 106 ∨ 122 < (p0).toInt ∨ (p0).toInt = 107 ∨ (p0).toInt = 110 ∨ (p0).toInt = 111 ∨ (p0).toInt = 112 ∨ (p0).toInt = 113 ∨ (p0).toInt = 115 ∨ (p0).toInt = 117 ∨ (p0).toInt = 118 ∨ (p0).toInt = 119 ∨ (p0).toInt = 121 := by have q0 := lv_neT c1_106 (a := 106) (by decide); have q1 := lv_neT c1_108 (a := 108) (by decide); have q2 := lv_neT c1_109 (a := 109) (by decide); have q3 := lv_neT c1_114 (a := 114) (by decide); have q4 := lv_neT c1_116 (a := 116) (by decide); have q5 := lv_neT c1_120 (a := 120) (by decide); have q6 := lv_neT c1_122 (a := 122) (by decide); omega
                rcases E1 with E | E | E | E | E | E | E | E | E | E | E | E
                · exact v_tableOut o (tgt := 90) dX4_stateBehindLetter_1 (Or.inl E) (by decide) D1
                · exact v_tableOut o (tgt := 90) dX4_stateBehindLetter_1 (Or.inr E) (by decide) D1
                · exact v_tableIn o (off := 89) (tgt := 90) dX4_stateBehindLetter_1 (by rw [E]; decide) (by rw [E]; decide) (by rw [E]; decide) (by decide) D1
                · exact v_tableIn o (off := 89) (tgt := 90) dX4_stateBehindLetter_1 (by rw [E]; decide) (by rw [E]; decide) (by rw [E]; decide) (by decide) D1
                · exact v_tableIn o (off := 89) (tgt := 90) dX4_stateBehindLetter_1 (by rw [E]; decide) (by rw [E]; decide) (by rw [E]; decide) (by decide) D1
                · exact v_tableIn o (off := 89) (tgt := 90) dX4_stateBehindLetter_1 (by rw [E]; decide) (by rw [E]; decide) (by rw [E]; decide) (by decide) D1
                · exact v_tableIn o (off := 89) (tgt := 90) dX4_stateBehindLetter_1 (by rw [E]; decide) (by rw [E]; decide) (by rw [E]; decide) (by decide) D1
                · exact v_tableIn o (off := 89) (tgt := 90) dX4_stateBehindLetter_1 (by rw [E]; decide) (by rw [E]; decide) (by rw [E]; decide) (by decide) D1
                · exact v_tableIn o (off := 89) (tgt := 90) dX4_stateBehindLetter_1 (by rw [E]; decide) (by rw [E]; decide) (by rw [E]; decide) (by decide) D1
                · exact v_tableIn o (off := 89) (tgt := 90) dX4_stateBehindLetter_1 (by rw [E]; decide) (by rw [E]; decide) (by rw [E]; decide) (by decide) D1
                · exact v_tableIn o (off := 89) (tgt := 90) dX4_stateBehindLetter_1 (by rw [E]; decide) (by rw [E]; decide) (by rw [E]; decide) (by decide) D1
                · exact v_tableIn o (off := 89) (tgt := 90) dX4_stateBehindLetter_1 (by rw [E]; decide) (by rw [E]; decide) (by rw [E]; decide) (by decide) D1
abbrev kX4_stateBehindLetter := @vX4_stateBehindLetter
abbrev metX4_stateBehindLetter := @mX4_stateBehindLetter

def vX4_isLoafDigit (P : Sk) (f : St) (p0 : Int32) (K : Int32 → St → Prop) : Prop :=
  kX4_isBetween P f p0 48 53 (fun r5 g5 => (r5 = 0 ∨ r5 = 1) ∧ K r5 g5)
set_option maxRecDepth 20000 in
set_option maxHeartbeats 4000000 in
theorem mX4_isLoafDigit (l : Launch) (G : Gl) (P : Sk) (f : St) (sz : Nat) (p0 : Int32) (K : Int32 → St → Prop) (h : vX4_isLoafDigit P f p0 K)  :
  Met l yX4_isLoafDigit (wU yX4_isLoafDigit cX4_isLoafDigit 1 (some .boolean)) rmX4_isLoafDigit (PcW G P f sz [.int p0]) (QcI G P sz K) 0 0 (frA P sz) := by
  refine v_met (own := RX4) [.int p0] (by decide +kernel) rfl (Nat.le_of_ble_eq_true rfl) (fun p e s m args below meth c hsz o hr hnm => ?_)
  refine v_lv (lv2 := [(0, .int p0)]) rfl ?_
  unfold vX4_isLoafDigit at h
  refine v_iload_n o 0 dX4_isLoafDigit_0 rfl ?_
  refine v_bipush o (v := 48) dX4_isLoafDigit_1 (by decide) ?_
  refine v_bipush o (v := 53) dX4_isLoafDigit_3 (by decide) ?_
  refine v_cSi o [.int p0, .int 48, .int 53] [] (fun sz => metX4_isBetween l G P f sz p0 48 53 _ h) (cwX4_43 o.1.2.2.2.2 (by decide)) rfl (Nat.le_of_ble_eq_true rfl) ⟨Nat.le_of_ble_eq_true rfl, Nat.le_of_ble_eq_true rfl⟩ dX4_isLoafDigit_5 rfl (fun r5 g5 h => ?_)
  exact v_zret o rfl hr (bzz h.1).1 dX4_isLoafDigit_8 h.2
abbrev kX4_isLoafDigit := @vX4_isLoafDigit
abbrev metX4_isLoafDigit := @mX4_isLoafDigit

def vX4_stateBehind (P : Sk) (f : St) (p0 : Int32) (p1 : Int32) (K : Int32 → St → Prop) : Prop :=
  (p0 = 0 → kX4_stateBehindLetter P f p1 (fun r49 g49 => K r49 g49)) ∧ (¬ p0 = 0 → (p0 = 1 → kX4_isLoafDigit P f p1 (fun r54 g54 => (r54 = 0 → K (-1) g54) ∧ (¬ r54 = 0 → K 7 g54))) ∧ (¬ p0 = 1 → (p0 = 2 → kX4_isLoafDigit P f p1 (fun r68 g68 => (r68 = 0 → K (-1) g68) ∧ (¬ r68 = 0 → K 3 g68))) ∧ (¬ p0 = 2 → (p0 = 3 → kX4_isBetween P f p1 97 102 (fun r85 g85 => (r85 = 0 → K (-1) g85) ∧ (¬ r85 = 0 → K 4 g85))) ∧ (¬ p0 = 3 → (p0 = 4 → kX4_isSide P f p1 (fun r98 g98 => (r98 = 0 → K (-1) g98) ∧ (¬ r98 = 0 → K 7 g98))) ∧ (¬ p0 = 4 → (p0 = 5 → kX4_isLoafDigit P f p1 (fun r112 g112 => (r112 = 0 → K (-1) g112) ∧ (¬ r112 = 0 → K 6 g112))) ∧ (¬ p0 = 5 → (p0 = 6 → (¬ p1 = 47 → K (-1) f) ∧ (p1 = 47 → K 1 f)) ∧ (¬ p0 = 6 → (p0 = 7 → (¬ p1 = 59 → K (-1) f) ∧ (p1 = 59 → K 0 f)) ∧ (¬ p0 = 7 → K (-1) f))))))))
set_option maxRecDepth 20000 in
set_option maxHeartbeats 4000000 in
theorem mX4_stateBehind (l : Launch) (G : Gl) (P : Sk) (f : St) (sz : Nat) (p0 : Int32) (p1 : Int32) (K : Int32 → St → Prop) (h : vX4_stateBehind P f p0 p1 K)  :
  Met l yX4_stateBehind (wU yX4_stateBehind cX4_stateBehind 2 (some .int)) rmX4_stateBehind (PcW G P f sz [.int p0, .int p1]) (QcI G P sz K) 0 0 (frA P sz) := by
  refine v_met (own := RX4) [.int p0, .int p1] (by decide +kernel) rfl (Nat.le_of_ble_eq_true rfl) (fun p e s m args below meth c hsz o hr hnm => ?_)
  refine v_lv (lv2 := [(0, .int p0), (1, .int p1)]) rfl ?_
  unfold vX4_stateBehind at h
  refine v_iload_n o 0 dX4_stateBehind_0 rfl ?_
  by_cases c1_0 : p0 = 0
  · replace h := h.1 c1_0
    refine v_tableIn o (off := 47) (tgt := 48) dX4_stateBehind_1 (by rw [c1_0]; decide) (by rw [c1_0]; decide) (by rw [c1_0]; decide) (by decide) ?_
    refine v_iload_n o 1 dX4_stateBehind_48 rfl ?_
    refine v_cSi o [.int p1] [] (fun sz => metX4_stateBehindLetter l G P f sz p1 _ h) (cwX4_72 o.1.2.2.2.2 (by decide)) rfl (Nat.le_of_ble_eq_true rfl) ⟨Nat.le_of_ble_eq_true rfl, Nat.le_of_ble_eq_true rfl⟩ dX4_stateBehind_49 rfl (fun r49 g49 h => ?_)
    exact v_iret o rfl hr dX4_stateBehind_52 h
  · replace h := h.2 c1_0
    by_cases c1_1 : p0 = 1
    · replace h := h.1 c1_1
      refine v_tableIn o (off := 52) (tgt := 53) dX4_stateBehind_1 (by rw [c1_1]; decide) (by rw [c1_1]; decide) (by rw [c1_1]; decide) (by decide) ?_
      refine v_iload_n o 1 dX4_stateBehind_53 rfl ?_
      refine v_cSi o [.int p1] [] (fun sz => metX4_isLoafDigit l G P f sz p1 _ h) (cwX4_75 o.1.2.2.2.2 (by decide)) rfl (Nat.le_of_ble_eq_true rfl) ⟨Nat.le_of_ble_eq_true rfl, Nat.le_of_ble_eq_true rfl⟩ dX4_stateBehind_54 rfl (fun r54 g54 h => ?_)
      refine v_if_eq o (tgt := 65) dX4_stateBehind_57 (by decide) (fun c57 => ?_) (fun c57 => ?_)
      · replace h := h.1 c57
        refine v_iconst o (v := (-1)) dX4_stateBehind_65 (by decide) ?_
        exact v_iret o rfl hr dX4_stateBehind_66 h
      · replace h := h.2 c57
        refine v_bipush o (v := 7) dX4_stateBehind_60 (by decide) ?_
        refine v_goto o (tgt := 66) dX4_stateBehind_62 (by decide) ?_
        exact v_iret o rfl hr dX4_stateBehind_66 h
    · replace h := h.2 c1_1
      by_cases c1_2 : p0 = 2
      · replace h := h.1 c1_2
        refine v_tableIn o (off := 66) (tgt := 67) dX4_stateBehind_1 (by rw [c1_2]; decide) (by rw [c1_2]; decide) (by rw [c1_2]; decide) (by decide) ?_
        refine v_iload_n o 1 dX4_stateBehind_67 rfl ?_
        refine v_cSi o [.int p1] [] (fun sz => metX4_isLoafDigit l G P f sz p1 _ h) (cwX4_75 o.1.2.2.2.2 (by decide)) rfl (Nat.le_of_ble_eq_true rfl) ⟨Nat.le_of_ble_eq_true rfl, Nat.le_of_ble_eq_true rfl⟩ dX4_stateBehind_68 rfl (fun r68 g68 h => ?_)
        refine v_if_eq o (tgt := 78) dX4_stateBehind_71 (by decide) (fun c71 => ?_) (fun c71 => ?_)
        · replace h := h.1 c71
          refine v_iconst o (v := (-1)) dX4_stateBehind_78 (by decide) ?_
          exact v_iret o rfl hr dX4_stateBehind_79 h
        · replace h := h.2 c71
          refine v_iconst o (v := 3) dX4_stateBehind_74 (by decide) ?_
          refine v_goto o (tgt := 79) dX4_stateBehind_75 (by decide) ?_
          exact v_iret o rfl hr dX4_stateBehind_79 h
      · replace h := h.2 c1_2
        by_cases c1_3 : p0 = 3
        · replace h := h.1 c1_3
          refine v_tableIn o (off := 79) (tgt := 80) dX4_stateBehind_1 (by rw [c1_3]; decide) (by rw [c1_3]; decide) (by rw [c1_3]; decide) (by decide) ?_
          refine v_iload_n o 1 dX4_stateBehind_80 rfl ?_
          refine v_bipush o (v := 97) dX4_stateBehind_81 (by decide) ?_
          refine v_bipush o (v := 102) dX4_stateBehind_83 (by decide) ?_
          refine v_cSi o [.int p1, .int 97, .int 102] [] (fun sz => metX4_isBetween l G P f sz p1 97 102 _ h) (cwX4_43 o.1.2.2.2.2 (by decide)) rfl (Nat.le_of_ble_eq_true rfl) ⟨Nat.le_of_ble_eq_true rfl, Nat.le_of_ble_eq_true rfl⟩ dX4_stateBehind_85 rfl (fun r85 g85 h => ?_)
          refine v_if_eq o (tgt := 95) dX4_stateBehind_88 (by decide) (fun c88 => ?_) (fun c88 => ?_)
          · replace h := h.1 c88
            refine v_iconst o (v := (-1)) dX4_stateBehind_95 (by decide) ?_
            exact v_iret o rfl hr dX4_stateBehind_96 h
          · replace h := h.2 c88
            refine v_iconst o (v := 4) dX4_stateBehind_91 (by decide) ?_
            refine v_goto o (tgt := 96) dX4_stateBehind_92 (by decide) ?_
            exact v_iret o rfl hr dX4_stateBehind_96 h
        · replace h := h.2 c1_3
          by_cases c1_4 : p0 = 4
          · replace h := h.1 c1_4
            refine v_tableIn o (off := 96) (tgt := 97) dX4_stateBehind_1 (by rw [c1_4]; decide) (by rw [c1_4]; decide) (by rw [c1_4]; decide) (by decide) ?_
            refine v_iload_n o 1 dX4_stateBehind_97 rfl ?_
            refine v_cSi o [.int p1] [] (fun sz => metX4_isSide l G P f sz p1 _ h) (cwX4_50 o.1.2.2.2.2 (by decide)) rfl (Nat.le_of_ble_eq_true rfl) ⟨Nat.le_of_ble_eq_true rfl, Nat.le_of_ble_eq_true rfl⟩ dX4_stateBehind_98 rfl (fun r98 g98 h => ?_)
            refine v_if_eq o (tgt := 109) dX4_stateBehind_101 (by decide) (fun c101 => ?_) (fun c101 => ?_)
            · replace h := h.1 c101
              refine v_iconst o (v := (-1)) dX4_stateBehind_109 (by decide) ?_
              exact v_iret o rfl hr dX4_stateBehind_110 h
            · replace h := h.2 c101
              refine v_bipush o (v := 7) dX4_stateBehind_104 (by decide) ?_
              refine v_goto o (tgt := 110) dX4_stateBehind_106 (by decide) ?_
              exact v_iret o rfl hr dX4_stateBehind_110 h
          · replace h := h.2 c1_4
            by_cases c1_5 : p0 = 5
            · replace h := h.1 c1_5
              refine v_tableIn o (off := 110) (tgt := 111) dX4_stateBehind_1 (by rw [c1_5]; decide) (by rw [c1_5]; decide) (by rw [c1_5]; decide) (by decide) ?_
              refine v_iload_n o 1 dX4_stateBehind_111 rfl ?_
              refine v_cSi o [.int p1] [] (fun sz => metX4_isLoafDigit l G P f sz p1 _ h) (cwX4_75 o.1.2.2.2.2 (by decide)) rfl (Nat.le_of_ble_eq_true rfl) ⟨Nat.le_of_ble_eq_true rfl, Nat.le_of_ble_eq_true rfl⟩ dX4_stateBehind_112 rfl (fun r112 g112 h => ?_)
              refine v_if_eq o (tgt := 123) dX4_stateBehind_115 (by decide) (fun c115 => ?_) (fun c115 => ?_)
              · replace h := h.1 c115
                refine v_iconst o (v := (-1)) dX4_stateBehind_123 (by decide) ?_
                exact v_iret o rfl hr dX4_stateBehind_124 h
              · replace h := h.2 c115
                refine v_bipush o (v := 6) dX4_stateBehind_118 (by decide) ?_
                refine v_goto o (tgt := 124) dX4_stateBehind_120 (by decide) ?_
                exact v_iret o rfl hr dX4_stateBehind_124 h
            · replace h := h.2 c1_5
              by_cases c1_6 : p0 = 6
              · replace h := h.1 c1_6
                refine v_tableIn o (off := 124) (tgt := 125) dX4_stateBehind_1 (by rw [c1_6]; decide) (by rw [c1_6]; decide) (by rw [c1_6]; decide) (by decide) ?_
                refine v_iload_n o 1 dX4_stateBehind_125 rfl ?_
                refine v_bipush o (v := 47) dX4_stateBehind_126 (by decide) ?_
                refine v_icmp_ne o (tgt := 135) dX4_stateBehind_128 (by decide) (fun c128 => ?_) (fun c128 => ?_)
                · replace h := h.1 c128
                  refine v_iconst o (v := (-1)) dX4_stateBehind_135 (by decide) ?_
                  exact v_iret o rfl hr dX4_stateBehind_136 h
                · replace h := h.2 c128
                  refine v_iconst o (v := 1) dX4_stateBehind_131 (by decide) ?_
                  refine v_goto o (tgt := 136) dX4_stateBehind_132 (by decide) ?_
                  exact v_iret o rfl hr dX4_stateBehind_136 h
              · replace h := h.2 c1_6
                by_cases c1_7 : p0 = 7
                · replace h := h.1 c1_7
                  refine v_tableIn o (off := 136) (tgt := 137) dX4_stateBehind_1 (by rw [c1_7]; decide) (by rw [c1_7]; decide) (by rw [c1_7]; decide) (by decide) ?_
                  refine v_iload_n o 1 dX4_stateBehind_137 rfl ?_
                  refine v_bipush o (v := 59) dX4_stateBehind_138 (by decide) ?_
                  refine v_icmp_ne o (tgt := 147) dX4_stateBehind_140 (by decide) (fun c140 => ?_) (fun c140 => ?_)
                  · replace h := h.1 c140
                    refine v_iconst o (v := (-1)) dX4_stateBehind_147 (by decide) ?_
                    exact v_iret o rfl hr dX4_stateBehind_148 h
                  · replace h := h.2 c140
                    refine v_iconst o (v := 0) dX4_stateBehind_143 (by decide) ?_
                    refine v_goto o (tgt := 148) dX4_stateBehind_144 (by decide) ?_
                    exact v_iret o rfl hr dX4_stateBehind_148 h
                · replace h := h.2 c1_7
                  refine v_tableOut o (tgt := 149) dX4_stateBehind_1 (by have q0 := lv_neT c1_0 (a := 0) (by decide); have q1 := lv_neT c1_1 (a := 1) (by decide); have q2 := lv_neT c1_2 (a := 2) (by decide); have q3 := lv_neT c1_3 (a := 3) (by decide); have q4 := lv_neT c1_4 (a := 4) (by decide); have q5 := lv_neT c1_5 (a := 5) (by decide); have q6 := lv_neT c1_6 (a := 6) (by decide); have q7 := lv_neT c1_7 (a := 7) (by decide); omega) (by decide) ?_
                  refine v_iconst o (v := (-1)) dX4_stateBehind_149 (by decide) ?_
                  exact v_iret o rfl hr dX4_stateBehind_150 h
abbrev kX4_stateBehind := @vX4_stateBehind
abbrev metX4_stateBehind := @mX4_stateBehind

def bX4_isWorks_4 (P : Sk) (a : Nat) (L4 : St → Int32 → Int32 → Prop) (K : Int32 → St → Prop) (f : St) (x1 : Int32) (x2 : Int32) : Prop :=
  (f a 1 ≤ x2 → (¬ x1 = 7 → K 0 f) ∧ (x1 = 7 → K 1 f)) ∧ (¬ f a 1 ≤ x2 → kX4_signAt P f a x2 (fun r15 g15 => kX4_stateBehind P g15 x1 r15 (fun r18 g18 => ∀ x2_22 : Int32, x2_22 = x2 + 1 → L4 g18 r18 x2_22)))
def vX4_isWorks (P : Sk) (f : St) (a : Nat) (L4 : St → Int32 → Int32 → Prop) (K : Int32 → St → Prop) : Prop :=
  L4 f 0 0
set_option maxRecDepth 20000 in
set_option maxHeartbeats 4000000 in
theorem mX4_isWorks (l : Launch) (G : Gl) (P : Sk) (f : St) (sz : Nat) (a : Nat) (ha : IsText P a) (K : Int32 → St → Prop) (I4 : St → Int32 → Int32 → Prop) (μ4 : St → Int32 → Int32 → Nat) 
  (h : vX4_isWorks P f a I4 K)
  (h4 : ∀ (g : St) (x1 : Int32) (x2 : Int32) , I4 g x1 x2 → bX4_isWorks_4 P a (fun g' z0 z1 => I4 g' z0 z1 ∧ μ4 g' z0 z1 < μ4 g x1 x2) K g x1 x2) :
  Met l yX4_isWorks (wU yX4_isWorks cX4_isWorks 3 (some .boolean)) rmX4_isWorks (PcW G P f sz [.ref a]) (QcI G P sz K) 0 0 (frA P sz) := by
  refine v_met (own := RX4) [.ref a] (by decide +kernel) rfl (Nat.le_of_ble_eq_true rfl) (fun p e s m args below meth c hsz o hr hnm => ?_)
  refine v_lv (lv2 := [(0, .ref a)]) rfl ?_
  have main : ∀ n : Nat, (∀ (g : St) (x1 : Int32) (x2 : Int32) , I4 g x1 x2 → μ4 g x1 x2 < n → V p l e rmX4_isWorks s m args below meth c 3 G (frA P sz) (MQ below (QcI G P sz K) args s 0 0 (frA P sz)) 0 0 P [(0, .ref a), (1, .int x1), (2, .int x2)] [] 4 g) := by
    intro n
    induction n with
    | zero => exact fun g x1 x2 hI hm => absurd hm (Nat.not_lt_zero _)
    | succ n ih =>
      intro g x1 x2 hI hm
      have h := h4 g x1 x2 hI
      clear hI
      unfold bX4_isWorks_4 at h
      refine v_iload_n o 2 dX4_isWorks_4 rfl ?_
      refine v_aload_n o 0 dX4_isWorks_5 rfl ?_
      refine v_gfI o lkX4_20 (by decide) (wfText_o ha) dX4_isWorks_6 ?_
      refine v_icmp_ge o (tgt := 28) dX4_isWorks_9 (by decide) (fun c9 => ?_) (fun c9 => ?_)
      · replace h := h.1 c9
        refine v_iload_n o 1 dX4_isWorks_28 rfl ?_
        refine v_bipush o (v := 7) dX4_isWorks_29 (by decide) ?_
        refine v_icmp_ne o (tgt := 38) dX4_isWorks_31 (by decide) (fun c31 => ?_) (fun c31 => ?_)
        · replace h := h.1 c31
          refine v_iconst o (v := 0) dX4_isWorks_38 (by decide) ?_
          exact v_zret o rfl hr bz0.1 dX4_isWorks_39 h
        · replace h := h.2 c31
          refine v_iconst o (v := 1) dX4_isWorks_34 (by decide) ?_
          refine v_goto o (tgt := 39) dX4_isWorks_35 (by decide) ?_
          exact v_zret o rfl hr bz1.1 dX4_isWorks_39 h
      · replace h := h.2 c9
        refine v_iload_n o 1 dX4_isWorks_12 rfl ?_
        refine v_aload_n o 0 dX4_isWorks_13 rfl ?_
        refine v_iload_n o 2 dX4_isWorks_14 rfl ?_
        refine v_cVi o [.int x2] [.int x1] (fun sz => metX4_signAt l G P g sz a ha x2 _ h) (cwX4_32 o.1.2.2.2.2 (by decide)) ⟨_, _, rfl⟩ (by decide) (wfText_o ha) rfl (Nat.le_of_ble_eq_true rfl) ⟨Nat.le_of_ble_eq_true rfl, Nat.le_of_ble_eq_true rfl⟩ dX4_isWorks_15 rfl (fun r15 g15 h => ?_)
        refine v_cSi o [.int x1, .int r15] [] (fun sz => metX4_stateBehind l G P g15 sz x1 r15 _ h) (cwX4_68 o.1.2.2.2.2 (by decide)) rfl (Nat.le_of_ble_eq_true rfl) ⟨Nat.le_of_ble_eq_true rfl, Nat.le_of_ble_eq_true rfl⟩ dX4_isWorks_18 rfl (fun r18 g18 h => ?_)
        refine v_istore_n o (lv' := [(1, .int r18), (0, .ref a), (2, .int x2)]) dX4_isWorks_21 rfl (by decide) rfl ?_
        obtain ⟨x2_22, ex2_22⟩ : ∃ y : Int32, y = x2 + 1 := ⟨_, rfl⟩
        replace h := h x2_22 ex2_22
        refine v_iinc o (v := x2_22) (lv' := [(2, .int x2_22), (1, .int r18), (0, .ref a)]) 2 dX4_isWorks_22 rfl (by rw [ex2_22]; rfl) (by decide) rfl ?_
        refine v_goto o (tgt := 4) dX4_isWorks_25 (by decide) ?_
        refine v_sub [2, 1, 0] (lv2 := [(0, .ref a), (1, .int r18), (2, .int x2_22)]) rfl ?_
        exact ih g18 r18 x2_22  h.1 (by have := h.2; omega)
  unfold vX4_isWorks at h
  refine v_iconst o (v := 0) dX4_isWorks_0 (by decide) ?_
  refine v_istore_n o (lv' := [(1, .int 0), (0, .ref a)]) dX4_isWorks_1 rfl (by decide) rfl ?_
  refine v_iconst o (v := 0) dX4_isWorks_2 (by decide) ?_
  refine v_istore_n o (lv' := [(2, .int 0), (1, .int 0), (0, .ref a)]) dX4_isWorks_3 rfl (by decide) rfl ?_
  refine v_sub [2, 1, 0] (lv2 := [(0, .ref a), (1, .int 0), (2, .int 0)]) rfl ?_
  exact (main (μ4 f 0 0 + 1)) f 0 0  h (Nat.lt_succ_self _)
def kX4_isWorks (P : Sk) (f : St) (a : Nat) (K : Int32 → St → Prop) : Prop := False
theorem metX4_isWorks (l : Launch) (G : Gl) (P : Sk) (f : St) (sz : Nat) (a : Nat) (ha : IsText P a) (K : Int32 → St → Prop) (h : kX4_isWorks P f a K) : Met l yX4_isWorks (wU yX4_isWorks cX4_isWorks 3 (some .boolean)) rmX4_isWorks (PcW G P f sz [.ref a]) (QcI G P sz K) 0 0 (frA P sz) := sorry

def bX4_firstErrorOfWorks_4 (P : Sk) (a : Nat) (L4 : St → Int32 → Int32 → Prop) (K : Int32 → St → Prop) (f : St) (x1 : Int32) (x2 : Int32) : Prop :=
  (f a 1 ≤ x2 → K (f a 1) f) ∧ (¬ f a 1 ≤ x2 → kX4_signAt P f a x2 (fun r15 g15 => kX4_stateBehind P g15 x1 r15 (fun r18 g18 => (¬ r18 = (-1) → ∀ x2_29 : Int32, x2_29 = x2 + 1 → L4 g18 r18 x2_29) ∧ (r18 = (-1) → K x2 g18))))
def vX4_firstErrorOfWorks (P : Sk) (f : St) (a : Nat) (L4 : St → Int32 → Int32 → Prop) (K : Int32 → St → Prop) : Prop :=
  L4 f 0 0
set_option maxRecDepth 20000 in
set_option maxHeartbeats 4000000 in
theorem mX4_firstErrorOfWorks (l : Launch) (G : Gl) (P : Sk) (f : St) (sz : Nat) (a : Nat) (ha : IsText P a) (K : Int32 → St → Prop) (I4 : St → Int32 → Int32 → Prop) (μ4 : St → Int32 → Int32 → Nat) 
  (h : vX4_firstErrorOfWorks P f a I4 K)
  (h4 : ∀ (g : St) (x1 : Int32) (x2 : Int32) , I4 g x1 x2 → bX4_firstErrorOfWorks_4 P a (fun g' z0 z1 => I4 g' z0 z1 ∧ μ4 g' z0 z1 < μ4 g x1 x2) K g x1 x2) :
  Met l yX4_firstErrorOfWorks (wU yX4_firstErrorOfWorks cX4_firstErrorOfWorks 3 (some .int)) rmX4_firstErrorOfWorks (PcW G P f sz [.ref a]) (QcI G P sz K) 0 0 (frA P sz) := by
  refine v_met (own := RX4) [.ref a] (by decide +kernel) rfl (Nat.le_of_ble_eq_true rfl) (fun p e s m args below meth c hsz o hr hnm => ?_)
  refine v_lv (lv2 := [(0, .ref a)]) rfl ?_
  have main : ∀ n : Nat, (∀ (g : St) (x1 : Int32) (x2 : Int32) , I4 g x1 x2 → μ4 g x1 x2 < n → V p l e rmX4_firstErrorOfWorks s m args below meth c 3 G (frA P sz) (MQ below (QcI G P sz K) args s 0 0 (frA P sz)) 0 0 P [(0, .ref a), (1, .int x1), (2, .int x2)] [] 4 g) := by
    intro n
    induction n with
    | zero => exact fun g x1 x2 hI hm => absurd hm (Nat.not_lt_zero _)
    | succ n ih =>
      intro g x1 x2 hI hm
      have h := h4 g x1 x2 hI
      clear hI
      unfold bX4_firstErrorOfWorks_4 at h
      refine v_iload_n o 2 dX4_firstErrorOfWorks_4 rfl ?_
      refine v_aload_n o 0 dX4_firstErrorOfWorks_5 rfl ?_
      refine v_gfI o lkX4_20 (by decide) (wfText_o ha) dX4_firstErrorOfWorks_6 ?_
      refine v_icmp_ge o (tgt := 35) dX4_firstErrorOfWorks_9 (by decide) (fun c9 => ?_) (fun c9 => ?_)
      · replace h := h.1 c9
        refine v_aload_n o 0 dX4_firstErrorOfWorks_35 rfl ?_
        refine v_gfI o lkX4_20 (by decide) (wfText_o ha) dX4_firstErrorOfWorks_36 ?_
        exact v_iret o rfl hr dX4_firstErrorOfWorks_39 h
      · replace h := h.2 c9
        refine v_iload_n o 1 dX4_firstErrorOfWorks_12 rfl ?_
        refine v_aload_n o 0 dX4_firstErrorOfWorks_13 rfl ?_
        refine v_iload_n o 2 dX4_firstErrorOfWorks_14 rfl ?_
        refine v_cVi o [.int x2] [.int x1] (fun sz => metX4_signAt l G P g sz a ha x2 _ h) (cwX4_32 o.1.2.2.2.2 (by decide)) ⟨_, _, rfl⟩ (by decide) (wfText_o ha) rfl (Nat.le_of_ble_eq_true rfl) ⟨Nat.le_of_ble_eq_true rfl, Nat.le_of_ble_eq_true rfl⟩ dX4_firstErrorOfWorks_15 rfl (fun r15 g15 h => ?_)
        refine v_cSi o [.int x1, .int r15] [] (fun sz => metX4_stateBehind l G P g15 sz x1 r15 _ h) (cwX4_68 o.1.2.2.2.2 (by decide)) rfl (Nat.le_of_ble_eq_true rfl) ⟨Nat.le_of_ble_eq_true rfl, Nat.le_of_ble_eq_true rfl⟩ dX4_firstErrorOfWorks_18 rfl (fun r18 g18 h => ?_)
        refine v_istore_n o (lv' := [(1, .int r18), (0, .ref a), (2, .int x2)]) dX4_firstErrorOfWorks_21 rfl (by decide) rfl ?_
        refine v_iload_n o 0 dX4_firstErrorOfWorks_22 rfl ?_
        refine v_iconst o (v := (-1)) dX4_firstErrorOfWorks_23 (by decide) ?_
        refine v_icmp_ne o (tgt := 29) dX4_firstErrorOfWorks_24 (by decide) (fun c24 => ?_) (fun c24 => ?_)
        · replace h := h.1 c24
          obtain ⟨x2_29, ex2_29⟩ : ∃ y : Int32, y = x2 + 1 := ⟨_, rfl⟩
          replace h := h x2_29 ex2_29
          refine v_iinc o (v := x2_29) (lv' := [(2, .int x2_29), (1, .int r18), (0, .ref a)]) 2 dX4_firstErrorOfWorks_29 rfl (by rw [ex2_29]; rfl) (by decide) rfl ?_
          refine v_goto o (tgt := 4) dX4_firstErrorOfWorks_32 (by decide) ?_
          refine v_sub [2, 1, 0] (lv2 := [(0, .ref a), (1, .int r18), (2, .int x2_29)]) rfl ?_
          exact ih g18 r18 x2_29  h.1 (by have := h.2; omega)
        · replace h := h.2 c24
          refine v_iload_n o 2 dX4_firstErrorOfWorks_27 rfl ?_
          exact v_iret o rfl hr dX4_firstErrorOfWorks_28 h
  unfold vX4_firstErrorOfWorks at h
  refine v_iconst o (v := 0) dX4_firstErrorOfWorks_0 (by decide) ?_
  refine v_istore_n o (lv' := [(1, .int 0), (0, .ref a)]) dX4_firstErrorOfWorks_1 rfl (by decide) rfl ?_
  refine v_iconst o (v := 0) dX4_firstErrorOfWorks_2 (by decide) ?_
  refine v_istore_n o (lv' := [(2, .int 0), (1, .int 0), (0, .ref a)]) dX4_firstErrorOfWorks_3 rfl (by decide) rfl ?_
  refine v_sub [2, 1, 0] (lv2 := [(0, .ref a), (1, .int 0), (2, .int 0)]) rfl ?_
  exact (main (μ4 f 0 0 + 1)) f 0 0  h (Nat.lt_succ_self _)
def kX4_firstErrorOfWorks (P : Sk) (f : St) (a : Nat) (K : Int32 → St → Prop) : Prop := False
theorem metX4_firstErrorOfWorks (l : Launch) (G : Gl) (P : Sk) (f : St) (sz : Nat) (a : Nat) (ha : IsText P a) (K : Int32 → St → Prop) (h : kX4_firstErrorOfWorks P f a K) : Met l yX4_firstErrorOfWorks (wU yX4_firstErrorOfWorks cX4_firstErrorOfWorks 3 (some .int)) rmX4_firstErrorOfWorks (PcW G P f sz [.ref a]) (QcI G P sz K) 0 0 (frA P sz) := sorry

def vX4_partSize (P : Sk) (f : St) (a : Nat) (p1 : Int32) (K : Int32 → St → Prop) : Prop :=
  kX4_signAt P f a p1 (fun r2 g2 => (r2 = 120 → K 4 g2) ∧ (¬ r2 = 120 → (¬ r2 = 106 → K 2 g2) ∧ (r2 = 106 → K 4 g2)))
set_option maxRecDepth 20000 in
set_option maxHeartbeats 4000000 in
theorem mX4_partSize (l : Launch) (G : Gl) (P : Sk) (f : St) (sz : Nat) (a : Nat) (ha : IsText P a) (p1 : Int32) (K : Int32 → St → Prop) (h : vX4_partSize P f a p1 K)  :
  Met l yX4_partSize (wU yX4_partSize cX4_partSize 3 (some .int)) rmX4_partSize (PcW G P f sz [.ref a, .int p1]) (QcI G P sz K) 0 0 (frA P sz) := by
  refine v_met (own := RX4) [.ref a, .int p1] (by decide +kernel) rfl (Nat.le_of_ble_eq_true rfl) (fun p e s m args below meth c hsz o hr hnm => ?_)
  refine v_lv (lv2 := [(0, .ref a), (1, .int p1)]) rfl ?_
  unfold vX4_partSize at h
  refine v_aload_n o 0 dX4_partSize_0 rfl ?_
  refine v_iload_n o 1 dX4_partSize_1 rfl ?_
  refine v_cVi o [.int p1] [] (fun sz => metX4_signAt l G P f sz a ha p1 _ h) (cwX4_32 o.1.2.2.2.2 (by decide)) ⟨_, _, rfl⟩ (by decide) (wfText_o ha) rfl (Nat.le_of_ble_eq_true rfl) ⟨Nat.le_of_ble_eq_true rfl, Nat.le_of_ble_eq_true rfl⟩ dX4_partSize_2 rfl (fun r2 g2 h => ?_)
  refine v_istore_n o (lv' := [(2, .int r2), (0, .ref a), (1, .int p1)]) dX4_partSize_5 rfl (by decide) rfl ?_
  refine v_iload_n o 0 dX4_partSize_6 rfl ?_
  refine v_bipush o (v := 120) dX4_partSize_7 (by decide) ?_
  refine v_icmp_eq o (tgt := 18) dX4_partSize_9 (by decide) (fun c9 => ?_) (fun c9 => ?_)
  · replace h := h.1 c9
    refine v_iconst o (v := 4) dX4_partSize_18 (by decide) ?_
    refine v_goto o (tgt := 23) dX4_partSize_19 (by decide) ?_
    exact v_iret o rfl hr dX4_partSize_23 h
  · replace h := h.2 c9
    refine v_iload_n o 0 dX4_partSize_12 rfl ?_
    refine v_bipush o (v := 106) dX4_partSize_13 (by decide) ?_
    refine v_icmp_ne o (tgt := 22) dX4_partSize_15 (by decide) (fun c15 => ?_) (fun c15 => ?_)
    · replace h := h.1 c15
      refine v_iconst o (v := 2) dX4_partSize_22 (by decide) ?_
      exact v_iret o rfl hr dX4_partSize_23 h
    · replace h := h.2 c15
      refine v_iconst o (v := 4) dX4_partSize_18 (by decide) ?_
      refine v_goto o (tgt := 23) dX4_partSize_19 (by decide) ?_
      exact v_iret o rfl hr dX4_partSize_23 h
abbrev kX4_partSize := @vX4_partSize
abbrev metX4_partSize := @mX4_partSize

def vX4_howAt (P : Sk) (f : St) (a : Nat) (p1 : Int32) (K : Int32 → St → Prop) : Prop :=
  kX4_signAt P f a p1 (fun r2 g2 => (r2 = 108 → K 3 g2) ∧ (¬ r2 = 108 → (r2 = 109 → K 0 g2) ∧ (¬ r2 = 109 → (r2 = 114 → K 2 g2) ∧ (¬ r2 = 114 → (r2 = 116 → K 1 g2) ∧ (¬ r2 = 116 → K (-1) g2)))))
set_option maxRecDepth 20000 in
set_option maxHeartbeats 4000000 in
theorem mX4_howAt (l : Launch) (G : Gl) (P : Sk) (f : St) (sz : Nat) (a : Nat) (ha : IsText P a) (p1 : Int32) (K : Int32 → St → Prop) (h : vX4_howAt P f a p1 K)  :
  Met l yX4_howAt (wU yX4_howAt cX4_howAt 2 (some .int)) rmX4_howAt (PcW G P f sz [.ref a, .int p1]) (QcI G P sz K) 0 0 (frA P sz) := by
  refine v_met (own := RX4) [.ref a, .int p1] (by decide +kernel) rfl (Nat.le_of_ble_eq_true rfl) (fun p e s m args below meth c hsz o hr hnm => ?_)
  refine v_lv (lv2 := [(0, .ref a), (1, .int p1)]) rfl ?_
  unfold vX4_howAt at h
  refine v_aload_n o 0 dX4_howAt_0 rfl ?_
  refine v_iload_n o 1 dX4_howAt_1 rfl ?_
  refine v_cVi o [.int p1] [] (fun sz => metX4_signAt l G P f sz a ha p1 _ h) (cwX4_32 o.1.2.2.2.2 (by decide)) ⟨_, _, rfl⟩ (by decide) (wfText_o ha) rfl (Nat.le_of_ble_eq_true rfl) ⟨Nat.le_of_ble_eq_true rfl, Nat.le_of_ble_eq_true rfl⟩ dX4_howAt_2 rfl (fun r2 g2 h => ?_)
  by_cases c5_108 : r2 = 108
  · replace h := h.1 c5_108
    refine v_tableIn o (off := 57) (tgt := 62) dX4_howAt_5 (by rw [c5_108]; decide) (by rw [c5_108]; decide) (by rw [c5_108]; decide) (by decide) ?_
    refine v_iconst o (v := 3) dX4_howAt_62 (by decide) ?_
    exact v_iret o rfl hr dX4_howAt_63 h
  · replace h := h.2 c5_108
    by_cases c5_109 : r2 = 109
    · replace h := h.1 c5_109
      refine v_tableIn o (off := 51) (tgt := 56) dX4_howAt_5 (by rw [c5_109]; decide) (by rw [c5_109]; decide) (by rw [c5_109]; decide) (by decide) ?_
      refine v_iconst o (v := 0) dX4_howAt_56 (by decide) ?_
      exact v_iret o rfl hr dX4_howAt_57 h
    · replace h := h.2 c5_109
      by_cases c5_114 : r2 = 114
      · replace h := h.1 c5_114
        refine v_tableIn o (off := 55) (tgt := 60) dX4_howAt_5 (by rw [c5_114]; decide) (by rw [c5_114]; decide) (by rw [c5_114]; decide) (by decide) ?_
        refine v_iconst o (v := 2) dX4_howAt_60 (by decide) ?_
        exact v_iret o rfl hr dX4_howAt_61 h
      · replace h := h.2 c5_114
        by_cases c5_116 : r2 = 116
        · replace h := h.1 c5_116
          refine v_tableIn o (off := 53) (tgt := 58) dX4_howAt_5 (by rw [c5_116]; decide) (by rw [c5_116]; decide) (by rw [c5_116]; decide) (by decide) ?_
          refine v_iconst o (v := 1) dX4_howAt_58 (by decide) ?_
          exact v_iret o rfl hr dX4_howAt_59 h
        · replace h := h.2 c5_116
          have D5 : V p l e rmX4_howAt s m args below meth c 2 G (frA P sz) (MQ below (QcI G P sz K) args s 0 0 (frA P sz)) 0 0 P [(0, .ref a), (1, .int p1)] [] 64 g2 := by
            refine v_iconst o (v := (-1)) dX4_howAt_64 (by decide) ?_
            exact v_iret o rfl hr dX4_howAt_65 h
          have E5 : (r2).toInt < 108 ∨ 116 < (r2).toInt ∨ (r2).toInt = 110 ∨ (r2).toInt = 111 ∨ (r2).toInt = 112 ∨ (r2).toInt = 113 ∨ (r2).toInt = 115 := by have q0 := lv_neT c5_108 (a := 108) (by decide); have q1 := lv_neT c5_109 (a := 109) (by decide); have q2 := lv_neT c5_114 (a := 114) (by decide); have q3 := lv_neT c5_116 (a := 116) (by decide); omega
          rcases E5 with E | E | E | E | E | E | E
          · exact v_tableOut o (tgt := 64) dX4_howAt_5 (Or.inl E) (by decide) D5
          · exact v_tableOut o (tgt := 64) dX4_howAt_5 (Or.inr E) (by decide) D5
          · exact v_tableIn o (off := 59) (tgt := 64) dX4_howAt_5 (by rw [E]; decide) (by rw [E]; decide) (by rw [E]; decide) (by decide) D5
          · exact v_tableIn o (off := 59) (tgt := 64) dX4_howAt_5 (by rw [E]; decide) (by rw [E]; decide) (by rw [E]; decide) (by decide) D5
          · exact v_tableIn o (off := 59) (tgt := 64) dX4_howAt_5 (by rw [E]; decide) (by rw [E]; decide) (by rw [E]; decide) (by decide) D5
          · exact v_tableIn o (off := 59) (tgt := 64) dX4_howAt_5 (by rw [E]; decide) (by rw [E]; decide) (by rw [E]; decide) (by decide) D5
          · exact v_tableIn o (off := 59) (tgt := 64) dX4_howAt_5 (by rw [E]; decide) (by rw [E]; decide) (by rw [E]; decide) (by decide) D5
abbrev kX4_howAt := @vX4_howAt
abbrev metX4_howAt := @mX4_howAt

def bX5_doughUsedByAll_4 (P : Sk) (a : Nat) (L4 : St → Int32 → Int32 → Prop) (K : Int32 → St → Prop) (f : St) (x1 : Int32) (x2 : Int32) : Prop :=
  (f a 7 ≤ x2 → K x1 f) ∧ (¬ f a 7 ≤ x2 → kX5_doughUsed P f a x2 (fun r15 g15 => ∀ x1_19 : Int32, x1_19 = x1 + r15 → ∀ x2_20 : Int32, x2_20 = x2 + 1 → L4 g15 x1_19 x2_20))
def vX5_doughUsedByAll (P : Sk) (f : St) (a : Nat) (L4 : St → Int32 → Int32 → Prop) (K : Int32 → St → Prop) : Prop :=
  L4 f 0 0
set_option maxRecDepth 20000 in
set_option maxHeartbeats 4000000 in
theorem mX5_doughUsedByAll (l : Launch) (G : Gl) (P : Sk) (f : St) (sz : Nat) (a : Nat) (ha : IsTrace P a) (K : Int32 → St → Prop) (I4 : St → Int32 → Int32 → Prop) (μ4 : St → Int32 → Int32 → Nat) 
  (h : vX5_doughUsedByAll P f a I4 K)
  (h4 : ∀ (g : St) (x1 : Int32) (x2 : Int32) , I4 g x1 x2 → bX5_doughUsedByAll_4 P a (fun g' z0 z1 => I4 g' z0 z1 ∧ μ4 g' z0 z1 < μ4 g x1 x2) K g x1 x2) :
  Met l yX5_doughUsedByAll (wU yX5_doughUsedByAll cX5_doughUsedByAll 3 (some .int)) rmX5_doughUsedByAll (PcW G P f sz [.ref a]) (QcI G P sz K) 0 0 (frA P sz) := by
  refine v_met (own := RX5) [.ref a] (by decide +kernel) rfl (Nat.le_of_ble_eq_true rfl) (fun p e s m args below meth c hsz o hr hnm => ?_)
  refine v_lv (lv2 := [(0, .ref a)]) rfl ?_
  have main : ∀ n : Nat, (∀ (g : St) (x1 : Int32) (x2 : Int32) , I4 g x1 x2 → μ4 g x1 x2 < n → V p l e rmX5_doughUsedByAll s m args below meth c 3 G (frA P sz) (MQ below (QcI G P sz K) args s 0 0 (frA P sz)) 0 0 P [(0, .ref a), (1, .int x1), (2, .int x2)] [] 4 g) := by
    intro n
    induction n with
    | zero => exact fun g x1 x2 hI hm => absurd hm (Nat.not_lt_zero _)
    | succ n ih =>
      intro g x1 x2 hI hm
      have h := h4 g x1 x2 hI
      clear hI
      unfold bX5_doughUsedByAll_4 at h
      refine v_iload_n o 2 dX5_doughUsedByAll_4 rfl ?_
      refine v_aload_n o 0 dX5_doughUsedByAll_5 rfl ?_
      refine v_gfI o lkX5_38 (by decide) (wfTrace_o ha) dX5_doughUsedByAll_6 ?_
      refine v_icmp_ge o (tgt := 26) dX5_doughUsedByAll_9 (by decide) (fun c9 => ?_) (fun c9 => ?_)
      · replace h := h.1 c9
        refine v_iload_n o 1 dX5_doughUsedByAll_26 rfl ?_
        exact v_iret o rfl hr dX5_doughUsedByAll_27 h
      · replace h := h.2 c9
        refine v_iload_n o 1 dX5_doughUsedByAll_12 rfl ?_
        refine v_aload_n o 0 dX5_doughUsedByAll_13 rfl ?_
        refine v_iload_n o 2 dX5_doughUsedByAll_14 rfl ?_
        refine v_cVi o [.int x2] [.int x1] (fun sz => metX5_doughUsed l G P g sz a ha x2 _ h) (cwX5_75 o.1.2.2.2.2 (by decide)) ⟨_, _, rfl⟩ (by decide) (wfTrace_o ha) rfl (Nat.le_of_ble_eq_true rfl) ⟨Nat.le_of_ble_eq_true rfl, Nat.le_of_ble_eq_true rfl⟩ dX5_doughUsedByAll_15 rfl (fun r15 g15 h => ?_)
        refine v_iadd o dX5_doughUsedByAll_18 ?_
        refine v_topi (fun x1_19 ex1_19 => ?_)
        replace h := h x1_19 ex1_19
        refine v_istore_n o (lv' := [(1, .int x1_19), (0, .ref a), (2, .int x2)]) dX5_doughUsedByAll_19 rfl (by decide) rfl ?_
        obtain ⟨x2_20, ex2_20⟩ : ∃ y : Int32, y = x2 + 1 := ⟨_, rfl⟩
        replace h := h x2_20 ex2_20
        refine v_iinc o (v := x2_20) (lv' := [(2, .int x2_20), (1, .int x1_19), (0, .ref a)]) 2 dX5_doughUsedByAll_20 rfl (by rw [ex2_20]; rfl) (by decide) rfl ?_
        refine v_goto o (tgt := 4) dX5_doughUsedByAll_23 (by decide) ?_
        refine v_sub [2, 1, 0] (lv2 := [(0, .ref a), (1, .int x1_19), (2, .int x2_20)]) rfl ?_
        exact ih g15 x1_19 x2_20  h.1 (by have := h.2; omega)
  unfold vX5_doughUsedByAll at h
  refine v_iconst o (v := 0) dX5_doughUsedByAll_0 (by decide) ?_
  refine v_istore_n o (lv' := [(1, .int 0), (0, .ref a)]) dX5_doughUsedByAll_1 rfl (by decide) rfl ?_
  refine v_iconst o (v := 0) dX5_doughUsedByAll_2 (by decide) ?_
  refine v_istore_n o (lv' := [(2, .int 0), (1, .int 0), (0, .ref a)]) dX5_doughUsedByAll_3 rfl (by decide) rfl ?_
  refine v_sub [2, 1, 0] (lv2 := [(0, .ref a), (1, .int 0), (2, .int 0)]) rfl ?_
  exact (main (μ4 f 0 0 + 1)) f 0 0  h (Nat.lt_succ_self _)
def kX5_doughUsedByAll (P : Sk) (f : St) (a : Nat) (K : Int32 → St → Prop) : Prop := False
theorem metX5_doughUsedByAll (l : Launch) (G : Gl) (P : Sk) (f : St) (sz : Nat) (a : Nat) (ha : IsTrace P a) (K : Int32 → St → Prop) (h : kX5_doughUsedByAll P f a K) : Met l yX5_doughUsedByAll (wU yX5_doughUsedByAll cX5_doughUsedByAll 3 (some .int)) rmX5_doughUsedByAll (PcW G P f sz [.ref a]) (QcI G P sz K) 0 0 (frA P sz) := sorry

def jX5_mostHidden_33 (P : Sk) (a : Nat) (L4 : St → Int32 → Int32 → Prop) (K : Int32 → St → Prop) (x1 : Int32) (x2 : Int32) (f : St) : Prop :=
  ∀ x2_33 : Int32, x2_33 = x2 + 1 → L4 f x1 x2_33
def bX5_mostHidden_4 (P : Sk) (a : Nat) (L4 : St → Int32 → Int32 → Prop) (K : Int32 → St → Prop) (f : St) (x1 : Int32) (x2 : Int32) : Prop :=
  (f a 7 ≤ x2 → K x1 f) ∧ (¬ f a 7 ≤ x2 → kX3_at P f (a + 9) x2 (fun r17 g17 => kX3_at P g17 (a + 9) x1 (fun r25 g25 => (r17 ≤ r25 → jX5_mostHidden_33 P a L4 K x1 x2 g25) ∧ (¬ r17 ≤ r25 → jX5_mostHidden_33 P a L4 K x2 x2 g25))))
def vX5_mostHidden (P : Sk) (f : St) (a : Nat) (L4 : St → Int32 → Int32 → Prop) (K : Int32 → St → Prop) : Prop :=
  L4 f 0 1
set_option maxRecDepth 20000 in
set_option maxHeartbeats 4000000 in
theorem mX5_mostHidden (l : Launch) (G : Gl) (P : Sk) (f : St) (sz : Nat) (a : Nat) (ha : IsTrace P a) (K : Int32 → St → Prop) (I4 : St → Int32 → Int32 → Prop) (μ4 : St → Int32 → Int32 → Nat) 
  (h : vX5_mostHidden P f a I4 K)
  (h4 : ∀ (g : St) (x1 : Int32) (x2 : Int32) , I4 g x1 x2 → bX5_mostHidden_4 P a (fun g' z0 z1 => I4 g' z0 z1 ∧ μ4 g' z0 z1 < μ4 g x1 x2) K g x1 x2) :
  Met l yX5_mostHidden (wU yX5_mostHidden cX5_mostHidden 3 (some .int)) rmX5_mostHidden (PcW G P f sz [.ref a]) (QcI G P sz K) 0 0 (frA P sz) := by
  refine v_met (own := RX5) [.ref a] (by decide +kernel) rfl (Nat.le_of_ble_eq_true rfl) (fun p e s m args below meth c hsz o hr hnm => ?_)
  refine v_lv (lv2 := [(0, .ref a)]) rfl ?_
  have main : ∀ n : Nat, (∀ (g : St) (x1 : Int32) (x2 : Int32) , I4 g x1 x2 → μ4 g x1 x2 < n → V p l e rmX5_mostHidden s m args below meth c 3 G (frA P sz) (MQ below (QcI G P sz K) args s 0 0 (frA P sz)) 0 0 P [(0, .ref a), (1, .int x1), (2, .int x2)] [] 4 g) := by
    intro n
    induction n with
    | zero => exact fun g x1 x2 hI hm => absurd hm (Nat.not_lt_zero _)
    | succ n ih =>
      intro g x1 x2 hI hm
      have h := h4 g x1 x2 hI
      clear hI
      have J33 : ∀ (x1_33 : Int32) (x2_33 : Int32) (g33 : St), jX5_mostHidden_33 P a (fun g' z0 z1 => I4 g' z0 z1 ∧ μ4 g' z0 z1 < μ4 g x1 x2) K x1_33 x2_33 g33 → V p l e rmX5_mostHidden s m args below meth c 3 G (frA P sz) (MQ below (QcI G P sz K) args s 0 0 (frA P sz)) 0 0 P [(0, .ref a), (1, .int x1_33), (2, .int x2_33)] [] 33 g33 := by
        intro x1_33 x2_33 g33  h
        unfold jX5_mostHidden_33 at h
        obtain ⟨x2_33, ex2_33⟩ : ∃ y : Int32, y = x2_33 + 1 := ⟨_, rfl⟩
        replace h := h x2_33 ex2_33
        refine v_iinc o (v := x2_33) (lv' := [(2, .int x2_33), (0, .ref a), (1, .int x1_33)]) 2 dX5_mostHidden_33 rfl (by rw [ex2_33]; rfl) (by decide) rfl ?_
        refine v_goto o (tgt := 4) dX5_mostHidden_36 (by decide) ?_
        refine v_sub [1, 2, 0] (lv2 := [(0, .ref a), (1, .int x1_33), (2, .int x2_33)]) rfl ?_
        exact ih g33 x1_33 x2_33  h.1 (by have := h.2; omega)
      unfold bX5_mostHidden_4 at h
      refine v_iload_n o 2 dX5_mostHidden_4 rfl ?_
      refine v_aload_n o 0 dX5_mostHidden_5 rfl ?_
      refine v_gfI o lkX5_38 (by decide) (wfTrace_o ha) dX5_mostHidden_6 ?_
      refine v_icmp_ge o (tgt := 39) dX5_mostHidden_9 (by decide) (fun c9 => ?_) (fun c9 => ?_)
      · replace h := h.1 c9
        refine v_iload_n o 1 dX5_mostHidden_39 rfl ?_
        exact v_iret o rfl hr dX5_mostHidden_40 h
      · replace h := h.2 c9
        refine v_aload_n o 0 dX5_mostHidden_12 rfl ?_
        refine v_gfR o lkX5_29 (by decide) (wfTrace_o ha) (wfTrace_r4 ha) dX5_mostHidden_13 ?_
        refine v_iload_n o 2 dX5_mostHidden_16 rfl ?_
        refine v_cVi o [.int x2] [] (fun sz => metX3_at l G P g sz (a + 9) (wfTrace_t4 ha) x2 _ h) (cwX5_61 o.1.2.2.2.2 (by decide)) ⟨_, _, rfl⟩ (by decide) (wfRow_o (wfTrace_t4 ha)) rfl (Nat.le_of_ble_eq_true rfl) ⟨Nat.le_of_ble_eq_true rfl, Nat.le_of_ble_eq_true rfl⟩ dX5_mostHidden_17 rfl (fun r17 g17 h => ?_)
        refine v_aload_n o 0 dX5_mostHidden_20 rfl ?_
        refine v_gfR o lkX5_29 (by decide) (wfTrace_o ha) (wfTrace_r4 ha) dX5_mostHidden_21 ?_
        refine v_iload_n o 1 dX5_mostHidden_24 rfl ?_
        refine v_cVi o [.int x1] [.int r17] (fun sz => metX3_at l G P g17 sz (a + 9) (wfTrace_t4 ha) x1 _ h) (cwX5_61 o.1.2.2.2.2 (by decide)) ⟨_, _, rfl⟩ (by decide) (wfRow_o (wfTrace_t4 ha)) rfl (Nat.le_of_ble_eq_true rfl) ⟨Nat.le_of_ble_eq_true rfl, Nat.le_of_ble_eq_true rfl⟩ dX5_mostHidden_25 rfl (fun r25 g25 h => ?_)
        refine v_icmp_le o (tgt := 33) dX5_mostHidden_28 (by decide) (fun c28 => ?_) (fun c28 => ?_)
        · replace h := h.1 c28
          refine v_sub [0, 1, 2] (lv2 := [(0, .ref a), (1, .int x1), (2, .int x2)]) rfl ?_
          exact J33 x1 x2 g25  h
        · replace h := h.2 c28
          refine v_iload_n o 2 dX5_mostHidden_31 rfl ?_
          refine v_istore_n o (lv' := [(1, .int x2), (0, .ref a), (2, .int x2)]) dX5_mostHidden_32 rfl (by decide) rfl ?_
          refine v_sub [1, 0, 2] (lv2 := [(0, .ref a), (1, .int x2), (2, .int x2)]) rfl ?_
          exact J33 x2 x2 g25  h
  unfold vX5_mostHidden at h
  refine v_iconst o (v := 0) dX5_mostHidden_0 (by decide) ?_
  refine v_istore_n o (lv' := [(1, .int 0), (0, .ref a)]) dX5_mostHidden_1 rfl (by decide) rfl ?_
  refine v_iconst o (v := 1) dX5_mostHidden_2 (by decide) ?_
  refine v_istore_n o (lv' := [(2, .int 1), (1, .int 0), (0, .ref a)]) dX5_mostHidden_3 rfl (by decide) rfl ?_
  refine v_sub [2, 1, 0] (lv2 := [(0, .ref a), (1, .int 0), (2, .int 1)]) rfl ?_
  exact (main (μ4 f 0 1 + 1)) f 0 1  h (Nat.lt_succ_self _)
def kX5_mostHidden (P : Sk) (f : St) (a : Nat) (K : Int32 → St → Prop) : Prop := False
theorem metX5_mostHidden (l : Launch) (G : Gl) (P : Sk) (f : St) (sz : Nat) (a : Nat) (ha : IsTrace P a) (K : Int32 → St → Prop) (h : kX5_mostHidden P f a K) : Met l yX5_mostHidden (wU yX5_mostHidden cX5_mostHidden 3 (some .int)) rmX5_mostHidden (PcW G P f sz [.ref a]) (QcI G P sz K) 0 0 (frA P sz) := sorry

def bX5_areAllHome_2 (P : Sk) (a : Nat) (L2 : St → Int32 → Prop) (K : Int32 → St → Prop) (f : St) (x1 : Int32) : Prop :=
  (f a 7 ≤ x1 → K 1 f) ∧ (¬ f a 7 ≤ x1 → kX3_at P f (a + 7) x1 (fun r15 g15 => (r15 = x1 → ∀ x1_24 : Int32, x1_24 = x1 + 1 → L2 g15 x1_24) ∧ (¬ r15 = x1 → K 0 g15)))
def vX5_areAllHome (P : Sk) (f : St) (a : Nat) (L2 : St → Int32 → Prop) (K : Int32 → St → Prop) : Prop :=
  L2 f 0
set_option maxRecDepth 20000 in
set_option maxHeartbeats 4000000 in
theorem mX5_areAllHome (l : Launch) (G : Gl) (P : Sk) (f : St) (sz : Nat) (a : Nat) (ha : IsTrace P a) (K : Int32 → St → Prop) (I2 : St → Int32 → Prop) (μ2 : St → Int32 → Nat) 
  (h : vX5_areAllHome P f a I2 K)
  (h2 : ∀ (g : St) (x1 : Int32) , I2 g x1 → bX5_areAllHome_2 P a (fun g' z0 => I2 g' z0 ∧ μ2 g' z0 < μ2 g x1) K g x1) :
  Met l yX5_areAllHome (wU yX5_areAllHome cX5_areAllHome 2 (some .boolean)) rmX5_areAllHome (PcW G P f sz [.ref a]) (QcI G P sz K) 0 0 (frA P sz) := by
  refine v_met (own := RX5) [.ref a] (by decide +kernel) rfl (Nat.le_of_ble_eq_true rfl) (fun p e s m args below meth c hsz o hr hnm => ?_)
  refine v_lv (lv2 := [(0, .ref a)]) rfl ?_
  have main : ∀ n : Nat, (∀ (g : St) (x1 : Int32) , I2 g x1 → μ2 g x1 < n → V p l e rmX5_areAllHome s m args below meth c 2 G (frA P sz) (MQ below (QcI G P sz K) args s 0 0 (frA P sz)) 0 0 P [(0, .ref a), (1, .int x1)] [] 2 g) := by
    intro n
    induction n with
    | zero => exact fun g x1 hI hm => absurd hm (Nat.not_lt_zero _)
    | succ n ih =>
      intro g x1 hI hm
      have h := h2 g x1 hI
      clear hI
      unfold bX5_areAllHome_2 at h
      refine v_iload_n o 1 dX5_areAllHome_2 rfl ?_
      refine v_aload_n o 0 dX5_areAllHome_3 rfl ?_
      refine v_gfI o lkX5_38 (by decide) (wfTrace_o ha) dX5_areAllHome_4 ?_
      refine v_icmp_ge o (tgt := 30) dX5_areAllHome_7 (by decide) (fun c7 => ?_) (fun c7 => ?_)
      · replace h := h.1 c7
        refine v_iconst o (v := 1) dX5_areAllHome_30 (by decide) ?_
        exact v_zret o rfl hr bz1.1 dX5_areAllHome_31 h
      · replace h := h.2 c7
        refine v_aload_n o 0 dX5_areAllHome_10 rfl ?_
        refine v_gfR o lkX5_26 (by decide) (wfTrace_o ha) (wfTrace_r3 ha) dX5_areAllHome_11 ?_
        refine v_iload_n o 1 dX5_areAllHome_14 rfl ?_
        refine v_cVi o [.int x1] [] (fun sz => metX3_at l G P g sz (a + 7) (wfTrace_t3 ha) x1 _ h) (cwX5_61 o.1.2.2.2.2 (by decide)) ⟨_, _, rfl⟩ (by decide) (wfRow_o (wfTrace_t3 ha)) rfl (Nat.le_of_ble_eq_true rfl) ⟨Nat.le_of_ble_eq_true rfl, Nat.le_of_ble_eq_true rfl⟩ dX5_areAllHome_15 rfl (fun r15 g15 h => ?_)
        refine v_iload_n o 1 dX5_areAllHome_18 rfl ?_
        refine v_icmp_eq o (tgt := 24) dX5_areAllHome_19 (by decide) (fun c19 => ?_) (fun c19 => ?_)
        · replace h := h.1 c19
          obtain ⟨x1_24, ex1_24⟩ : ∃ y : Int32, y = x1 + 1 := ⟨_, rfl⟩
          replace h := h x1_24 ex1_24
          refine v_iinc o (v := x1_24) (lv' := [(1, .int x1_24), (0, .ref a)]) 1 dX5_areAllHome_24 rfl (by rw [ex1_24]; rfl) (by decide) rfl ?_
          refine v_goto o (tgt := 2) dX5_areAllHome_27 (by decide) ?_
          refine v_sub [1, 0] (lv2 := [(0, .ref a), (1, .int x1_24)]) rfl ?_
          exact ih g15 x1_24  h.1 (by have := h.2; omega)
        · replace h := h.2 c19
          refine v_iconst o (v := 0) dX5_areAllHome_22 (by decide) ?_
          exact v_zret o rfl hr bz0.1 dX5_areAllHome_23 h
  unfold vX5_areAllHome at h
  refine v_iconst o (v := 0) dX5_areAllHome_0 (by decide) ?_
  refine v_istore_n o (lv' := [(1, .int 0), (0, .ref a)]) dX5_areAllHome_1 rfl (by decide) rfl ?_
  refine v_sub [1, 0] (lv2 := [(0, .ref a), (1, .int 0)]) rfl ?_
  exact (main (μ2 f 0 + 1)) f 0  h (Nat.lt_succ_self _)
def kX5_areAllHome (P : Sk) (f : St) (a : Nat) (K : Int32 → St → Prop) : Prop := False
theorem metX5_areAllHome (l : Launch) (G : Gl) (P : Sk) (f : St) (sz : Nat) (a : Nat) (ha : IsTrace P a) (K : Int32 → St → Prop) (h : kX5_areAllHome P f a K) : Met l yX5_areAllHome (wU yX5_areAllHome cX5_areAllHome 2 (some .boolean)) rmX5_areAllHome (PcW G P f sz [.ref a]) (QcI G P sz K) 0 0 (frA P sz) := sorry

def jX5_ringsByGoingRound_73 (P : Sk) (a : Nat) (L6 : St → Int32 → Int32 → Int32 → Prop) (L31 : St → Int32 → Int32 → Int32 → Int32 → Int32 → Prop) (K : Int32 → St → Prop) (x1 : Int32) (x2 : Int32) (x3 : Int32) (x4 : Int32) (x5 : Int32) (f : St) : Prop :=
  ∀ x3_73 : Int32, x3_73 = x3 + 1 → L6 f x1 x2 x3_73
def jX5_ringsByGoingRound_25 (P : Sk) (a : Nat) (L6 : St → Int32 → Int32 → Int32 → Prop) (L31 : St → Int32 → Int32 → Int32 → Int32 → Int32 → Prop) (K : Int32 → St → Prop) (x1 : Int32) (x2 : Int32) (x3 : Int32) (f : St) : Prop :=
  L31 f x1 x2 x3 x3 0
def bX5_ringsByGoingRound_6 (P : Sk) (a : Nat) (L6 : St → Int32 → Int32 → Int32 → Prop) (L31 : St → Int32 → Int32 → Int32 → Int32 → Int32 → Prop) (K : Int32 → St → Prop) (f : St) (x1 : Int32) (x2 : Int32) (x3 : Int32) : Prop :=
  (f a 7 ≤ x3 → K x1 f) ∧ (¬ f a 7 ≤ x3 → (¬ x2 &&& (1 <<< (x3 &&& 31)) = 0 → jX5_ringsByGoingRound_25 P a L6 L31 K x1 x2 x3 f) ∧ (x2 &&& (1 <<< (x3 &&& 31)) = 0 → ∀ x1_22 : Int32, x1_22 = x1 + 1 → jX5_ringsByGoingRound_25 P a L6 L31 K x1_22 x2 x3 f))
def bX5_ringsByGoingRound_31 (P : Sk) (a : Nat) (L6 : St → Int32 → Int32 → Int32 → Prop) (L31 : St → Int32 → Int32 → Int32 → Int32 → Int32 → Prop) (K : Int32 → St → Prop) (f : St) (x1 : Int32) (x2 : Int32) (x3 : Int32) (x4 : Int32) (x5 : Int32) : Prop :=
  (f a 7 ≤ x5 → jX5_ringsByGoingRound_73 P a L6 L31 K x1 x2 x3 x4 x5 f) ∧ (¬ f a 7 ≤ x5 → (¬ x2 &&& (1 <<< (x4 &&& 31)) = 0 → jX5_ringsByGoingRound_73 P a L6 L31 K x1 x2 x3 x4 x5 f) ∧ (x2 &&& (1 <<< (x4 &&& 31)) = 0 → ∀ x2_55 : Int32, x2_55 = x2 ||| (1 <<< (x4 &&& 31)) → kX3_at P f (a + 7) x4 (fun r62 g62 => ∀ x5_67 : Int32, x5_67 = x5 + 1 → L31 g62 x1 x2_55 x3 r62 x5_67)))
def vX5_ringsByGoingRound (P : Sk) (f : St) (a : Nat) (L6 : St → Int32 → Int32 → Int32 → Prop) (L31 : St → Int32 → Int32 → Int32 → Int32 → Int32 → Prop) (K : Int32 → St → Prop) : Prop :=
  L6 f 0 0 0
set_option maxRecDepth 20000 in
set_option maxHeartbeats 4000000 in
theorem mX5_ringsByGoingRound (l : Launch) (G : Gl) (P : Sk) (f : St) (sz : Nat) (a : Nat) (ha : IsTrace P a) (K : Int32 → St → Prop) (I6 : St → Int32 → Int32 → Int32 → Prop) (μ6 : St → Int32 → Int32 → Int32 → Nat) (I31 : St → Int32 → Int32 → Int32 → Int32 → Int32 → Prop) (μ31 : St → Int32 → Int32 → Int32 → Int32 → Int32 → Nat) 
  (h : vX5_ringsByGoingRound P f a I6 I31 K)
  (h6 : ∀ (g : St) (x1 : Int32) (x2 : Int32) (x3 : Int32) , I6 g x1 x2 x3 → bX5_ringsByGoingRound_6 P a (fun g' z0 z1 z2 => I6 g' z0 z1 z2 ∧ μ6 g' z0 z1 z2 < μ6 g x1 x2 x3) (fun g' z0 z1 z2 z3 z4 => I31 g' z0 z1 z2 z3 z4 ∧ μ31 g' z0 z1 z2 z3 z4 < μ6 g x1 x2 x3) K g x1 x2 x3)
  (h31 : ∀ (g : St) (x1 : Int32) (x2 : Int32) (x3 : Int32) (x4 : Int32) (x5 : Int32) , I31 g x1 x2 x3 x4 x5 → bX5_ringsByGoingRound_31 P a (fun g' z0 z1 z2 => I6 g' z0 z1 z2 ∧ μ6 g' z0 z1 z2 < μ31 g x1 x2 x3 x4 x5) (fun g' z0 z1 z2 z3 z4 => I31 g' z0 z1 z2 z3 z4 ∧ μ31 g' z0 z1 z2 z3 z4 < μ31 g x1 x2 x3 x4 x5) K g x1 x2 x3 x4 x5) :
  Met l yX5_ringsByGoingRound (wU yX5_ringsByGoingRound cX5_ringsByGoingRound 6 (some .int)) rmX5_ringsByGoingRound (PcW G P f sz [.ref a]) (QcI G P sz K) 0 0 (frA P sz) := by
  refine v_met (own := RX5) [.ref a] (by decide +kernel) rfl (Nat.le_of_ble_eq_true rfl) (fun p e s m args below meth c hsz o hr hnm => ?_)
  refine v_lv (lv2 := [(0, .ref a)]) rfl ?_
  have main : ∀ n : Nat, (∀ (g : St) (x1 : Int32) (x2 : Int32) (x3 : Int32) , I6 g x1 x2 x3 → μ6 g x1 x2 x3 < n → V p l e rmX5_ringsByGoingRound s m args below meth c 6 G (frA P sz) (MQ below (QcI G P sz K) args s 0 0 (frA P sz)) 0 0 P [(0, .ref a), (1, .int x1), (2, .int x2), (3, .int x3)] [] 6 g) ∧ (∀ (g : St) (x1 : Int32) (x2 : Int32) (x3 : Int32) (x4 : Int32) (x5 : Int32) , I31 g x1 x2 x3 x4 x5 → μ31 g x1 x2 x3 x4 x5 < n → V p l e rmX5_ringsByGoingRound s m args below meth c 6 G (frA P sz) (MQ below (QcI G P sz K) args s 0 0 (frA P sz)) 0 0 P [(0, .ref a), (1, .int x1), (2, .int x2), (3, .int x3), (4, .int x4), (5, .int x5)] [] 31 g) := by
    intro n
    induction n with
    | zero => exact ⟨fun g x1 x2 x3 hI hm => absurd hm (Nat.not_lt_zero _), fun g x1 x2 x3 x4 x5 hI hm => absurd hm (Nat.not_lt_zero _)⟩
    | succ n ih =>
      refine ⟨?_, ?_⟩
      · intro g x1 x2 x3 hI hm
        have h := h6 g x1 x2 x3 hI
        clear hI
        have J25 : ∀ (x1_25 : Int32) (x2_25 : Int32) (x3_25 : Int32) (g25 : St), jX5_ringsByGoingRound_25 P a (fun g' z0 z1 z2 => I6 g' z0 z1 z2 ∧ μ6 g' z0 z1 z2 < μ6 g x1 x2 x3) (fun g' z0 z1 z2 z3 z4 => I31 g' z0 z1 z2 z3 z4 ∧ μ31 g' z0 z1 z2 z3 z4 < μ6 g x1 x2 x3) K x1_25 x2_25 x3_25 g25 → V p l e rmX5_ringsByGoingRound s m args below meth c 6 G (frA P sz) (MQ below (QcI G P sz K) args s 0 0 (frA P sz)) 0 0 P [(0, .ref a), (1, .int x1_25), (2, .int x2_25), (3, .int x3_25)] [] 25 g25 := by
          intro x1_25 x2_25 x3_25 g25  h
          unfold jX5_ringsByGoingRound_25 at h
          refine v_iload_n o 3 dX5_ringsByGoingRound_25 rfl ?_
          refine v_istore o (lv' := [(4, .int x3_25), (0, .ref a), (1, .int x1_25), (2, .int x2_25), (3, .int x3_25)]) dX5_ringsByGoingRound_26 (by decide) rfl ?_
          refine v_iconst o (v := 0) dX5_ringsByGoingRound_28 (by decide) ?_
          refine v_istore o (lv' := [(5, .int 0), (4, .int x3_25), (0, .ref a), (1, .int x1_25), (2, .int x2_25), (3, .int x3_25)]) dX5_ringsByGoingRound_29 (by decide) rfl ?_
          refine v_sub [2, 3, 4, 5, 1, 0] (lv2 := [(0, .ref a), (1, .int x1_25), (2, .int x2_25), (3, .int x3_25), (4, .int x3_25), (5, .int 0)]) rfl ?_
          exact ih.2 g25 x1_25 x2_25 x3_25 x3_25 0  h.1 (by have := h.2; omega)
        unfold bX5_ringsByGoingRound_6 at h
        refine v_iload_n o 3 dX5_ringsByGoingRound_6 rfl ?_
        refine v_aload_n o 0 dX5_ringsByGoingRound_7 rfl ?_
        refine v_gfI o lkX5_38 (by decide) (wfTrace_o ha) dX5_ringsByGoingRound_8 ?_
        refine v_icmp_ge o (tgt := 79) dX5_ringsByGoingRound_11 (by decide) (fun c11 => ?_) (fun c11 => ?_)
        · replace h := h.1 c11
          refine v_iload_n o 1 dX5_ringsByGoingRound_79 rfl ?_
          exact v_iret o rfl hr dX5_ringsByGoingRound_80 h
        · replace h := h.2 c11
          refine v_iload_n o 2 dX5_ringsByGoingRound_14 rfl ?_
          refine v_iconst o (v := 1) dX5_ringsByGoingRound_15 (by decide) ?_
          refine v_iload_n o 3 dX5_ringsByGoingRound_16 rfl ?_
          refine v_ishl o dX5_ringsByGoingRound_17 ?_
          refine v_iand o dX5_ringsByGoingRound_18 ?_
          refine v_if_ne o (tgt := 25) dX5_ringsByGoingRound_19 (by decide) (fun c19 => ?_) (fun c19 => ?_)
          · replace h := h.1 c19
            refine v_sub [0, 1, 2, 3] (lv2 := [(0, .ref a), (1, .int x1), (2, .int x2), (3, .int x3)]) rfl ?_
            exact J25 x1 x2 x3 g  h
          · replace h := h.2 c19
            obtain ⟨x1_22, ex1_22⟩ : ∃ y : Int32, y = x1 + 1 := ⟨_, rfl⟩
            replace h := h x1_22 ex1_22
            refine v_iinc o (v := x1_22) (lv' := [(1, .int x1_22), (0, .ref a), (2, .int x2), (3, .int x3)]) 1 dX5_ringsByGoingRound_22 rfl (by rw [ex1_22]; rfl) (by decide) rfl ?_
            refine v_sub [1, 0, 2, 3] (lv2 := [(0, .ref a), (1, .int x1_22), (2, .int x2), (3, .int x3)]) rfl ?_
            exact J25 x1_22 x2 x3 g  h
      · intro g x1 x2 x3 x4 x5 hI hm
        have h := h31 g x1 x2 x3 x4 x5 hI
        clear hI
        have J73 : ∀ (x1_73 : Int32) (x2_73 : Int32) (x3_73 : Int32) (x4_73 : Int32) (x5_73 : Int32) (g73 : St), jX5_ringsByGoingRound_73 P a (fun g' z0 z1 z2 => I6 g' z0 z1 z2 ∧ μ6 g' z0 z1 z2 < μ31 g x1 x2 x3 x4 x5) (fun g' z0 z1 z2 z3 z4 => I31 g' z0 z1 z2 z3 z4 ∧ μ31 g' z0 z1 z2 z3 z4 < μ31 g x1 x2 x3 x4 x5) K x1_73 x2_73 x3_73 x4_73 x5_73 g73 → V p l e rmX5_ringsByGoingRound s m args below meth c 6 G (frA P sz) (MQ below (QcI G P sz K) args s 0 0 (frA P sz)) 0 0 P [(0, .ref a), (1, .int x1_73), (2, .int x2_73), (3, .int x3_73), (4, .int x4_73), (5, .int x5_73)] [] 73 g73 := by
          intro x1_73 x2_73 x3_73 x4_73 x5_73 g73  h
          unfold jX5_ringsByGoingRound_73 at h
          obtain ⟨x3_73, ex3_73⟩ : ∃ y : Int32, y = x3_73 + 1 := ⟨_, rfl⟩
          replace h := h x3_73 ex3_73
          refine v_iinc o (v := x3_73) (lv' := [(3, .int x3_73), (0, .ref a), (1, .int x1_73), (2, .int x2_73), (4, .int x4_73), (5, .int x5_73)]) 3 dX5_ringsByGoingRound_73 rfl (by rw [ex3_73]; rfl) (by decide) rfl ?_
          refine v_goto o (tgt := 6) dX5_ringsByGoingRound_76 (by decide) ?_
          refine v_sub [1, 2, 3, 0] (lv2 := [(0, .ref a), (1, .int x1_73), (2, .int x2_73), (3, .int x3_73)]) rfl ?_
          exact ih.1 g73 x1_73 x2_73 x3_73  h.1 (by have := h.2; omega)
        unfold bX5_ringsByGoingRound_31 at h
        refine v_iload o 5 dX5_ringsByGoingRound_31 rfl ?_
        refine v_aload_n o 0 dX5_ringsByGoingRound_33 rfl ?_
        refine v_gfI o lkX5_38 (by decide) (wfTrace_o ha) dX5_ringsByGoingRound_34 ?_
        refine v_icmp_ge o (tgt := 73) dX5_ringsByGoingRound_37 (by decide) (fun c37 => ?_) (fun c37 => ?_)
        · replace h := h.1 c37
          refine v_sub [0, 1, 2, 3, 4, 5] (lv2 := [(0, .ref a), (1, .int x1), (2, .int x2), (3, .int x3), (4, .int x4), (5, .int x5)]) rfl ?_
          exact J73 x1 x2 x3 x4 x5 g  h
        · replace h := h.2 c37
          refine v_iload_n o 2 dX5_ringsByGoingRound_40 rfl ?_
          refine v_iconst o (v := 1) dX5_ringsByGoingRound_41 (by decide) ?_
          refine v_iload o 4 dX5_ringsByGoingRound_42 rfl ?_
          refine v_ishl o dX5_ringsByGoingRound_44 ?_
          refine v_iand o dX5_ringsByGoingRound_45 ?_
          refine v_if_ne o (tgt := 73) dX5_ringsByGoingRound_46 (by decide) (fun c46 => ?_) (fun c46 => ?_)
          · replace h := h.1 c46
            refine v_sub [0, 1, 2, 3, 4, 5] (lv2 := [(0, .ref a), (1, .int x1), (2, .int x2), (3, .int x3), (4, .int x4), (5, .int x5)]) rfl ?_
            exact J73 x1 x2 x3 x4 x5 g  h
          · replace h := h.2 c46
            refine v_iload_n o 2 dX5_ringsByGoingRound_49 rfl ?_
            refine v_iconst o (v := 1) dX5_ringsByGoingRound_50 (by decide) ?_
            refine v_iload o 4 dX5_ringsByGoingRound_51 rfl ?_
            refine v_ishl o dX5_ringsByGoingRound_53 ?_
            refine v_ior o dX5_ringsByGoingRound_54 ?_
            refine v_topi (fun x2_55 ex2_55 => ?_)
            replace h := h x2_55 ex2_55
            refine v_istore_n o (lv' := [(2, .int x2_55), (0, .ref a), (1, .int x1), (3, .int x3), (4, .int x4), (5, .int x5)]) dX5_ringsByGoingRound_55 rfl (by decide) rfl ?_
            refine v_aload_n o 1 dX5_ringsByGoingRound_56 rfl ?_
            refine v_gfR o lkX5_26 (by decide) (wfTrace_o ha) (wfTrace_r3 ha) dX5_ringsByGoingRound_57 ?_
            refine v_iload o 4 dX5_ringsByGoingRound_60 rfl ?_
            refine v_cVi o [.int x4] [] (fun sz => metX3_at l G P g sz (a + 7) (wfTrace_t3 ha) x4 _ h) (cwX5_61 o.1.2.2.2.2 (by decide)) ⟨_, _, rfl⟩ (by decide) (wfRow_o (wfTrace_t3 ha)) rfl (Nat.le_of_ble_eq_true rfl) ⟨Nat.le_of_ble_eq_true rfl, Nat.le_of_ble_eq_true rfl⟩ dX5_ringsByGoingRound_62 rfl (fun r62 g62 h => ?_)
            refine v_istore o (lv' := [(4, .int r62), (2, .int x2_55), (0, .ref a), (1, .int x1), (3, .int x3), (5, .int x5)]) dX5_ringsByGoingRound_65 (by decide) rfl ?_
            obtain ⟨x5_67, ex5_67⟩ : ∃ y : Int32, y = x5 + 1 := ⟨_, rfl⟩
            replace h := h x5_67 ex5_67
            refine v_iinc o (v := x5_67) (lv' := [(5, .int x5_67), (4, .int r62), (2, .int x2_55), (0, .ref a), (1, .int x1), (3, .int x3)]) 5 dX5_ringsByGoingRound_67 rfl (by rw [ex5_67]; rfl) (by decide) rfl ?_
            refine v_goto o (tgt := 31) dX5_ringsByGoingRound_70 (by decide) ?_
            refine v_sub [3, 4, 2, 5, 1, 0] (lv2 := [(0, .ref a), (1, .int x1), (2, .int x2_55), (3, .int x3), (4, .int r62), (5, .int x5_67)]) rfl ?_
            exact ih.2 g62 x1 x2_55 x3 r62 x5_67  h.1 (by have := h.2; omega)
  unfold vX5_ringsByGoingRound at h
  refine v_iconst o (v := 0) dX5_ringsByGoingRound_0 (by decide) ?_
  refine v_istore_n o (lv' := [(1, .int 0), (0, .ref a)]) dX5_ringsByGoingRound_1 rfl (by decide) rfl ?_
  refine v_iconst o (v := 0) dX5_ringsByGoingRound_2 (by decide) ?_
  refine v_istore_n o (lv' := [(2, .int 0), (1, .int 0), (0, .ref a)]) dX5_ringsByGoingRound_3 rfl (by decide) rfl ?_
  refine v_iconst o (v := 0) dX5_ringsByGoingRound_4 (by decide) ?_
  refine v_istore_n o (lv' := [(3, .int 0), (2, .int 0), (1, .int 0), (0, .ref a)]) dX5_ringsByGoingRound_5 rfl (by decide) rfl ?_
  refine v_sub [3, 2, 1, 0] (lv2 := [(0, .ref a), (1, .int 0), (2, .int 0), (3, .int 0)]) rfl ?_
  exact (main (μ6 f 0 0 0 + 1)).1 f 0 0 0  h (Nat.lt_succ_self _)
def kX5_ringsByGoingRound (P : Sk) (f : St) (a : Nat) (K : Int32 → St → Prop) : Prop := False
theorem metX5_ringsByGoingRound (l : Launch) (G : Gl) (P : Sk) (f : St) (sz : Nat) (a : Nat) (ha : IsTrace P a) (K : Int32 → St → Prop) (h : kX5_ringsByGoingRound P f a K) : Met l yX5_ringsByGoingRound (wU yX5_ringsByGoingRound cX5_ringsByGoingRound 6 (some .int)) rmX5_ringsByGoingRound (PcW G P f sz [.ref a]) (QcI G P sz K) 0 0 (frA P sz) := sorry

def jX5_renameRing_31 (P : Sk) (a : Nat) (p1 : Int32) (p2 : Int32) (L2 : St → Int32 → Prop) (K : St → Prop) (x3 : Int32) (f : St) : Prop :=
  ∀ x3_31 : Int32, x3_31 = x3 + 1 → L2 f x3_31
def bX5_renameRing_2 (P : Sk) (a : Nat) (p1 : Int32) (p2 : Int32) (L2 : St → Int32 → Prop) (K : St → Prop) (f : St) (x3 : Int32) : Prop :=
  (f a 7 ≤ x3 → K f) ∧ (¬ f a 7 ≤ x3 → kX3_at P f (a + 13) x3 (fun r15 g15 => (¬ r15 = p1 → jX5_renameRing_31 P a p1 p2 L2 K x3 g15) ∧ (r15 = p1 → kX3_put P g15 (a + 13) x3 p2 (fun g28 => jX5_renameRing_31 P a p1 p2 L2 K x3 g28))))
def vX5_renameRing (P : Sk) (f : St) (a : Nat) (p1 : Int32) (p2 : Int32) (L2 : St → Int32 → Prop) (K : St → Prop) : Prop :=
  L2 f 0
set_option maxRecDepth 20000 in
set_option maxHeartbeats 4000000 in
theorem mX5_renameRing (l : Launch) (G : Gl) (P : Sk) (f : St) (sz : Nat) (a : Nat) (ha : IsTrace P a) (p1 : Int32) (p2 : Int32) (K : St → Prop) (I2 : St → Int32 → Prop) (μ2 : St → Int32 → Nat) 
  (h : vX5_renameRing P f a p1 p2 I2 K)
  (h2 : ∀ (g : St) (x3 : Int32) , I2 g x3 → bX5_renameRing_2 P a p1 p2 (fun g' z0 => I2 g' z0 ∧ μ2 g' z0 < μ2 g x3) K g x3) :
  Met l yX5_renameRing (wU yX5_renameRing cX5_renameRing 4 none) rmX5_renameRing (PcW G P f sz [.ref a, .int p1, .int p2]) (QcV G P sz K) 0 0 (frA P sz) := by
  refine v_met (own := RX5) [.ref a, .int p1, .int p2] (by decide +kernel) rfl (Nat.le_of_ble_eq_true rfl) (fun p e s m args below meth c hsz o hr hnm => ?_)
  refine v_lv (lv2 := [(0, .ref a), (1, .int p1), (2, .int p2)]) rfl ?_
  have main : ∀ n : Nat, (∀ (g : St) (x3 : Int32) , I2 g x3 → μ2 g x3 < n → V p l e rmX5_renameRing s m args below meth c 4 G (frA P sz) (MQ below (QcV G P sz K) args s 0 0 (frA P sz)) 0 0 P [(0, .ref a), (1, .int p1), (2, .int p2), (3, .int x3)] [] 2 g) := by
    intro n
    induction n with
    | zero => exact fun g x3 hI hm => absurd hm (Nat.not_lt_zero _)
    | succ n ih =>
      intro g x3 hI hm
      have h := h2 g x3 hI
      clear hI
      have J31 : ∀ (x3_31 : Int32) (g31 : St), jX5_renameRing_31 P a p1 p2 (fun g' z0 => I2 g' z0 ∧ μ2 g' z0 < μ2 g x3) K x3_31 g31 → V p l e rmX5_renameRing s m args below meth c 4 G (frA P sz) (MQ below (QcV G P sz K) args s 0 0 (frA P sz)) 0 0 P [(0, .ref a), (1, .int p1), (2, .int p2), (3, .int x3_31)] [] 31 g31 := by
        intro x3_31 g31  h
        unfold jX5_renameRing_31 at h
        obtain ⟨x3_31, ex3_31⟩ : ∃ y : Int32, y = x3_31 + 1 := ⟨_, rfl⟩
        replace h := h x3_31 ex3_31
        refine v_iinc o (v := x3_31) (lv' := [(3, .int x3_31), (0, .ref a), (1, .int p1), (2, .int p2)]) 3 dX5_renameRing_31 rfl (by rw [ex3_31]; rfl) (by decide) rfl ?_
        refine v_goto o (tgt := 2) dX5_renameRing_34 (by decide) ?_
        refine v_sub [1, 2, 3, 0] (lv2 := [(0, .ref a), (1, .int p1), (2, .int p2), (3, .int x3_31)]) rfl ?_
        exact ih g31 x3_31  h.1 (by have := h.2; omega)
      unfold bX5_renameRing_2 at h
      refine v_iload_n o 3 dX5_renameRing_2 rfl ?_
      refine v_aload_n o 0 dX5_renameRing_3 rfl ?_
      refine v_gfI o lkX5_38 (by decide) (wfTrace_o ha) dX5_renameRing_4 ?_
      refine v_icmp_ge o (tgt := 37) dX5_renameRing_7 (by decide) (fun c7 => ?_) (fun c7 => ?_)
      · replace h := h.1 c7
        exact v_vret o rfl hr dX5_renameRing_37 h
      · replace h := h.2 c7
        refine v_aload_n o 0 dX5_renameRing_10 rfl ?_
        refine v_gfR o lkX5_35 (by decide) (wfTrace_o ha) (wfTrace_r6 ha) dX5_renameRing_11 ?_
        refine v_iload_n o 3 dX5_renameRing_14 rfl ?_
        refine v_cVi o [.int x3] [] (fun sz => metX3_at l G P g sz (a + 13) (wfTrace_t6 ha) x3 _ h) (cwX5_61 o.1.2.2.2.2 (by decide)) ⟨_, _, rfl⟩ (by decide) (wfRow_o (wfTrace_t6 ha)) rfl (Nat.le_of_ble_eq_true rfl) ⟨Nat.le_of_ble_eq_true rfl, Nat.le_of_ble_eq_true rfl⟩ dX5_renameRing_15 rfl (fun r15 g15 h => ?_)
        refine v_iload_n o 1 dX5_renameRing_18 rfl ?_
        refine v_icmp_ne o (tgt := 31) dX5_renameRing_19 (by decide) (fun c19 => ?_) (fun c19 => ?_)
        · replace h := h.1 c19
          refine v_sub [0, 1, 2, 3] (lv2 := [(0, .ref a), (1, .int p1), (2, .int p2), (3, .int x3)]) rfl ?_
          exact J31 x3 g15  h
        · replace h := h.2 c19
          refine v_aload_n o 0 dX5_renameRing_22 rfl ?_
          refine v_gfR o lkX5_35 (by decide) (wfTrace_o ha) (wfTrace_r6 ha) dX5_renameRing_23 ?_
          refine v_iload_n o 3 dX5_renameRing_26 rfl ?_
          refine v_iload_n o 2 dX5_renameRing_27 rfl ?_
          refine v_cVv o [.int x3, .int p2] [] (fun sz => metX3_put l G P g15 sz (a + 13) (wfTrace_t6 ha) x3 p2 _ h) (cwX5_47 o.1.2.2.2.2 (by decide)) ⟨_, _, rfl⟩ (by decide) (wfRow_o (wfTrace_t6 ha)) rfl (Nat.le_of_ble_eq_true rfl) ⟨Nat.le_of_ble_eq_true rfl, Nat.le_of_ble_eq_true rfl⟩ dX5_renameRing_28 rfl (fun g28 h => ?_)
          refine v_sub [0, 1, 2, 3] (lv2 := [(0, .ref a), (1, .int p1), (2, .int p2), (3, .int x3)]) rfl ?_
          exact J31 x3 g28  h
  unfold vX5_renameRing at h
  refine v_iconst o (v := 0) dX5_renameRing_0 (by decide) ?_
  refine v_istore_n o (lv' := [(3, .int 0), (0, .ref a), (1, .int p1), (2, .int p2)]) dX5_renameRing_1 rfl (by decide) rfl ?_
  refine v_sub [1, 2, 3, 0] (lv2 := [(0, .ref a), (1, .int p1), (2, .int p2), (3, .int 0)]) rfl ?_
  exact (main (μ2 f 0 + 1)) f 0  h (Nat.lt_succ_self _)
def kX5_renameRing (P : Sk) (f : St) (a : Nat) (p1 : Int32) (p2 : Int32) (K : St → Prop) : Prop := False
theorem metX5_renameRing (l : Launch) (G : Gl) (P : Sk) (f : St) (sz : Nat) (a : Nat) (ha : IsTrace P a) (p1 : Int32) (p2 : Int32) (K : St → Prop) (h : kX5_renameRing P f a p1 p2 K) : Met l yX5_renameRing (wU yX5_renameRing cX5_renameRing 4 none) rmX5_renameRing (PcW G P f sz [.ref a, .int p1, .int p2]) (QcV G P sz K) 0 0 (frA P sz) := sorry

def jX5_ringsByJoining_82 (P : Sk) (a : Nat) (L2 : St → Int32 → Prop) (L32 : St → Int32 → Int32 → Prop) (K : Int32 → St → Prop) (x1 : Int32) (x2 : Int32) (x3 : Int32) (x4 : Int32) (f : St) : Prop :=
  ∀ x2_82 : Int32, x2_82 = x2 + 1 → L32 f x1 x2_82
def bX5_ringsByJoining_2 (P : Sk) (a : Nat) (L2 : St → Int32 → Prop) (L32 : St → Int32 → Int32 → Prop) (K : Int32 → St → Prop) (f : St) (x1 : Int32) : Prop :=
  (f a 7 ≤ x1 → ∀ x1_29 : Int32, x1_29 = f a 7 → L32 f x1_29 0) ∧ (¬ f a 7 ≤ x1 → kX3_put P f (a + 13) x1 x1 (fun g16 => ∀ x1_19 : Int32, x1_19 = x1 + 1 → L2 g16 x1_19))
def bX5_ringsByJoining_32 (P : Sk) (a : Nat) (L2 : St → Int32 → Prop) (L32 : St → Int32 → Int32 → Prop) (K : Int32 → St → Prop) (f : St) (x1 : Int32) (x2 : Int32) : Prop :=
  (f a 7 ≤ x2 → K x1 f) ∧ (¬ f a 7 ≤ x2 → kX3_at P f (a + 13) x2 (fun r45 g45 => kX3_at P g45 (a + 7) x2 (fun r58 g58 => kX3_at P g58 (a + 13) r58 (fun r61 g61 => (r45 = r61 → jX5_ringsByJoining_82 P a L2 L32 K x1 x2 r45 r61 g61) ∧ (¬ r45 = r61 → kX5_renameRing P g61 a r61 r45 (fun g76 => ∀ x1_79 : Int32, x1_79 = x1 + (-1) → jX5_ringsByJoining_82 P a L2 L32 K x1_79 x2 r45 r61 g76))))))
def vX5_ringsByJoining (P : Sk) (f : St) (a : Nat) (L2 : St → Int32 → Prop) (L32 : St → Int32 → Int32 → Prop) (K : Int32 → St → Prop) : Prop :=
  L2 f 0
set_option maxRecDepth 20000 in
set_option maxHeartbeats 4000000 in
theorem mX5_ringsByJoining (l : Launch) (G : Gl) (P : Sk) (f : St) (sz : Nat) (a : Nat) (ha : IsTrace P a) (K : Int32 → St → Prop) (I2 : St → Int32 → Prop) (μ2 : St → Int32 → Nat) (I32 : St → Int32 → Int32 → Prop) (μ32 : St → Int32 → Int32 → Nat) 
  (h : vX5_ringsByJoining P f a I2 I32 K)
  (h2 : ∀ (g : St) (x1 : Int32) , I2 g x1 → bX5_ringsByJoining_2 P a (fun g' z0 => I2 g' z0 ∧ μ2 g' z0 < μ2 g x1) (fun g' z0 z1 => I32 g' z0 z1 ∧ μ32 g' z0 z1 < μ2 g x1) K g x1)
  (h32 : ∀ (g : St) (x1 : Int32) (x2 : Int32) , I32 g x1 x2 → bX5_ringsByJoining_32 P a (fun g' z0 => I2 g' z0 ∧ μ2 g' z0 < μ32 g x1 x2) (fun g' z0 z1 => I32 g' z0 z1 ∧ μ32 g' z0 z1 < μ32 g x1 x2) K g x1 x2) :
  Met l yX5_ringsByJoining (wU yX5_ringsByJoining cX5_ringsByJoining 5 (some .int)) rmX5_ringsByJoining (PcW G P f sz [.ref a]) (QcI G P sz K) 0 0 (frA P sz) := by
  refine v_met (own := RX5) [.ref a] (by decide +kernel) rfl (Nat.le_of_ble_eq_true rfl) (fun p e s m args below meth c hsz o hr hnm => ?_)
  refine v_lv (lv2 := [(0, .ref a)]) rfl ?_
  have main : ∀ n : Nat, (∀ (g : St) (x1 : Int32) , I2 g x1 → μ2 g x1 < n → V p l e rmX5_ringsByJoining s m args below meth c 5 G (frA P sz) (MQ below (QcI G P sz K) args s 0 0 (frA P sz)) 0 0 P [(0, .ref a), (1, .int x1)] [] 2 g) ∧ (∀ (g : St) (x1 : Int32) (x2 : Int32) , I32 g x1 x2 → μ32 g x1 x2 < n → V p l e rmX5_ringsByJoining s m args below meth c 5 G (frA P sz) (MQ below (QcI G P sz K) args s 0 0 (frA P sz)) 0 0 P [(0, .ref a), (1, .int x1), (2, .int x2)] [] 32 g) := by
    intro n
    induction n with
    | zero => exact ⟨fun g x1 hI hm => absurd hm (Nat.not_lt_zero _), fun g x1 x2 hI hm => absurd hm (Nat.not_lt_zero _)⟩
    | succ n ih =>
      refine ⟨?_, ?_⟩
      · intro g x1 hI hm
        have h := h2 g x1 hI
        clear hI
        unfold bX5_ringsByJoining_2 at h
        refine v_iload_n o 1 dX5_ringsByJoining_2 rfl ?_
        refine v_aload_n o 0 dX5_ringsByJoining_3 rfl ?_
        refine v_gfI o lkX5_38 (by decide) (wfTrace_o ha) dX5_ringsByJoining_4 ?_
        refine v_icmp_ge o (tgt := 25) dX5_ringsByJoining_7 (by decide) (fun c7 => ?_) (fun c7 => ?_)
        · replace h := h.1 c7
          refine v_aload_n o 0 dX5_ringsByJoining_25 rfl ?_
          refine v_gfI o lkX5_38 (by decide) (wfTrace_o ha) dX5_ringsByJoining_26 ?_
          refine v_topi (fun x1_29 ex1_29 => ?_)
          replace h := h x1_29 ex1_29
          refine v_istore_n o (lv' := [(1, .int x1_29), (0, .ref a)]) dX5_ringsByJoining_29 rfl (by decide) rfl ?_
          refine v_iconst o (v := 0) dX5_ringsByJoining_30 (by decide) ?_
          refine v_istore_n o (lv' := [(2, .int 0), (1, .int x1_29), (0, .ref a)]) dX5_ringsByJoining_31 rfl (by decide) rfl ?_
          refine v_sub [2, 1, 0] (lv2 := [(0, .ref a), (1, .int x1_29), (2, .int 0)]) rfl ?_
          exact ih.2 g x1_29 0  h.1 (by have := h.2; omega)
        · replace h := h.2 c7
          refine v_aload_n o 0 dX5_ringsByJoining_10 rfl ?_
          refine v_gfR o lkX5_35 (by decide) (wfTrace_o ha) (wfTrace_r6 ha) dX5_ringsByJoining_11 ?_
          refine v_iload_n o 1 dX5_ringsByJoining_14 rfl ?_
          refine v_iload_n o 1 dX5_ringsByJoining_15 rfl ?_
          refine v_cVv o [.int x1, .int x1] [] (fun sz => metX3_put l G P g sz (a + 13) (wfTrace_t6 ha) x1 x1 _ h) (cwX5_47 o.1.2.2.2.2 (by decide)) ⟨_, _, rfl⟩ (by decide) (wfRow_o (wfTrace_t6 ha)) rfl (Nat.le_of_ble_eq_true rfl) ⟨Nat.le_of_ble_eq_true rfl, Nat.le_of_ble_eq_true rfl⟩ dX5_ringsByJoining_16 rfl (fun g16 h => ?_)
          obtain ⟨x1_19, ex1_19⟩ : ∃ y : Int32, y = x1 + 1 := ⟨_, rfl⟩
          replace h := h x1_19 ex1_19
          refine v_iinc o (v := x1_19) (lv' := [(1, .int x1_19), (0, .ref a)]) 1 dX5_ringsByJoining_19 rfl (by rw [ex1_19]; rfl) (by decide) rfl ?_
          refine v_goto o (tgt := 2) dX5_ringsByJoining_22 (by decide) ?_
          refine v_sub [1, 0] (lv2 := [(0, .ref a), (1, .int x1_19)]) rfl ?_
          exact ih.1 g16 x1_19  h.1 (by have := h.2; omega)
      · intro g x1 x2 hI hm
        have h := h32 g x1 x2 hI
        clear hI
        have J82 : ∀ (x1_82 : Int32) (x2_82 : Int32) (x3_82 : Int32) (x4_82 : Int32) (g82 : St), jX5_ringsByJoining_82 P a (fun g' z0 => I2 g' z0 ∧ μ2 g' z0 < μ32 g x1 x2) (fun g' z0 z1 => I32 g' z0 z1 ∧ μ32 g' z0 z1 < μ32 g x1 x2) K x1_82 x2_82 x3_82 x4_82 g82 → V p l e rmX5_ringsByJoining s m args below meth c 5 G (frA P sz) (MQ below (QcI G P sz K) args s 0 0 (frA P sz)) 0 0 P [(0, .ref a), (1, .int x1_82), (2, .int x2_82), (3, .int x3_82), (4, .int x4_82)] [] 82 g82 := by
          intro x1_82 x2_82 x3_82 x4_82 g82  h
          unfold jX5_ringsByJoining_82 at h
          obtain ⟨x2_82, ex2_82⟩ : ∃ y : Int32, y = x2_82 + 1 := ⟨_, rfl⟩
          replace h := h x2_82 ex2_82
          refine v_iinc o (v := x2_82) (lv' := [(2, .int x2_82), (0, .ref a), (1, .int x1_82), (3, .int x3_82), (4, .int x4_82)]) 2 dX5_ringsByJoining_82 rfl (by rw [ex2_82]; rfl) (by decide) rfl ?_
          refine v_goto o (tgt := 32) dX5_ringsByJoining_85 (by decide) ?_
          refine v_sub [1, 2, 0] (lv2 := [(0, .ref a), (1, .int x1_82), (2, .int x2_82)]) rfl ?_
          exact ih.2 g82 x1_82 x2_82  h.1 (by have := h.2; omega)
        unfold bX5_ringsByJoining_32 at h
        refine v_iload_n o 2 dX5_ringsByJoining_32 rfl ?_
        refine v_aload_n o 0 dX5_ringsByJoining_33 rfl ?_
        refine v_gfI o lkX5_38 (by decide) (wfTrace_o ha) dX5_ringsByJoining_34 ?_
        refine v_icmp_ge o (tgt := 88) dX5_ringsByJoining_37 (by decide) (fun c37 => ?_) (fun c37 => ?_)
        · replace h := h.1 c37
          refine v_iload_n o 1 dX5_ringsByJoining_88 rfl ?_
          exact v_iret o rfl hr dX5_ringsByJoining_89 h
        · replace h := h.2 c37
          refine v_aload_n o 0 dX5_ringsByJoining_40 rfl ?_
          refine v_gfR o lkX5_35 (by decide) (wfTrace_o ha) (wfTrace_r6 ha) dX5_ringsByJoining_41 ?_
          refine v_iload_n o 2 dX5_ringsByJoining_44 rfl ?_
          refine v_cVi o [.int x2] [] (fun sz => metX3_at l G P g sz (a + 13) (wfTrace_t6 ha) x2 _ h) (cwX5_61 o.1.2.2.2.2 (by decide)) ⟨_, _, rfl⟩ (by decide) (wfRow_o (wfTrace_t6 ha)) rfl (Nat.le_of_ble_eq_true rfl) ⟨Nat.le_of_ble_eq_true rfl, Nat.le_of_ble_eq_true rfl⟩ dX5_ringsByJoining_45 rfl (fun r45 g45 h => ?_)
          refine v_istore_n o (lv' := [(3, .int r45), (0, .ref a), (1, .int x1), (2, .int x2)]) dX5_ringsByJoining_48 rfl (by decide) rfl ?_
          refine v_aload_n o 1 dX5_ringsByJoining_49 rfl ?_
          refine v_gfR o lkX5_35 (by decide) (wfTrace_o ha) (wfTrace_r6 ha) dX5_ringsByJoining_50 ?_
          refine v_aload_n o 1 dX5_ringsByJoining_53 rfl ?_
          refine v_gfR o lkX5_26 (by decide) (wfTrace_o ha) (wfTrace_r3 ha) dX5_ringsByJoining_54 ?_
          refine v_iload_n o 3 dX5_ringsByJoining_57 rfl ?_
          refine v_cVi o [.int x2] [.ref (a + 13)] (fun sz => metX3_at l G P g45 sz (a + 7) (wfTrace_t3 ha) x2 _ h) (cwX5_61 o.1.2.2.2.2 (by decide)) ⟨_, _, rfl⟩ (by decide) (wfRow_o (wfTrace_t3 ha)) rfl (Nat.le_of_ble_eq_true rfl) ⟨Nat.le_of_ble_eq_true rfl, Nat.le_of_ble_eq_true rfl⟩ dX5_ringsByJoining_58 rfl (fun r58 g58 h => ?_)
          refine v_cVi o [.int r58] [] (fun sz => metX3_at l G P g58 sz (a + 13) (wfTrace_t6 ha) r58 _ h) (cwX5_61 o.1.2.2.2.2 (by decide)) ⟨_, _, rfl⟩ (by decide) (wfRow_o (wfTrace_t6 ha)) rfl (Nat.le_of_ble_eq_true rfl) ⟨Nat.le_of_ble_eq_true rfl, Nat.le_of_ble_eq_true rfl⟩ dX5_ringsByJoining_61 rfl (fun r61 g61 h => ?_)
          refine v_istore o (lv' := [(4, .int r61), (3, .int r45), (0, .ref a), (1, .int x1), (2, .int x2)]) dX5_ringsByJoining_64 (by decide) rfl ?_
          refine v_iload_n o 1 dX5_ringsByJoining_66 rfl ?_
          refine v_iload o 0 dX5_ringsByJoining_67 rfl ?_
          refine v_icmp_eq o (tgt := 82) dX5_ringsByJoining_69 (by decide) (fun c69 => ?_) (fun c69 => ?_)
          · replace h := h.1 c69
            refine v_sub [2, 3, 4, 1, 0] (lv2 := [(0, .ref a), (1, .int x1), (2, .int x2), (3, .int r45), (4, .int r61)]) rfl ?_
            exact J82 x1 x2 r45 r61 g61  h
          · replace h := h.2 c69
            refine v_aload_n o 2 dX5_ringsByJoining_72 rfl ?_
            refine v_iload o 0 dX5_ringsByJoining_73 rfl ?_
            refine v_iload_n o 1 dX5_ringsByJoining_75 rfl ?_
            refine v_cVv o [.int r61, .int r45] [] (fun sz => metX5_renameRing l G P g61 sz a ha r61 r45 _ h) (cwX5_78 o.1.2.2.2.2 (by decide)) ⟨_, _, rfl⟩ (by decide) (wfTrace_o ha) rfl (Nat.le_of_ble_eq_true rfl) ⟨Nat.le_of_ble_eq_true rfl, Nat.le_of_ble_eq_true rfl⟩ dX5_ringsByJoining_76 rfl (fun g76 h => ?_)
            obtain ⟨x1_79, ex1_79⟩ : ∃ y : Int32, y = x1 + (-1) := ⟨_, rfl⟩
            replace h := h x1_79 ex1_79
            refine v_iinc o (v := x1_79) (lv' := [(1, .int x1_79), (4, .int r61), (3, .int r45), (0, .ref a), (2, .int x2)]) 3 dX5_ringsByJoining_79 rfl (by rw [ex1_79]; rfl) (by decide) rfl ?_
            refine v_sub [3, 0, 4, 2, 1] (lv2 := [(0, .ref a), (1, .int x1_79), (2, .int x2), (3, .int r45), (4, .int r61)]) rfl ?_
            exact J82 x1_79 x2 r45 r61 g76  h
  unfold vX5_ringsByJoining at h
  refine v_iconst o (v := 0) dX5_ringsByJoining_0 (by decide) ?_
  refine v_istore_n o (lv' := [(1, .int 0), (0, .ref a)]) dX5_ringsByJoining_1 rfl (by decide) rfl ?_
  refine v_sub [1, 0] (lv2 := [(0, .ref a), (1, .int 0)]) rfl ?_
  exact (main (μ2 f 0 + 1)).1 f 0  h (Nat.lt_succ_self _)
def kX5_ringsByJoining (P : Sk) (f : St) (a : Nat) (K : Int32 → St → Prop) : Prop := False
theorem metX5_ringsByJoining (l : Launch) (G : Gl) (P : Sk) (f : St) (sz : Nat) (a : Nat) (ha : IsTrace P a) (K : Int32 → St → Prop) (h : kX5_ringsByJoining P f a K) : Met l yX5_ringsByJoining (wU yX5_ringsByJoining cX5_ringsByJoining 5 (some .int)) rmX5_ringsByJoining (PcW G P f sz [.ref a]) (QcI G P sz K) 0 0 (frA P sz) := sorry

def bX5_roundOf_14 (P : Sk) (a : Nat) (p1 : Int32) (L14 : St → Int32 → Int32 → Int32 → Prop) (K : Int32 → St → Prop) (f : St) (x2 : Int32) (x3 : Int32) (x4 : Int32) : Prop :=
  (f a 7 ≤ x4 → K x3 f) ∧ (¬ f a 7 ≤ x4 → (x2 = p1 → K x3 f) ∧ (¬ x2 = p1 → kX3_at P f (a + 7) x2 (fun r33 g33 => ∀ x3_37 : Int32, x3_37 = x3 + 1 → ∀ x4_40 : Int32, x4_40 = x4 + 1 → L14 g33 r33 x3_37 x4_40)))
def vX5_roundOf (P : Sk) (f : St) (a : Nat) (p1 : Int32) (L14 : St → Int32 → Int32 → Int32 → Prop) (K : Int32 → St → Prop) : Prop :=
  kX3_at P f (a + 7) p1 (fun r5 g5 => L14 g5 r5 1 0)
set_option maxRecDepth 20000 in
set_option maxHeartbeats 4000000 in
theorem mX5_roundOf (l : Launch) (G : Gl) (P : Sk) (f : St) (sz : Nat) (a : Nat) (ha : IsTrace P a) (p1 : Int32) (K : Int32 → St → Prop) (I14 : St → Int32 → Int32 → Int32 → Prop) (μ14 : St → Int32 → Int32 → Int32 → Nat) 
  (h : vX5_roundOf P f a p1 I14 K)
  (h14 : ∀ (g : St) (x2 : Int32) (x3 : Int32) (x4 : Int32) , I14 g x2 x3 x4 → bX5_roundOf_14 P a p1 (fun g' z0 z1 z2 => I14 g' z0 z1 z2 ∧ μ14 g' z0 z1 z2 < μ14 g x2 x3 x4) K g x2 x3 x4) :
  Met l yX5_roundOf (wU yX5_roundOf cX5_roundOf 5 (some .int)) rmX5_roundOf (PcW G P f sz [.ref a, .int p1]) (QcI G P sz K) 0 0 (frA P sz) := by
  refine v_met (own := RX5) [.ref a, .int p1] (by decide +kernel) rfl (Nat.le_of_ble_eq_true rfl) (fun p e s m args below meth c hsz o hr hnm => ?_)
  refine v_lv (lv2 := [(0, .ref a), (1, .int p1)]) rfl ?_
  have main : ∀ n : Nat, (∀ (g : St) (x2 : Int32) (x3 : Int32) (x4 : Int32) , I14 g x2 x3 x4 → μ14 g x2 x3 x4 < n → V p l e rmX5_roundOf s m args below meth c 5 G (frA P sz) (MQ below (QcI G P sz K) args s 0 0 (frA P sz)) 0 0 P [(0, .ref a), (1, .int p1), (2, .int x2), (3, .int x3), (4, .int x4)] [] 14 g) := by
    intro n
    induction n with
    | zero => exact fun g x2 x3 x4 hI hm => absurd hm (Nat.not_lt_zero _)
    | succ n ih =>
      intro g x2 x3 x4 hI hm
      have h := h14 g x2 x3 x4 hI
      clear hI
      unfold bX5_roundOf_14 at h
      refine v_iload o 4 dX5_roundOf_14 rfl ?_
      refine v_aload_n o 0 dX5_roundOf_16 rfl ?_
      refine v_gfI o lkX5_38 (by decide) (wfTrace_o ha) dX5_roundOf_17 ?_
      refine v_icmp_ge o (tgt := 46) dX5_roundOf_20 (by decide) (fun c20 => ?_) (fun c20 => ?_)
      · replace h := h.1 c20
        refine v_iload_n o 3 dX5_roundOf_46 rfl ?_
        exact v_iret o rfl hr dX5_roundOf_47 h
      · replace h := h.2 c20
        refine v_iload_n o 2 dX5_roundOf_23 rfl ?_
        refine v_iload_n o 1 dX5_roundOf_24 rfl ?_
        refine v_icmp_eq o (tgt := 46) dX5_roundOf_25 (by decide) (fun c25 => ?_) (fun c25 => ?_)
        · replace h := h.1 c25
          refine v_iload_n o 3 dX5_roundOf_46 rfl ?_
          exact v_iret o rfl hr dX5_roundOf_47 h
        · replace h := h.2 c25
          refine v_aload_n o 0 dX5_roundOf_28 rfl ?_
          refine v_gfR o lkX5_26 (by decide) (wfTrace_o ha) (wfTrace_r3 ha) dX5_roundOf_29 ?_
          refine v_iload_n o 2 dX5_roundOf_32 rfl ?_
          refine v_cVi o [.int x2] [] (fun sz => metX3_at l G P g sz (a + 7) (wfTrace_t3 ha) x2 _ h) (cwX5_61 o.1.2.2.2.2 (by decide)) ⟨_, _, rfl⟩ (by decide) (wfRow_o (wfTrace_t3 ha)) rfl (Nat.le_of_ble_eq_true rfl) ⟨Nat.le_of_ble_eq_true rfl, Nat.le_of_ble_eq_true rfl⟩ dX5_roundOf_33 rfl (fun r33 g33 h => ?_)
          refine v_istore_n o (lv' := [(2, .int r33), (0, .ref a), (1, .int p1), (3, .int x3), (4, .int x4)]) dX5_roundOf_36 rfl (by decide) rfl ?_
          obtain ⟨x3_37, ex3_37⟩ : ∃ y : Int32, y = x3 + 1 := ⟨_, rfl⟩
          replace h := h x3_37 ex3_37
          refine v_iinc o (v := x3_37) (lv' := [(3, .int x3_37), (2, .int r33), (0, .ref a), (1, .int p1), (4, .int x4)]) 3 dX5_roundOf_37 rfl (by rw [ex3_37]; rfl) (by decide) rfl ?_
          obtain ⟨x4_40, ex4_40⟩ : ∃ y : Int32, y = x4 + 1 := ⟨_, rfl⟩
          replace h := h x4_40 ex4_40
          refine v_iinc o (v := x4_40) (lv' := [(4, .int x4_40), (3, .int x3_37), (2, .int r33), (0, .ref a), (1, .int p1)]) 4 dX5_roundOf_40 rfl (by rw [ex4_40]; rfl) (by decide) rfl ?_
          refine v_goto o (tgt := 14) dX5_roundOf_43 (by decide) ?_
          refine v_sub [3, 4, 2, 1, 0] (lv2 := [(0, .ref a), (1, .int p1), (2, .int r33), (3, .int x3_37), (4, .int x4_40)]) rfl ?_
          exact ih g33 r33 x3_37 x4_40  h.1 (by have := h.2; omega)
  unfold vX5_roundOf at h
  refine v_aload_n o 0 dX5_roundOf_0 rfl ?_
  refine v_gfR o lkX5_26 (by decide) (wfTrace_o ha) (wfTrace_r3 ha) dX5_roundOf_1 ?_
  refine v_iload_n o 1 dX5_roundOf_4 rfl ?_
  refine v_cVi o [.int p1] [] (fun sz => metX3_at l G P f sz (a + 7) (wfTrace_t3 ha) p1 _ h) (cwX5_61 o.1.2.2.2.2 (by decide)) ⟨_, _, rfl⟩ (by decide) (wfRow_o (wfTrace_t3 ha)) rfl (Nat.le_of_ble_eq_true rfl) ⟨Nat.le_of_ble_eq_true rfl, Nat.le_of_ble_eq_true rfl⟩ dX5_roundOf_5 rfl (fun r5 g5 h => ?_)
  refine v_istore_n o (lv' := [(2, .int r5), (0, .ref a), (1, .int p1)]) dX5_roundOf_8 rfl (by decide) rfl ?_
  refine v_iconst o (v := 1) dX5_roundOf_9 (by decide) ?_
  refine v_istore_n o (lv' := [(3, .int 1), (2, .int r5), (0, .ref a), (1, .int p1)]) dX5_roundOf_10 rfl (by decide) rfl ?_
  refine v_iconst o (v := 0) dX5_roundOf_11 (by decide) ?_
  refine v_istore o (lv' := [(4, .int 0), (3, .int 1), (2, .int r5), (0, .ref a), (1, .int p1)]) dX5_roundOf_12 (by decide) rfl ?_
  refine v_sub [3, 4, 2, 1, 0] (lv2 := [(0, .ref a), (1, .int p1), (2, .int r5), (3, .int 1), (4, .int 0)]) rfl ?_
  exact (main (μ14 g5 r5 1 0 + 1)) g5 r5 1 0  h (Nat.lt_succ_self _)
def kX5_roundOf (P : Sk) (f : St) (a : Nat) (p1 : Int32) (K : Int32 → St → Prop) : Prop := False
theorem metX5_roundOf (l : Launch) (G : Gl) (P : Sk) (f : St) (sz : Nat) (a : Nat) (ha : IsTrace P a) (p1 : Int32) (K : Int32 → St → Prop) (h : kX5_roundOf P f a p1 K) : Met l yX5_roundOf (wU yX5_roundOf cX5_roundOf 5 (some .int)) rmX5_roundOf (PcW G P f sz [.ref a, .int p1]) (QcI G P sz K) 0 0 (frA P sz) := sorry

def bX5_leastCommonMultiple_4 (P : Sk) (p0 : Int32) (p1 : Int32) (L4 : St → Int32 → Int32 → Prop) (K : Int32 → St → Prop) (f : St) (x2 : Int32) (x3 : Int32) : Prop :=
  (p1 ≤ x3 → K x2 f) ∧ (¬ p1 ≤ x3 → (p1 ≤ 0 → K x2 f) ∧ (¬ p1 ≤ 0 → (¬ p1 = 0) ∧ ((x2 - x2 / p1 * p1 = 0 → K x2 f) ∧ (¬ x2 - x2 / p1 * p1 = 0 → ∀ x2_22 : Int32, x2_22 = x2 + p0 → ∀ x3_23 : Int32, x3_23 = x3 + 1 → L4 f x2_22 x3_23))))
def vX5_leastCommonMultiple (P : Sk) (f : St) (p0 : Int32) (p1 : Int32) (L4 : St → Int32 → Int32 → Prop) (K : Int32 → St → Prop) : Prop :=
  L4 f p0 1
set_option maxRecDepth 20000 in
set_option maxHeartbeats 4000000 in
theorem mX5_leastCommonMultiple (l : Launch) (G : Gl) (P : Sk) (f : St) (sz : Nat) (p0 : Int32) (p1 : Int32) (K : Int32 → St → Prop) (I4 : St → Int32 → Int32 → Prop) (μ4 : St → Int32 → Int32 → Nat) 
  (h : vX5_leastCommonMultiple P f p0 p1 I4 K)
  (h4 : ∀ (g : St) (x2 : Int32) (x3 : Int32) , I4 g x2 x3 → bX5_leastCommonMultiple_4 P p0 p1 (fun g' z0 z1 => I4 g' z0 z1 ∧ μ4 g' z0 z1 < μ4 g x2 x3) K g x2 x3) :
  Met l yX5_leastCommonMultiple (wU yX5_leastCommonMultiple cX5_leastCommonMultiple 4 (some .int)) rmX5_leastCommonMultiple (PcW G P f sz [.int p0, .int p1]) (QcI G P sz K) 0 0 (frA P sz) := by
  refine v_met (own := RX5) [.int p0, .int p1] (by decide +kernel) rfl (Nat.le_of_ble_eq_true rfl) (fun p e s m args below meth c hsz o hr hnm => ?_)
  refine v_lv (lv2 := [(0, .int p0), (1, .int p1)]) rfl ?_
  have main : ∀ n : Nat, (∀ (g : St) (x2 : Int32) (x3 : Int32) , I4 g x2 x3 → μ4 g x2 x3 < n → V p l e rmX5_leastCommonMultiple s m args below meth c 4 G (frA P sz) (MQ below (QcI G P sz K) args s 0 0 (frA P sz)) 0 0 P [(0, .int p0), (1, .int p1), (2, .int x2), (3, .int x3)] [] 4 g) := by
    intro n
    induction n with
    | zero => exact fun g x2 x3 hI hm => absurd hm (Nat.not_lt_zero _)
    | succ n ih =>
      intro g x2 x3 hI hm
      have h := h4 g x2 x3 hI
      clear hI
      unfold bX5_leastCommonMultiple_4 at h
      refine v_iload_n o 3 dX5_leastCommonMultiple_4 rfl ?_
      refine v_iload_n o 1 dX5_leastCommonMultiple_5 rfl ?_
      refine v_icmp_ge o (tgt := 29) dX5_leastCommonMultiple_6 (by decide) (fun c6 => ?_) (fun c6 => ?_)
      · replace h := h.1 c6
        refine v_iload_n o 2 dX5_leastCommonMultiple_29 rfl ?_
        exact v_iret o rfl hr dX5_leastCommonMultiple_30 h
      · replace h := h.2 c6
        refine v_iload_n o 1 dX5_leastCommonMultiple_9 rfl ?_
        refine v_if_le o (tgt := 29) dX5_leastCommonMultiple_10 (by decide) (fun c10 => ?_) (fun c10 => ?_)
        · replace h := h.1 c10
          refine v_iload_n o 2 dX5_leastCommonMultiple_29 rfl ?_
          exact v_iret o rfl hr dX5_leastCommonMultiple_30 h
        · replace h := h.2 c10
          refine v_iload_n o 2 dX5_leastCommonMultiple_13 rfl ?_
          refine v_iload_n o 1 dX5_leastCommonMultiple_14 rfl ?_
          refine v_irem o dX5_leastCommonMultiple_15 h.1 ?_
          replace h := h.2
          refine v_if_eq o (tgt := 29) dX5_leastCommonMultiple_16 (by decide) (fun c16 => ?_) (fun c16 => ?_)
          · replace h := h.1 c16
            refine v_iload_n o 2 dX5_leastCommonMultiple_29 rfl ?_
            exact v_iret o rfl hr dX5_leastCommonMultiple_30 h
          · replace h := h.2 c16
            refine v_iload_n o 2 dX5_leastCommonMultiple_19 rfl ?_
            refine v_iload_n o 0 dX5_leastCommonMultiple_20 rfl ?_
            refine v_iadd o dX5_leastCommonMultiple_21 ?_
            refine v_topi (fun x2_22 ex2_22 => ?_)
            replace h := h x2_22 ex2_22
            refine v_istore_n o (lv' := [(2, .int x2_22), (0, .int p0), (1, .int p1), (3, .int x3)]) dX5_leastCommonMultiple_22 rfl (by decide) rfl ?_
            obtain ⟨x3_23, ex3_23⟩ : ∃ y : Int32, y = x3 + 1 := ⟨_, rfl⟩
            replace h := h x3_23 ex3_23
            refine v_iinc o (v := x3_23) (lv' := [(3, .int x3_23), (2, .int x2_22), (0, .int p0), (1, .int p1)]) 3 dX5_leastCommonMultiple_23 rfl (by rw [ex3_23]; rfl) (by decide) rfl ?_
            refine v_goto o (tgt := 4) dX5_leastCommonMultiple_26 (by decide) ?_
            refine v_sub [2, 3, 1, 0] (lv2 := [(0, .int p0), (1, .int p1), (2, .int x2_22), (3, .int x3_23)]) rfl ?_
            exact ih g x2_22 x3_23  h.1 (by have := h.2; omega)
  unfold vX5_leastCommonMultiple at h
  refine v_iload_n o 0 dX5_leastCommonMultiple_0 rfl ?_
  refine v_istore_n o (lv' := [(2, .int p0), (0, .int p0), (1, .int p1)]) dX5_leastCommonMultiple_1 rfl (by decide) rfl ?_
  refine v_iconst o (v := 1) dX5_leastCommonMultiple_2 (by decide) ?_
  refine v_istore_n o (lv' := [(3, .int 1), (2, .int p0), (0, .int p0), (1, .int p1)]) dX5_leastCommonMultiple_3 rfl (by decide) rfl ?_
  refine v_sub [2, 3, 1, 0] (lv2 := [(0, .int p0), (1, .int p1), (2, .int p0), (3, .int 1)]) rfl ?_
  exact (main (μ4 f p0 1 + 1)) f p0 1  h (Nat.lt_succ_self _)
def kX5_leastCommonMultiple (P : Sk) (f : St) (p0 : Int32) (p1 : Int32) (K : Int32 → St → Prop) : Prop := False
theorem metX5_leastCommonMultiple (l : Launch) (G : Gl) (P : Sk) (f : St) (sz : Nat) (p0 : Int32) (p1 : Int32) (K : Int32 → St → Prop) (h : kX5_leastCommonMultiple P f p0 p1 K) : Met l yX5_leastCommonMultiple (wU yX5_leastCommonMultiple cX5_leastCommonMultiple 4 (some .int)) rmX5_leastCommonMultiple (PcW G P f sz [.int p0, .int p1]) (QcI G P sz K) 0 0 (frA P sz) := sorry

def bX5_timesUntilHome_4 (P : Sk) (a : Nat) (L4 : St → Int32 → Int32 → Prop) (K : Int32 → St → Prop) (f : St) (x1 : Int32) (x2 : Int32) : Prop :=
  (f a 7 ≤ x2 → K x1 f) ∧ (¬ f a 7 ≤ x2 → kX5_roundOf P f a x2 (fun r15 g15 => kX5_leastCommonMultiple P g15 x1 r15 (fun r18 g18 => ∀ x2_22 : Int32, x2_22 = x2 + 1 → L4 g18 r18 x2_22)))
def vX5_timesUntilHome (P : Sk) (f : St) (a : Nat) (L4 : St → Int32 → Int32 → Prop) (K : Int32 → St → Prop) : Prop :=
  L4 f 1 0
set_option maxRecDepth 20000 in
set_option maxHeartbeats 4000000 in
theorem mX5_timesUntilHome (l : Launch) (G : Gl) (P : Sk) (f : St) (sz : Nat) (a : Nat) (ha : IsTrace P a) (K : Int32 → St → Prop) (I4 : St → Int32 → Int32 → Prop) (μ4 : St → Int32 → Int32 → Nat) 
  (h : vX5_timesUntilHome P f a I4 K)
  (h4 : ∀ (g : St) (x1 : Int32) (x2 : Int32) , I4 g x1 x2 → bX5_timesUntilHome_4 P a (fun g' z0 z1 => I4 g' z0 z1 ∧ μ4 g' z0 z1 < μ4 g x1 x2) K g x1 x2) :
  Met l yX5_timesUntilHome (wU yX5_timesUntilHome cX5_timesUntilHome 3 (some .int)) rmX5_timesUntilHome (PcW G P f sz [.ref a]) (QcI G P sz K) 0 0 (frA P sz) := by
  refine v_met (own := RX5) [.ref a] (by decide +kernel) rfl (Nat.le_of_ble_eq_true rfl) (fun p e s m args below meth c hsz o hr hnm => ?_)
  refine v_lv (lv2 := [(0, .ref a)]) rfl ?_
  have main : ∀ n : Nat, (∀ (g : St) (x1 : Int32) (x2 : Int32) , I4 g x1 x2 → μ4 g x1 x2 < n → V p l e rmX5_timesUntilHome s m args below meth c 3 G (frA P sz) (MQ below (QcI G P sz K) args s 0 0 (frA P sz)) 0 0 P [(0, .ref a), (1, .int x1), (2, .int x2)] [] 4 g) := by
    intro n
    induction n with
    | zero => exact fun g x1 x2 hI hm => absurd hm (Nat.not_lt_zero _)
    | succ n ih =>
      intro g x1 x2 hI hm
      have h := h4 g x1 x2 hI
      clear hI
      unfold bX5_timesUntilHome_4 at h
      refine v_iload_n o 2 dX5_timesUntilHome_4 rfl ?_
      refine v_aload_n o 0 dX5_timesUntilHome_5 rfl ?_
      refine v_gfI o lkX5_38 (by decide) (wfTrace_o ha) dX5_timesUntilHome_6 ?_
      refine v_icmp_ge o (tgt := 28) dX5_timesUntilHome_9 (by decide) (fun c9 => ?_) (fun c9 => ?_)
      · replace h := h.1 c9
        refine v_iload_n o 1 dX5_timesUntilHome_28 rfl ?_
        exact v_iret o rfl hr dX5_timesUntilHome_29 h
      · replace h := h.2 c9
        refine v_iload_n o 1 dX5_timesUntilHome_12 rfl ?_
        refine v_aload_n o 0 dX5_timesUntilHome_13 rfl ?_
        refine v_iload_n o 2 dX5_timesUntilHome_14 rfl ?_
        refine v_cVi o [.int x2] [.int x1] (fun sz => metX5_roundOf l G P g sz a ha x2 _ h) (cwX5_81 o.1.2.2.2.2 (by decide)) ⟨_, _, rfl⟩ (by decide) (wfTrace_o ha) rfl (Nat.le_of_ble_eq_true rfl) ⟨Nat.le_of_ble_eq_true rfl, Nat.le_of_ble_eq_true rfl⟩ dX5_timesUntilHome_15 rfl (fun r15 g15 h => ?_)
        refine v_cSi o [.int x1, .int r15] [] (fun sz => metX5_leastCommonMultiple l G P g15 sz x1 r15 _ h) (cwX5_84 o.1.2.2.2.2 (by decide)) rfl (Nat.le_of_ble_eq_true rfl) ⟨Nat.le_of_ble_eq_true rfl, Nat.le_of_ble_eq_true rfl⟩ dX5_timesUntilHome_18 rfl (fun r18 g18 h => ?_)
        refine v_istore_n o (lv' := [(1, .int r18), (0, .ref a), (2, .int x2)]) dX5_timesUntilHome_21 rfl (by decide) rfl ?_
        obtain ⟨x2_22, ex2_22⟩ : ∃ y : Int32, y = x2 + 1 := ⟨_, rfl⟩
        replace h := h x2_22 ex2_22
        refine v_iinc o (v := x2_22) (lv' := [(2, .int x2_22), (1, .int r18), (0, .ref a)]) 2 dX5_timesUntilHome_22 rfl (by rw [ex2_22]; rfl) (by decide) rfl ?_
        refine v_goto o (tgt := 4) dX5_timesUntilHome_25 (by decide) ?_
        refine v_sub [2, 1, 0] (lv2 := [(0, .ref a), (1, .int r18), (2, .int x2_22)]) rfl ?_
        exact ih g18 r18 x2_22  h.1 (by have := h.2; omega)
  unfold vX5_timesUntilHome at h
  refine v_iconst o (v := 1) dX5_timesUntilHome_0 (by decide) ?_
  refine v_istore_n o (lv' := [(1, .int 1), (0, .ref a)]) dX5_timesUntilHome_1 rfl (by decide) rfl ?_
  refine v_iconst o (v := 0) dX5_timesUntilHome_2 (by decide) ?_
  refine v_istore_n o (lv' := [(2, .int 0), (1, .int 1), (0, .ref a)]) dX5_timesUntilHome_3 rfl (by decide) rfl ?_
  refine v_sub [2, 1, 0] (lv2 := [(0, .ref a), (1, .int 1), (2, .int 0)]) rfl ?_
  exact (main (μ4 f 1 0 + 1)) f 1 0  h (Nat.lt_succ_self _)
def kX5_timesUntilHome (P : Sk) (f : St) (a : Nat) (K : Int32 → St → Prop) : Prop := False
theorem metX5_timesUntilHome (l : Launch) (G : Gl) (P : Sk) (f : St) (sz : Nat) (a : Nat) (ha : IsTrace P a) (K : Int32 → St → Prop) (h : kX5_timesUntilHome P f a K) : Met l yX5_timesUntilHome (wU yX5_timesUntilHome cX5_timesUntilHome 3 (some .int)) rmX5_timesUntilHome (PcW G P f sz [.ref a]) (QcI G P sz K) 0 0 (frA P sz) := sorry

def vX6_hasPlace (P : Sk) (f : St) (a : Nat) (p1 : Int32) (K : Int32 → St → Prop) : Prop :=
  (p1 < 0 → K 0 f) ∧ (¬ p1 < 0 → ((f a 1) - 2 < p1 → K 0 f) ∧ (¬ (f a 1) - 2 < p1 → K 1 f))
set_option maxRecDepth 20000 in
set_option maxHeartbeats 4000000 in
theorem mX6_hasPlace (l : Launch) (G : Gl) (P : Sk) (f : St) (sz : Nat) (a : Nat) (ha : IsWord P a) (p1 : Int32) (K : Int32 → St → Prop) (h : vX6_hasPlace P f a p1 K)  :
  Met l yX6_hasPlace (wU yX6_hasPlace cX6_hasPlace 2 (some .boolean)) rmX6_hasPlace (PcW G P f sz [.ref a, .int p1]) (QcI G P sz K) 0 0 (frA P sz) := by
  refine v_met (own := RX6) [.ref a, .int p1] (by decide +kernel) rfl (Nat.le_of_ble_eq_true rfl) (fun p e s m args below meth c hsz o hr hnm => ?_)
  refine v_lv (lv2 := [(0, .ref a), (1, .int p1)]) rfl ?_
  unfold vX6_hasPlace at h
  refine v_iload_n o 1 dX6_hasPlace_0 rfl ?_
  refine v_if_lt o (tgt := 18) dX6_hasPlace_1 (by decide) (fun c1 => ?_) (fun c1 => ?_)
  · replace h := h.1 c1
    refine v_iconst o (v := 0) dX6_hasPlace_18 (by decide) ?_
    exact v_zret o rfl hr bz0.1 dX6_hasPlace_19 h
  · replace h := h.2 c1
    refine v_iload_n o 1 dX6_hasPlace_4 rfl ?_
    refine v_aload_n o 0 dX6_hasPlace_5 rfl ?_
    refine v_gfI o lkX6_20 (by decide) (wfWord_o ha) dX6_hasPlace_6 ?_
    refine v_iconst o (v := 2) dX6_hasPlace_9 (by decide) ?_
    refine v_isub o dX6_hasPlace_10 ?_
    refine v_icmp_gt o (tgt := 18) dX6_hasPlace_11 (by decide) (fun c11 => ?_) (fun c11 => ?_)
    · replace h := h.1 c11
      refine v_iconst o (v := 0) dX6_hasPlace_18 (by decide) ?_
      exact v_zret o rfl hr bz0.1 dX6_hasPlace_19 h
    · replace h := h.2 c11
      refine v_iconst o (v := 1) dX6_hasPlace_14 (by decide) ?_
      refine v_goto o (tgt := 19) dX6_hasPlace_15 (by decide) ?_
      exact v_zret o rfl hr bz1.1 dX6_hasPlace_19 h
abbrev kX6_hasPlace := @vX6_hasPlace
abbrev metX6_hasPlace := @mX6_hasPlace

def bX6_addAll_2 (P : Sk) (a : Nat) (b1 : Nat) (L2 : St → Int32 → Prop) (K : St → Prop) (f : St) (x2 : Int32) : Prop :=
  (f b1 2 ≤ x2 → K f) ∧ (¬ f b1 2 ≤ x2 → kX6_codeAt P f b1 x2 (fun r13 g13 => kX6_add P g13 a r13 (fun g16 => ∀ x2_19 : Int32, x2_19 = x2 + 1 → L2 g16 x2_19)))
def vX6_addAll (P : Sk) (f : St) (a : Nat) (b1 : Nat) (L2 : St → Int32 → Prop) (K : St → Prop) : Prop :=
  L2 f 0
set_option maxRecDepth 20000 in
set_option maxHeartbeats 4000000 in
theorem mX6_addAll (l : Launch) (G : Gl) (P : Sk) (f : St) (sz : Nat) (a : Nat) (ha : IsWord P a) (b1 : Nat) (hb1 : IsWord P b1) (K : St → Prop) (I2 : St → Int32 → Prop) (μ2 : St → Int32 → Nat) 
  (h : vX6_addAll P f a b1 I2 K)
  (h2 : ∀ (g : St) (x2 : Int32) , I2 g x2 → bX6_addAll_2 P a b1 (fun g' z0 => I2 g' z0 ∧ μ2 g' z0 < μ2 g x2) K g x2) :
  Met l yX6_addAll (wU yX6_addAll cX6_addAll 3 none) rmX6_addAll (PcW G P f sz [.ref a, .ref b1]) (QcV G P sz K) 0 0 (frA P sz) := by
  refine v_met (own := RX6) [.ref a, .ref b1] (by decide +kernel) rfl (Nat.le_of_ble_eq_true rfl) (fun p e s m args below meth c hsz o hr hnm => ?_)
  refine v_lv (lv2 := [(0, .ref a), (1, .ref b1)]) rfl ?_
  have main : ∀ n : Nat, (∀ (g : St) (x2 : Int32) , I2 g x2 → μ2 g x2 < n → V p l e rmX6_addAll s m args below meth c 3 G (frA P sz) (MQ below (QcV G P sz K) args s 0 0 (frA P sz)) 0 0 P [(0, .ref a), (1, .ref b1), (2, .int x2)] [] 2 g) := by
    intro n
    induction n with
    | zero => exact fun g x2 hI hm => absurd hm (Nat.not_lt_zero _)
    | succ n ih =>
      intro g x2 hI hm
      have h := h2 g x2 hI
      clear hI
      unfold bX6_addAll_2 at h
      refine v_iload_n o 2 dX6_addAll_2 rfl ?_
      refine v_aload_n o 1 dX6_addAll_3 rfl ?_
      refine v_gfI o lkX6_24 (by decide) (wfWord_o hb1) dX6_addAll_4 ?_
      refine v_icmp_ge o (tgt := 25) dX6_addAll_7 (by decide) (fun c7 => ?_) (fun c7 => ?_)
      · replace h := h.1 c7
        exact v_vret o rfl hr dX6_addAll_25 h
      · replace h := h.2 c7
        refine v_aload_n o 0 dX6_addAll_10 rfl ?_
        refine v_aload_n o 1 dX6_addAll_11 rfl ?_
        refine v_iload_n o 2 dX6_addAll_12 rfl ?_
        refine v_cVi o [.int x2] [.ref a] (fun sz => metX6_codeAt l G P g sz b1 hb1 x2 _ h) (cwX6_35 o.1.2.2.2.2 (by decide)) ⟨_, _, rfl⟩ (by decide) (wfWord_o hb1) rfl (Nat.le_of_ble_eq_true rfl) ⟨Nat.le_of_ble_eq_true rfl, Nat.le_of_ble_eq_true rfl⟩ dX6_addAll_13 rfl (fun r13 g13 h => ?_)
        refine v_cVv o [.int r13] [] (fun sz => metX6_add l G P g13 sz a ha r13 _ h) (cwX6_38 o.1.2.2.2.2 (by decide)) ⟨_, _, rfl⟩ (by decide) (wfWord_o ha) rfl (Nat.le_of_ble_eq_true rfl) ⟨Nat.le_of_ble_eq_true rfl, Nat.le_of_ble_eq_true rfl⟩ dX6_addAll_16 rfl (fun g16 h => ?_)
        obtain ⟨x2_19, ex2_19⟩ : ∃ y : Int32, y = x2 + 1 := ⟨_, rfl⟩
        replace h := h x2_19 ex2_19
        refine v_iinc o (v := x2_19) (lv' := [(2, .int x2_19), (0, .ref a), (1, .ref b1)]) 2 dX6_addAll_19 rfl (by rw [ex2_19]; rfl) (by decide) rfl ?_
        refine v_goto o (tgt := 2) dX6_addAll_22 (by decide) ?_
        refine v_sub [1, 2, 0] (lv2 := [(0, .ref a), (1, .ref b1), (2, .int x2_19)]) rfl ?_
        exact ih g16 x2_19  h.1 (by have := h.2; omega)
  unfold vX6_addAll at h
  refine v_iconst o (v := 0) dX6_addAll_0 (by decide) ?_
  refine v_istore_n o (lv' := [(2, .int 0), (0, .ref a), (1, .ref b1)]) dX6_addAll_1 rfl (by decide) rfl ?_
  refine v_sub [1, 2, 0] (lv2 := [(0, .ref a), (1, .ref b1), (2, .int 0)]) rfl ?_
  exact (main (μ2 f 0 + 1)) f 0  h (Nat.lt_succ_self _)
def kX6_addAll (P : Sk) (f : St) (a : Nat) (b1 : Nat) (K : St → Prop) : Prop := False
theorem metX6_addAll (l : Launch) (G : Gl) (P : Sk) (f : St) (sz : Nat) (a : Nat) (ha : IsWord P a) (b1 : Nat) (hb1 : IsWord P b1) (K : St → Prop) (h : kX6_addAll P f a b1 K) : Met l yX6_addAll (wU yX6_addAll cX6_addAll 3 none) rmX6_addAll (PcW G P f sz [.ref a, .ref b1]) (QcV G P sz K) 0 0 (frA P sz) := sorry

def bX6_isSame_26 (P : Sk) (a : Nat) (b1 : Nat) (L26 : St → Int32 → Prop) (K : Int32 → St → Prop) (f : St) (x2 : Int32) : Prop :=
  (f a 2 ≤ x2 → K 1 f) ∧ (¬ f a 2 ≤ x2 → kX6_codeAt P f a x2 (fun r36 g36 => kX6_codeAt P g36 b1 x2 (fun r41 g41 => (r36 = r41 → ∀ x2_49 : Int32, x2_49 = x2 + 1 → L26 g41 x2_49) ∧ (¬ r36 = r41 → K 0 g41))))
def vX6_isSame (P : Sk) (f : St) (a : Nat) (b1 : Nat) (L26 : St → Int32 → Prop) (K : Int32 → St → Prop) : Prop :=
  (¬ f a 1 = f b1 1 → K 0 f) ∧ (f a 1 = f b1 1 → (f a 2 = f b1 2 → L26 f 0) ∧ (¬ f a 2 = f b1 2 → K 0 f))
set_option maxRecDepth 20000 in
set_option maxHeartbeats 4000000 in
theorem mX6_isSame (l : Launch) (G : Gl) (P : Sk) (f : St) (sz : Nat) (a : Nat) (ha : IsWord P a) (b1 : Nat) (hb1 : IsWord P b1) (K : Int32 → St → Prop) (I26 : St → Int32 → Prop) (μ26 : St → Int32 → Nat) 
  (h : vX6_isSame P f a b1 I26 K)
  (h26 : ∀ (g : St) (x2 : Int32) , I26 g x2 → bX6_isSame_26 P a b1 (fun g' z0 => I26 g' z0 ∧ μ26 g' z0 < μ26 g x2) K g x2) :
  Met l yX6_isSame (wU yX6_isSame cX6_isSame 3 (some .boolean)) rmX6_isSame (PcW G P f sz [.ref a, .ref b1]) (QcI G P sz K) 0 0 (frA P sz) := by
  refine v_met (own := RX6) [.ref a, .ref b1] (by decide +kernel) rfl (Nat.le_of_ble_eq_true rfl) (fun p e s m args below meth c hsz o hr hnm => ?_)
  refine v_lv (lv2 := [(0, .ref a), (1, .ref b1)]) rfl ?_
  have main : ∀ n : Nat, (∀ (g : St) (x2 : Int32) , I26 g x2 → μ26 g x2 < n → V p l e rmX6_isSame s m args below meth c 3 G (frA P sz) (MQ below (QcI G P sz K) args s 0 0 (frA P sz)) 0 0 P [(0, .ref a), (1, .ref b1), (2, .int x2)] [] 26 g) := by
    intro n
    induction n with
    | zero => exact fun g x2 hI hm => absurd hm (Nat.not_lt_zero _)
    | succ n ih =>
      intro g x2 hI hm
      have h := h26 g x2 hI
      clear hI
      unfold bX6_isSame_26 at h
      refine v_iload_n o 2 dX6_isSame_26 rfl ?_
      refine v_aload_n o 0 dX6_isSame_27 rfl ?_
      refine v_gfI o lkX6_24 (by decide) (wfWord_o ha) dX6_isSame_28 ?_
      refine v_icmp_ge o (tgt := 55) dX6_isSame_31 (by decide) (fun c31 => ?_) (fun c31 => ?_)
      · replace h := h.1 c31
        refine v_iconst o (v := 1) dX6_isSame_55 (by decide) ?_
        exact v_zret o rfl hr bz1.1 dX6_isSame_56 h
      · replace h := h.2 c31
        refine v_aload_n o 0 dX6_isSame_34 rfl ?_
        refine v_iload_n o 2 dX6_isSame_35 rfl ?_
        refine v_cVi o [.int x2] [] (fun sz => metX6_codeAt l G P g sz a ha x2 _ h) (cwX6_35 o.1.2.2.2.2 (by decide)) ⟨_, _, rfl⟩ (by decide) (wfWord_o ha) rfl (Nat.le_of_ble_eq_true rfl) ⟨Nat.le_of_ble_eq_true rfl, Nat.le_of_ble_eq_true rfl⟩ dX6_isSame_36 rfl (fun r36 g36 h => ?_)
        refine v_aload_n o 1 dX6_isSame_39 rfl ?_
        refine v_iload_n o 2 dX6_isSame_40 rfl ?_
        refine v_cVi o [.int x2] [.int r36] (fun sz => metX6_codeAt l G P g36 sz b1 hb1 x2 _ h) (cwX6_35 o.1.2.2.2.2 (by decide)) ⟨_, _, rfl⟩ (by decide) (wfWord_o hb1) rfl (Nat.le_of_ble_eq_true rfl) ⟨Nat.le_of_ble_eq_true rfl, Nat.le_of_ble_eq_true rfl⟩ dX6_isSame_41 rfl (fun r41 g41 h => ?_)
        refine v_icmp_eq o (tgt := 49) dX6_isSame_44 (by decide) (fun c44 => ?_) (fun c44 => ?_)
        · replace h := h.1 c44
          obtain ⟨x2_49, ex2_49⟩ : ∃ y : Int32, y = x2 + 1 := ⟨_, rfl⟩
          replace h := h x2_49 ex2_49
          refine v_iinc o (v := x2_49) (lv' := [(2, .int x2_49), (0, .ref a), (1, .ref b1)]) 2 dX6_isSame_49 rfl (by rw [ex2_49]; rfl) (by decide) rfl ?_
          refine v_goto o (tgt := 26) dX6_isSame_52 (by decide) ?_
          refine v_sub [1, 2, 0] (lv2 := [(0, .ref a), (1, .ref b1), (2, .int x2_49)]) rfl ?_
          exact ih g41 x2_49  h.1 (by have := h.2; omega)
        · replace h := h.2 c44
          refine v_iconst o (v := 0) dX6_isSame_47 (by decide) ?_
          exact v_zret o rfl hr bz0.1 dX6_isSame_48 h
  unfold vX6_isSame at h
  refine v_aload_n o 0 dX6_isSame_0 rfl ?_
  refine v_gfI o lkX6_20 (by decide) (wfWord_o ha) dX6_isSame_1 ?_
  refine v_aload_n o 1 dX6_isSame_4 rfl ?_
  refine v_gfI o lkX6_20 (by decide) (wfWord_o hb1) dX6_isSame_5 ?_
  refine v_icmp_ne o (tgt := 22) dX6_isSame_8 (by decide) (fun c8 => ?_) (fun c8 => ?_)
  · replace h := h.1 c8
    refine v_iconst o (v := 0) dX6_isSame_22 (by decide) ?_
    exact v_zret o rfl hr bz0.1 dX6_isSame_23 h
  · replace h := h.2 c8
    refine v_aload_n o 0 dX6_isSame_11 rfl ?_
    refine v_gfI o lkX6_24 (by decide) (wfWord_o ha) dX6_isSame_12 ?_
    refine v_aload_n o 1 dX6_isSame_15 rfl ?_
    refine v_gfI o lkX6_24 (by decide) (wfWord_o hb1) dX6_isSame_16 ?_
    refine v_icmp_eq o (tgt := 24) dX6_isSame_19 (by decide) (fun c19 => ?_) (fun c19 => ?_)
    · replace h := h.1 c19
      refine v_iconst o (v := 0) dX6_isSame_24 (by decide) ?_
      refine v_istore_n o (lv' := [(2, .int 0), (0, .ref a), (1, .ref b1)]) dX6_isSame_25 rfl (by decide) rfl ?_
      refine v_sub [1, 2, 0] (lv2 := [(0, .ref a), (1, .ref b1), (2, .int 0)]) rfl ?_
      exact (main (μ26 f 0 + 1)) f 0  h (Nat.lt_succ_self _)
    · replace h := h.2 c19
      refine v_iconst o (v := 0) dX6_isSame_22 (by decide) ?_
      exact v_zret o rfl hr bz0.1 dX6_isSame_23 h
def kX6_isSame (P : Sk) (f : St) (a : Nat) (b1 : Nat) (K : Int32 → St → Prop) : Prop := False
theorem metX6_isSame (l : Launch) (G : Gl) (P : Sk) (f : St) (sz : Nat) (a : Nat) (ha : IsWord P a) (b1 : Nat) (hb1 : IsWord P b1) (K : Int32 → St → Prop) (h : kX6_isSame P f a b1 K) : Met l yX6_isSame (wU yX6_isSame cX6_isSame 3 (some .boolean)) rmX6_isSame (PcW G P f sz [.ref a, .ref b1]) (QcI G P sz K) 0 0 (frA P sz) := sorry

def jX6_rightLessLeft_29 (P : Sk) (a : Nat) (L4 : St → Int32 → Int32 → Prop) (K : Int32 → St → Prop) (x1 : Int32) (x2 : Int32) (y0 : Int32) (y1 : Int32) (f : St) : Prop :=
  ∀ x1_30 : Int32, x1_30 = y0 + y1 → ∀ x2_31 : Int32, x2_31 = x2 + 1 → L4 f x1_30 x2_31
def bX6_rightLessLeft_4 (P : Sk) (a : Nat) (L4 : St → Int32 → Int32 → Prop) (K : Int32 → St → Prop) (f : St) (x1 : Int32) (x2 : Int32) : Prop :=
  (f a 2 ≤ x2 → K x1 f) ∧ (¬ f a 2 ≤ x2 → kX6_codeAt P f a x2 (fun r15 g15 => kX6_isRight P g15 r15 (fun r18 g18 => (r18 = 0 → jX6_rightLessLeft_29 P a L4 K x1 x2 x1 (-1) g18) ∧ (¬ r18 = 0 → jX6_rightLessLeft_29 P a L4 K x1 x2 x1 1 g18))))
def vX6_rightLessLeft (P : Sk) (f : St) (a : Nat) (L4 : St → Int32 → Int32 → Prop) (K : Int32 → St → Prop) : Prop :=
  L4 f 0 0
set_option maxRecDepth 20000 in
set_option maxHeartbeats 4000000 in
theorem mX6_rightLessLeft (l : Launch) (G : Gl) (P : Sk) (f : St) (sz : Nat) (a : Nat) (ha : IsWord P a) (K : Int32 → St → Prop) (I4 : St → Int32 → Int32 → Prop) (μ4 : St → Int32 → Int32 → Nat) 
  (h : vX6_rightLessLeft P f a I4 K)
  (h4 : ∀ (g : St) (x1 : Int32) (x2 : Int32) , I4 g x1 x2 → bX6_rightLessLeft_4 P a (fun g' z0 z1 => I4 g' z0 z1 ∧ μ4 g' z0 z1 < μ4 g x1 x2) K g x1 x2) :
  Met l yX6_rightLessLeft (wU yX6_rightLessLeft cX6_rightLessLeft 3 (some .int)) rmX6_rightLessLeft (PcW G P f sz [.ref a]) (QcI G P sz K) 0 0 (frA P sz) := by
  refine v_met (own := RX6) [.ref a] (by decide +kernel) rfl (Nat.le_of_ble_eq_true rfl) (fun p e s m args below meth c hsz o hr hnm => ?_)
  refine v_lv (lv2 := [(0, .ref a)]) rfl ?_
  have main : ∀ n : Nat, (∀ (g : St) (x1 : Int32) (x2 : Int32) , I4 g x1 x2 → μ4 g x1 x2 < n → V p l e rmX6_rightLessLeft s m args below meth c 3 G (frA P sz) (MQ below (QcI G P sz K) args s 0 0 (frA P sz)) 0 0 P [(0, .ref a), (1, .int x1), (2, .int x2)] [] 4 g) := by
    intro n
    induction n with
    | zero => exact fun g x1 x2 hI hm => absurd hm (Nat.not_lt_zero _)
    | succ n ih =>
      intro g x1 x2 hI hm
      have h := h4 g x1 x2 hI
      clear hI
      have J29 : ∀ (x1_29 : Int32) (x2_29 : Int32) (y0_29 : Int32) (y1_29 : Int32) (g29 : St), jX6_rightLessLeft_29 P a (fun g' z0 z1 => I4 g' z0 z1 ∧ μ4 g' z0 z1 < μ4 g x1 x2) K x1_29 x2_29 y0_29 y1_29 g29 → V p l e rmX6_rightLessLeft s m args below meth c 3 G (frA P sz) (MQ below (QcI G P sz K) args s 0 0 (frA P sz)) 0 0 P [(0, .ref a), (1, .int x1_29), (2, .int x2_29)] [.int y1_29, .int y0_29] 29 g29 := by
        intro x1_29 x2_29 y0_29 y1_29 g29  h
        unfold jX6_rightLessLeft_29 at h
        refine v_iadd o dX6_rightLessLeft_29 ?_
        refine v_topi (fun x1_30 ex1_30 => ?_)
        replace h := h x1_30 ex1_30
        refine v_istore_n o (lv' := [(1, .int x1_30), (0, .ref a), (2, .int x2_29)]) dX6_rightLessLeft_30 rfl (by decide) rfl ?_
        obtain ⟨x2_31, ex2_31⟩ : ∃ y : Int32, y = x2_29 + 1 := ⟨_, rfl⟩
        replace h := h x2_31 ex2_31
        refine v_iinc o (v := x2_31) (lv' := [(2, .int x2_31), (1, .int x1_30), (0, .ref a)]) 2 dX6_rightLessLeft_31 rfl (by rw [ex2_31]; rfl) (by decide) rfl ?_
        refine v_goto o (tgt := 4) dX6_rightLessLeft_34 (by decide) ?_
        refine v_sub [2, 1, 0] (lv2 := [(0, .ref a), (1, .int x1_30), (2, .int x2_31)]) rfl ?_
        exact ih g29 x1_30 x2_31  h.1 (by have := h.2; omega)
      unfold bX6_rightLessLeft_4 at h
      refine v_iload_n o 2 dX6_rightLessLeft_4 rfl ?_
      refine v_aload_n o 0 dX6_rightLessLeft_5 rfl ?_
      refine v_gfI o lkX6_24 (by decide) (wfWord_o ha) dX6_rightLessLeft_6 ?_
      refine v_icmp_ge o (tgt := 37) dX6_rightLessLeft_9 (by decide) (fun c9 => ?_) (fun c9 => ?_)
      · replace h := h.1 c9
        refine v_iload_n o 1 dX6_rightLessLeft_37 rfl ?_
        exact v_iret o rfl hr dX6_rightLessLeft_38 h
      · replace h := h.2 c9
        refine v_iload_n o 1 dX6_rightLessLeft_12 rfl ?_
        refine v_aload_n o 0 dX6_rightLessLeft_13 rfl ?_
        refine v_iload_n o 2 dX6_rightLessLeft_14 rfl ?_
        refine v_cVi o [.int x2] [.int x1] (fun sz => metX6_codeAt l G P g sz a ha x2 _ h) (cwX6_35 o.1.2.2.2.2 (by decide)) ⟨_, _, rfl⟩ (by decide) (wfWord_o ha) rfl (Nat.le_of_ble_eq_true rfl) ⟨Nat.le_of_ble_eq_true rfl, Nat.le_of_ble_eq_true rfl⟩ dX6_rightLessLeft_15 rfl (fun r15 g15 h => ?_)
        refine v_cSi o [.int r15] [.int x1] (fun sz => metX6_isRight l G P g15 sz r15 _ h) (cwX6_48 o.1.2.2.2.2 (by decide)) rfl (Nat.le_of_ble_eq_true rfl) ⟨Nat.le_of_ble_eq_true rfl, Nat.le_of_ble_eq_true rfl⟩ dX6_rightLessLeft_18 rfl (fun r18 g18 h => ?_)
        refine v_if_eq o (tgt := 28) dX6_rightLessLeft_21 (by decide) (fun c21 => ?_) (fun c21 => ?_)
        · replace h := h.1 c21
          refine v_iconst o (v := (-1)) dX6_rightLessLeft_28 (by decide) ?_
          refine v_sub [0, 1, 2] (lv2 := [(0, .ref a), (1, .int x1), (2, .int x2)]) rfl ?_
          exact J29 x1 x2 x1 (-1) g18  h
        · replace h := h.2 c21
          refine v_iconst o (v := 1) dX6_rightLessLeft_24 (by decide) ?_
          refine v_goto o (tgt := 29) dX6_rightLessLeft_25 (by decide) ?_
          refine v_sub [0, 1, 2] (lv2 := [(0, .ref a), (1, .int x1), (2, .int x2)]) rfl ?_
          exact J29 x1 x2 x1 1 g18  h
  unfold vX6_rightLessLeft at h
  refine v_iconst o (v := 0) dX6_rightLessLeft_0 (by decide) ?_
  refine v_istore_n o (lv' := [(1, .int 0), (0, .ref a)]) dX6_rightLessLeft_1 rfl (by decide) rfl ?_
  refine v_iconst o (v := 0) dX6_rightLessLeft_2 (by decide) ?_
  refine v_istore_n o (lv' := [(2, .int 0), (1, .int 0), (0, .ref a)]) dX6_rightLessLeft_3 rfl (by decide) rfl ?_
  refine v_sub [2, 1, 0] (lv2 := [(0, .ref a), (1, .int 0), (2, .int 0)]) rfl ?_
  exact (main (μ4 f 0 0 + 1)) f 0 0  h (Nat.lt_succ_self _)
def kX6_rightLessLeft (P : Sk) (f : St) (a : Nat) (K : Int32 → St → Prop) : Prop := False
theorem metX6_rightLessLeft (l : Launch) (G : Gl) (P : Sk) (f : St) (sz : Nat) (a : Nat) (ha : IsWord P a) (K : Int32 → St → Prop) (h : kX6_rightLessLeft P f a K) : Met l yX6_rightLessLeft (wU yX6_rightLessLeft cX6_rightLessLeft 3 (some .int)) rmX6_rightLessLeft (PcW G P f sz [.ref a]) (QcI G P sz K) 0 0 (frA P sz) := sorry

def vX6_turned (P : Sk) (f : St) (a : Nat) (p1 : Int32) (K : Int32 → St → Prop) : Prop :=
  kX6_placeOf P f p1 (fun r7 g7 => kX6_isRight P g7 p1 (fun r12 g12 => kX6_codeOf P g12 (((f a 1) - 2) - r7) r12 (fun r15 g15 => K r15 g15)))
set_option maxRecDepth 20000 in
set_option maxHeartbeats 4000000 in
theorem mX6_turned (l : Launch) (G : Gl) (P : Sk) (f : St) (sz : Nat) (a : Nat) (ha : IsWord P a) (p1 : Int32) (K : Int32 → St → Prop) (h : vX6_turned P f a p1 K)  :
  Met l yX6_turned (wU yX6_turned cX6_turned 2 (some .int)) rmX6_turned (PcW G P f sz [.ref a, .int p1]) (QcI G P sz K) 0 0 (frA P sz) := by
  refine v_met (own := RX6) [.ref a, .int p1] (by decide +kernel) rfl (Nat.le_of_ble_eq_true rfl) (fun p e s m args below meth c hsz o hr hnm => ?_)
  refine v_lv (lv2 := [(0, .ref a), (1, .int p1)]) rfl ?_
  unfold vX6_turned at h
  refine v_aload_n o 0 dX6_turned_0 rfl ?_
  refine v_gfI o lkX6_20 (by decide) (wfWord_o ha) dX6_turned_1 ?_
  refine v_iconst o (v := 2) dX6_turned_4 (by decide) ?_
  refine v_isub o dX6_turned_5 ?_
  refine v_iload_n o 1 dX6_turned_6 rfl ?_
  refine v_cSi o [.int p1] [.int ((f a 1) - 2)] (fun sz => metX6_placeOf l G P f sz p1 _ h) (cwX6_65 o.1.2.2.2.2 (by decide)) rfl (Nat.le_of_ble_eq_true rfl) ⟨Nat.le_of_ble_eq_true rfl, Nat.le_of_ble_eq_true rfl⟩ dX6_turned_7 rfl (fun r7 g7 h => ?_)
  refine v_isub o dX6_turned_10 ?_
  refine v_iload_n o 1 dX6_turned_11 rfl ?_
  refine v_cSi o [.int p1] [.int (((f a 1) - 2) - r7)] (fun sz => metX6_isRight l G P g7 sz p1 _ h) (cwX6_48 o.1.2.2.2.2 (by decide)) rfl (Nat.le_of_ble_eq_true rfl) ⟨Nat.le_of_ble_eq_true rfl, Nat.le_of_ble_eq_true rfl⟩ dX6_turned_12 rfl (fun r12 g12 h => ?_)
  refine v_cSi o [.int (((f a 1) - 2) - r7), .int r12] [] (fun sz => metX6_codeOf l G P g12 sz (((f a 1) - 2) - r7) r12 _ h) (cwX6_68 o.1.2.2.2.2 (by decide)) rfl (Nat.le_of_ble_eq_true rfl) ⟨Nat.le_of_ble_eq_true rfl, Nat.le_of_ble_eq_true rfl⟩ dX6_turned_15 rfl (fun r15 g15 h => ?_)
  exact v_iret o rfl hr dX6_turned_18 h
abbrev kX6_turned := @vX6_turned
abbrev metX6_turned := @mX6_turned

def jX6_makeChanged_106 (P : Sk) (a : Nat) (b1 : Nat) (p2 : Int32) (L21 : St → Int32 → Prop) (K : St → Prop) (x3 : Int32) (f : St) : Prop :=
  ∀ x3_106 : Int32, x3_106 = x3 + 1 → L21 f x3_106
def bX6_makeChanged_21 (P : Sk) (a : Nat) (b1 : Nat) (p2 : Int32) (L21 : St → Int32 → Prop) (K : St → Prop) (f : St) (x3 : Int32) : Prop :=
  (f b1 2 ≤ x3 → K f) ∧ (¬ f b1 2 ≤ x3 → (p2 = 0 → kX6_codeAt P f b1 x3 (fun r59 g59 => kX6_flipped P g59 r59 (fun r62 g62 => kX6_add P g62 a r62 (fun g65 => jX6_makeChanged_106 P a b1 p2 L21 K x3 g65)))) ∧ (¬ p2 = 0 → (p2 = 1 → kX6_codeAt P f b1 x3 (fun r75 g75 => kX6_turned P g75 a r75 (fun r78 g78 => kX6_add P g78 a r78 (fun g81 => jX6_makeChanged_106 P a b1 p2 L21 K x3 g81)))) ∧ (¬ p2 = 1 → kX6_codeAt P f b1 (((f b1 2) - 1) - x3) (fun r97 g97 => kX6_flipped P g97 r97 (fun r100 g100 => kX6_add P g100 a r100 (fun g103 => jX6_makeChanged_106 P a b1 p2 L21 K x3 g103))))))
def vX6_makeChanged (P : Sk) (f : St) (a : Nat) (b1 : Nat) (p2 : Int32) (L21 : St → Int32 → Prop) (K : St → Prop) : Prop :=
  (¬ p2 = 3 → kX6_begin P f a (f b1 1) (fun g16 => L21 g16 0)) ∧ (p2 = 3 → kX6_makeLoose P f a b1 (fun g7 => K g7))
set_option maxRecDepth 20000 in
set_option maxHeartbeats 4000000 in
theorem mX6_makeChanged (l : Launch) (G : Gl) (P : Sk) (f : St) (sz : Nat) (a : Nat) (ha : IsWord P a) (b1 : Nat) (hb1 : IsWord P b1) (p2 : Int32) (K : St → Prop) (I21 : St → Int32 → Prop) (μ21 : St → Int32 → Nat) 
  (h : vX6_makeChanged P f a b1 p2 I21 K)
  (h21 : ∀ (g : St) (x3 : Int32) , I21 g x3 → bX6_makeChanged_21 P a b1 p2 (fun g' z0 => I21 g' z0 ∧ μ21 g' z0 < μ21 g x3) K g x3) :
  Met l yX6_makeChanged (wU yX6_makeChanged cX6_makeChanged 4 none) rmX6_makeChanged (PcW G P f sz [.ref a, .ref b1, .int p2]) (QcV G P sz K) 0 0 (frA P sz) := by
  refine v_met (own := RX6) [.ref a, .ref b1, .int p2] (by decide +kernel) rfl (Nat.le_of_ble_eq_true rfl) (fun p e s m args below meth c hsz o hr hnm => ?_)
  refine v_lv (lv2 := [(0, .ref a), (1, .ref b1), (2, .int p2)]) rfl ?_
  have main : ∀ n : Nat, (∀ (g : St) (x3 : Int32) , I21 g x3 → μ21 g x3 < n → V p l e rmX6_makeChanged s m args below meth c 4 G (frA P sz) (MQ below (QcV G P sz K) args s 0 0 (frA P sz)) 0 0 P [(0, .ref a), (1, .ref b1), (2, .int p2), (3, .int x3)] [] 21 g) := by
    intro n
    induction n with
    | zero => exact fun g x3 hI hm => absurd hm (Nat.not_lt_zero _)
    | succ n ih =>
      intro g x3 hI hm
      have h := h21 g x3 hI
      clear hI
      have J106 : ∀ (x3_106 : Int32) (g106 : St), jX6_makeChanged_106 P a b1 p2 (fun g' z0 => I21 g' z0 ∧ μ21 g' z0 < μ21 g x3) K x3_106 g106 → V p l e rmX6_makeChanged s m args below meth c 4 G (frA P sz) (MQ below (QcV G P sz K) args s 0 0 (frA P sz)) 0 0 P [(0, .ref a), (1, .ref b1), (2, .int p2), (3, .int x3_106)] [] 106 g106 := by
        intro x3_106 g106  h
        unfold jX6_makeChanged_106 at h
        obtain ⟨x3_106, ex3_106⟩ : ∃ y : Int32, y = x3_106 + 1 := ⟨_, rfl⟩
        replace h := h x3_106 ex3_106
        refine v_iinc o (v := x3_106) (lv' := [(3, .int x3_106), (0, .ref a), (1, .ref b1), (2, .int p2)]) 3 dX6_makeChanged_106 rfl (by rw [ex3_106]; rfl) (by decide) rfl ?_
        refine v_goto o (tgt := 21) dX6_makeChanged_109 (by decide) ?_
        refine v_sub [1, 2, 3, 0] (lv2 := [(0, .ref a), (1, .ref b1), (2, .int p2), (3, .int x3_106)]) rfl ?_
        exact ih g106 x3_106  h.1 (by have := h.2; omega)
      unfold bX6_makeChanged_21 at h
      refine v_iload_n o 3 dX6_makeChanged_21 rfl ?_
      refine v_aload_n o 1 dX6_makeChanged_22 rfl ?_
      refine v_gfI o lkX6_24 (by decide) (wfWord_o hb1) dX6_makeChanged_23 ?_
      refine v_icmp_ge o (tgt := 112) dX6_makeChanged_26 (by decide) (fun c26 => ?_) (fun c26 => ?_)
      · replace h := h.1 c26
        exact v_vret o rfl hr dX6_makeChanged_112 h
      · replace h := h.2 c26
        refine v_iload_n o 2 dX6_makeChanged_29 rfl ?_
        by_cases c30_0 : p2 = 0
        · replace h := h.1 c30_0
          refine v_lookup o (off := 26) (tgt := 56) dX6_makeChanged_30 (by decide) (by rw [c30_0]; decide) (by decide) ?_
          refine v_aload_n o 0 dX6_makeChanged_56 rfl ?_
          refine v_aload_n o 1 dX6_makeChanged_57 rfl ?_
          refine v_iload_n o 3 dX6_makeChanged_58 rfl ?_
          refine v_cVi o [.int x3] [.ref a] (fun sz => metX6_codeAt l G P g sz b1 hb1 x3 _ h) (cwX6_35 o.1.2.2.2.2 (by decide)) ⟨_, _, rfl⟩ (by decide) (wfWord_o hb1) rfl (Nat.le_of_ble_eq_true rfl) ⟨Nat.le_of_ble_eq_true rfl, Nat.le_of_ble_eq_true rfl⟩ dX6_makeChanged_59 rfl (fun r59 g59 h => ?_)
          refine v_cSi o [.int r59] [.ref a] (fun sz => metX6_flipped l G P g59 sz r59 _ h) (cwX6_59 o.1.2.2.2.2 (by decide)) rfl (Nat.le_of_ble_eq_true rfl) ⟨Nat.le_of_ble_eq_true rfl, Nat.le_of_ble_eq_true rfl⟩ dX6_makeChanged_62 rfl (fun r62 g62 h => ?_)
          refine v_cVv o [.int r62] [] (fun sz => metX6_add l G P g62 sz a ha r62 _ h) (cwX6_38 o.1.2.2.2.2 (by decide)) ⟨_, _, rfl⟩ (by decide) (wfWord_o ha) rfl (Nat.le_of_ble_eq_true rfl) ⟨Nat.le_of_ble_eq_true rfl, Nat.le_of_ble_eq_true rfl⟩ dX6_makeChanged_65 rfl (fun g65 h => ?_)
          refine v_goto o (tgt := 106) dX6_makeChanged_68 (by decide) ?_
          refine v_sub [0, 1, 2, 3] (lv2 := [(0, .ref a), (1, .ref b1), (2, .int p2), (3, .int x3)]) rfl ?_
          exact J106 x3 g65  h
        · replace h := h.2 c30_0
          by_cases c30_1 : p2 = 1
          · replace h := h.1 c30_1
            refine v_lookup o (off := 41) (tgt := 71) dX6_makeChanged_30 (by decide) (by rw [c30_1]; decide) (by decide) ?_
            refine v_aload_n o 0 dX6_makeChanged_71 rfl ?_
            refine v_aload_n o 0 dX6_makeChanged_72 rfl ?_
            refine v_aload_n o 1 dX6_makeChanged_73 rfl ?_
            refine v_iload_n o 3 dX6_makeChanged_74 rfl ?_
            refine v_cVi o [.int x3] [.ref a, .ref a] (fun sz => metX6_codeAt l G P g sz b1 hb1 x3 _ h) (cwX6_35 o.1.2.2.2.2 (by decide)) ⟨_, _, rfl⟩ (by decide) (wfWord_o hb1) rfl (Nat.le_of_ble_eq_true rfl) ⟨Nat.le_of_ble_eq_true rfl, Nat.le_of_ble_eq_true rfl⟩ dX6_makeChanged_75 rfl (fun r75 g75 h => ?_)
            refine v_cVi o [.int r75] [.ref a] (fun sz => metX6_turned l G P g75 sz a ha r75 _ h) (cwX6_62 o.1.2.2.2.2 (by decide)) ⟨_, _, rfl⟩ (by decide) (wfWord_o ha) rfl (Nat.le_of_ble_eq_true rfl) ⟨Nat.le_of_ble_eq_true rfl, Nat.le_of_ble_eq_true rfl⟩ dX6_makeChanged_78 rfl (fun r78 g78 h => ?_)
            refine v_cVv o [.int r78] [] (fun sz => metX6_add l G P g78 sz a ha r78 _ h) (cwX6_38 o.1.2.2.2.2 (by decide)) ⟨_, _, rfl⟩ (by decide) (wfWord_o ha) rfl (Nat.le_of_ble_eq_true rfl) ⟨Nat.le_of_ble_eq_true rfl, Nat.le_of_ble_eq_true rfl⟩ dX6_makeChanged_81 rfl (fun g81 h => ?_)
            refine v_goto o (tgt := 106) dX6_makeChanged_84 (by decide) ?_
            refine v_sub [0, 1, 2, 3] (lv2 := [(0, .ref a), (1, .ref b1), (2, .int p2), (3, .int x3)]) rfl ?_
            exact J106 x3 g81  h
          · replace h := h.2 c30_1
            refine v_lookup o (off := 57) (tgt := 87) dX6_makeChanged_30 (by decide) (by show Op.lookupswitch.offset [(0, 26), (1, 41)] _ _ = _; rw [lv_osw c30_0 (by decide), lv_osw c30_1 (by decide)]; rfl) (by decide) ?_
            refine v_aload_n o 0 dX6_makeChanged_87 rfl ?_
            refine v_aload_n o 1 dX6_makeChanged_88 rfl ?_
            refine v_aload_n o 1 dX6_makeChanged_89 rfl ?_
            refine v_gfI o lkX6_24 (by decide) (wfWord_o hb1) dX6_makeChanged_90 ?_
            refine v_iconst o (v := 1) dX6_makeChanged_93 (by decide) ?_
            refine v_isub o dX6_makeChanged_94 ?_
            refine v_iload_n o 3 dX6_makeChanged_95 rfl ?_
            refine v_isub o dX6_makeChanged_96 ?_
            refine v_cVi o [.int (((g b1 2) - 1) - x3)] [.ref a] (fun sz => metX6_codeAt l G P g sz b1 hb1 (((g b1 2) - 1) - x3) _ h) (cwX6_35 o.1.2.2.2.2 (by decide)) ⟨_, _, rfl⟩ (by decide) (wfWord_o hb1) rfl (Nat.le_of_ble_eq_true rfl) ⟨Nat.le_of_ble_eq_true rfl, Nat.le_of_ble_eq_true rfl⟩ dX6_makeChanged_97 rfl (fun r97 g97 h => ?_)
            refine v_cSi o [.int r97] [.ref a] (fun sz => metX6_flipped l G P g97 sz r97 _ h) (cwX6_59 o.1.2.2.2.2 (by decide)) rfl (Nat.le_of_ble_eq_true rfl) ⟨Nat.le_of_ble_eq_true rfl, Nat.le_of_ble_eq_true rfl⟩ dX6_makeChanged_100 rfl (fun r100 g100 h => ?_)
            refine v_cVv o [.int r100] [] (fun sz => metX6_add l G P g100 sz a ha r100 _ h) (cwX6_38 o.1.2.2.2.2 (by decide)) ⟨_, _, rfl⟩ (by decide) (wfWord_o ha) rfl (Nat.le_of_ble_eq_true rfl) ⟨Nat.le_of_ble_eq_true rfl, Nat.le_of_ble_eq_true rfl⟩ dX6_makeChanged_103 rfl (fun g103 h => ?_)
            refine v_sub [0, 1, 2, 3] (lv2 := [(0, .ref a), (1, .ref b1), (2, .int p2), (3, .int x3)]) rfl ?_
            exact J106 x3 g103  h
  unfold vX6_makeChanged at h
  refine v_iload_n o 2 dX6_makeChanged_0 rfl ?_
  refine v_iconst o (v := 3) dX6_makeChanged_1 (by decide) ?_
  refine v_icmp_ne o (tgt := 11) dX6_makeChanged_2 (by decide) (fun c2 => ?_) (fun c2 => ?_)
  · replace h := h.1 c2
    refine v_aload_n o 0 dX6_makeChanged_11 rfl ?_
    refine v_aload_n o 1 dX6_makeChanged_12 rfl ?_
    refine v_gfI o lkX6_20 (by decide) (wfWord_o hb1) dX6_makeChanged_13 ?_
    refine v_cVv o [.int (f b1 1)] [] (fun sz => metX6_begin l G P f sz a ha (f b1 1) _ h) (cwX6_56 o.1.2.2.2.2 (by decide)) ⟨_, _, rfl⟩ (by decide) (wfWord_o ha) rfl (Nat.le_of_ble_eq_true rfl) ⟨Nat.le_of_ble_eq_true rfl, Nat.le_of_ble_eq_true rfl⟩ dX6_makeChanged_16 rfl (fun g16 h => ?_)
    refine v_iconst o (v := 0) dX6_makeChanged_19 (by decide) ?_
    refine v_istore_n o (lv' := [(3, .int 0), (0, .ref a), (1, .ref b1), (2, .int p2)]) dX6_makeChanged_20 rfl (by decide) rfl ?_
    refine v_sub [1, 2, 3, 0] (lv2 := [(0, .ref a), (1, .ref b1), (2, .int p2), (3, .int 0)]) rfl ?_
    exact (main (μ21 g16 0 + 1)) g16 0  h (Nat.lt_succ_self _)
  · replace h := h.2 c2
    refine v_aload_n o 0 dX6_makeChanged_5 rfl ?_
    refine v_aload_n o 1 dX6_makeChanged_6 rfl ?_
    refine v_cVv o [.ref b1] [] (fun sz => metX6_makeLoose l G P f sz a ha b1 hb1 _ h) (cwX6_52 o.1.2.2.2.2 (by decide)) ⟨_, _, rfl⟩ (by decide) (wfWord_o ha) rfl (Nat.le_of_ble_eq_true rfl) ⟨Nat.le_of_ble_eq_true rfl, Nat.le_of_ble_eq_true rfl⟩ dX6_makeChanged_7 rfl (fun g7 h => ?_)
    exact v_vret o rfl hr dX6_makeChanged_10 h
def kX6_makeChanged (P : Sk) (f : St) (a : Nat) (b1 : Nat) (p2 : Int32) (K : St → Prop) : Prop := False
theorem metX6_makeChanged (l : Launch) (G : Gl) (P : Sk) (f : St) (sz : Nat) (a : Nat) (ha : IsWord P a) (b1 : Nat) (hb1 : IsWord P b1) (p2 : Int32) (K : St → Prop) (h : kX6_makeChanged P f a b1 p2 K) : Met l yX6_makeChanged (wU yX6_makeChanged cX6_makeChanged 4 none) rmX6_makeChanged (PcW G P f sz [.ref a, .ref b1, .int p2]) (QcV G P sz K) 0 0 (frA P sz) := sorry

def jX6_makeShortAtOnce_68 (P : Sk) (a : Nat) (b1 : Nat) (L10 : St → Int32 → Prop) (K : St → Prop) (x2 : Int32) (f : St) : Prop :=
  ∀ x2_68 : Int32, x2_68 = x2 + 1 → L10 f x2_68
def jX6_makeShortAtOnce_59 (P : Sk) (a : Nat) (b1 : Nat) (L10 : St → Int32 → Prop) (K : St → Prop) (x2 : Int32) (f : St) : Prop :=
  kX6_codeAt P f b1 x2 (fun r62 g62 => kX6_add P g62 a r62 (fun g65 => jX6_makeShortAtOnce_68 P a b1 L10 K x2 g65))
def bX6_makeShortAtOnce_10 (P : Sk) (a : Nat) (b1 : Nat) (L10 : St → Int32 → Prop) (K : St → Prop) (f : St) (x2 : Int32) : Prop :=
  (f b1 2 ≤ x2 → K f) ∧ (¬ f b1 2 ≤ x2 → (f a 2 ≤ 0 → jX6_makeShortAtOnce_59 P a b1 L10 K x2 f) ∧ (¬ f a 2 ≤ 0 → kX6_codeAt P f a ((f a 2) - 1) (fun r32 g32 => kX6_codeAt P g32 b1 x2 (fun r37 g37 => kX6_flipped P g37 r37 (fun r40 g40 => (¬ r32 = r40 → jX6_makeShortAtOnce_59 P a b1 L10 K x2 g40) ∧ (r32 = r40 → kX6_removeAt P g40 a ((g40 a 2) - 1) (fun g53 => jX6_makeShortAtOnce_68 P a b1 L10 K x2 g53)))))))
def vX6_makeShortAtOnce (P : Sk) (f : St) (a : Nat) (b1 : Nat) (L10 : St → Int32 → Prop) (K : St → Prop) : Prop :=
  kX6_begin P f a (f b1 1) (fun g5 => L10 g5 0)
set_option maxRecDepth 20000 in
set_option maxHeartbeats 4000000 in
theorem mX6_makeShortAtOnce (l : Launch) (G : Gl) (P : Sk) (f : St) (sz : Nat) (a : Nat) (ha : IsWord P a) (b1 : Nat) (hb1 : IsWord P b1) (K : St → Prop) (I10 : St → Int32 → Prop) (μ10 : St → Int32 → Nat) 
  (h : vX6_makeShortAtOnce P f a b1 I10 K)
  (h10 : ∀ (g : St) (x2 : Int32) , I10 g x2 → bX6_makeShortAtOnce_10 P a b1 (fun g' z0 => I10 g' z0 ∧ μ10 g' z0 < μ10 g x2) K g x2) :
  Met l yX6_makeShortAtOnce (wU yX6_makeShortAtOnce cX6_makeShortAtOnce 3 none) rmX6_makeShortAtOnce (PcW G P f sz [.ref a, .ref b1]) (QcV G P sz K) 0 0 (frA P sz) := by
  refine v_met (own := RX6) [.ref a, .ref b1] (by decide +kernel) rfl (Nat.le_of_ble_eq_true rfl) (fun p e s m args below meth c hsz o hr hnm => ?_)
  refine v_lv (lv2 := [(0, .ref a), (1, .ref b1)]) rfl ?_
  have main : ∀ n : Nat, (∀ (g : St) (x2 : Int32) , I10 g x2 → μ10 g x2 < n → V p l e rmX6_makeShortAtOnce s m args below meth c 3 G (frA P sz) (MQ below (QcV G P sz K) args s 0 0 (frA P sz)) 0 0 P [(0, .ref a), (1, .ref b1), (2, .int x2)] [] 10 g) := by
    intro n
    induction n with
    | zero => exact fun g x2 hI hm => absurd hm (Nat.not_lt_zero _)
    | succ n ih =>
      intro g x2 hI hm
      have h := h10 g x2 hI
      clear hI
      have J68 : ∀ (x2_68 : Int32) (g68 : St), jX6_makeShortAtOnce_68 P a b1 (fun g' z0 => I10 g' z0 ∧ μ10 g' z0 < μ10 g x2) K x2_68 g68 → V p l e rmX6_makeShortAtOnce s m args below meth c 3 G (frA P sz) (MQ below (QcV G P sz K) args s 0 0 (frA P sz)) 0 0 P [(0, .ref a), (1, .ref b1), (2, .int x2_68)] [] 68 g68 := by
        intro x2_68 g68  h
        unfold jX6_makeShortAtOnce_68 at h
        obtain ⟨x2_68, ex2_68⟩ : ∃ y : Int32, y = x2_68 + 1 := ⟨_, rfl⟩
        replace h := h x2_68 ex2_68
        refine v_iinc o (v := x2_68) (lv' := [(2, .int x2_68), (0, .ref a), (1, .ref b1)]) 2 dX6_makeShortAtOnce_68 rfl (by rw [ex2_68]; rfl) (by decide) rfl ?_
        refine v_goto o (tgt := 10) dX6_makeShortAtOnce_71 (by decide) ?_
        refine v_sub [1, 2, 0] (lv2 := [(0, .ref a), (1, .ref b1), (2, .int x2_68)]) rfl ?_
        exact ih g68 x2_68  h.1 (by have := h.2; omega)
      have J59 : ∀ (x2_59 : Int32) (g59 : St), jX6_makeShortAtOnce_59 P a b1 (fun g' z0 => I10 g' z0 ∧ μ10 g' z0 < μ10 g x2) K x2_59 g59 → V p l e rmX6_makeShortAtOnce s m args below meth c 3 G (frA P sz) (MQ below (QcV G P sz K) args s 0 0 (frA P sz)) 0 0 P [(0, .ref a), (1, .ref b1), (2, .int x2_59)] [] 59 g59 := by
        intro x2_59 g59  h
        unfold jX6_makeShortAtOnce_59 at h
        refine v_aload_n o 0 dX6_makeShortAtOnce_59 rfl ?_
        refine v_aload_n o 1 dX6_makeShortAtOnce_60 rfl ?_
        refine v_iload_n o 2 dX6_makeShortAtOnce_61 rfl ?_
        refine v_cVi o [.int x2_59] [.ref a] (fun sz => metX6_codeAt l G P g59 sz b1 hb1 x2_59 _ h) (cwX6_35 o.1.2.2.2.2 (by decide)) ⟨_, _, rfl⟩ (by decide) (wfWord_o hb1) rfl (Nat.le_of_ble_eq_true rfl) ⟨Nat.le_of_ble_eq_true rfl, Nat.le_of_ble_eq_true rfl⟩ dX6_makeShortAtOnce_62 rfl (fun r62 g62 h => ?_)
        refine v_cVv o [.int r62] [] (fun sz => metX6_add l G P g62 sz a ha r62 _ h) (cwX6_38 o.1.2.2.2.2 (by decide)) ⟨_, _, rfl⟩ (by decide) (wfWord_o ha) rfl (Nat.le_of_ble_eq_true rfl) ⟨Nat.le_of_ble_eq_true rfl, Nat.le_of_ble_eq_true rfl⟩ dX6_makeShortAtOnce_65 rfl (fun g65 h => ?_)
        refine v_sub [0, 1, 2] (lv2 := [(0, .ref a), (1, .ref b1), (2, .int x2_59)]) rfl ?_
        exact J68 x2_59 g65  h
      unfold bX6_makeShortAtOnce_10 at h
      refine v_iload_n o 2 dX6_makeShortAtOnce_10 rfl ?_
      refine v_aload_n o 1 dX6_makeShortAtOnce_11 rfl ?_
      refine v_gfI o lkX6_24 (by decide) (wfWord_o hb1) dX6_makeShortAtOnce_12 ?_
      refine v_icmp_ge o (tgt := 74) dX6_makeShortAtOnce_15 (by decide) (fun c15 => ?_) (fun c15 => ?_)
      · replace h := h.1 c15
        exact v_vret o rfl hr dX6_makeShortAtOnce_74 h
      · replace h := h.2 c15
        refine v_aload_n o 0 dX6_makeShortAtOnce_18 rfl ?_
        refine v_gfI o lkX6_24 (by decide) (wfWord_o ha) dX6_makeShortAtOnce_19 ?_
        refine v_if_le o (tgt := 59) dX6_makeShortAtOnce_22 (by decide) (fun c22 => ?_) (fun c22 => ?_)
        · replace h := h.1 c22
          refine v_sub [0, 1, 2] (lv2 := [(0, .ref a), (1, .ref b1), (2, .int x2)]) rfl ?_
          exact J59 x2 g  h
        · replace h := h.2 c22
          refine v_aload_n o 0 dX6_makeShortAtOnce_25 rfl ?_
          refine v_aload_n o 0 dX6_makeShortAtOnce_26 rfl ?_
          refine v_gfI o lkX6_24 (by decide) (wfWord_o ha) dX6_makeShortAtOnce_27 ?_
          refine v_iconst o (v := 1) dX6_makeShortAtOnce_30 (by decide) ?_
          refine v_isub o dX6_makeShortAtOnce_31 ?_
          refine v_cVi o [.int ((g a 2) - 1)] [] (fun sz => metX6_codeAt l G P g sz a ha ((g a 2) - 1) _ h) (cwX6_35 o.1.2.2.2.2 (by decide)) ⟨_, _, rfl⟩ (by decide) (wfWord_o ha) rfl (Nat.le_of_ble_eq_true rfl) ⟨Nat.le_of_ble_eq_true rfl, Nat.le_of_ble_eq_true rfl⟩ dX6_makeShortAtOnce_32 rfl (fun r32 g32 h => ?_)
          refine v_aload_n o 1 dX6_makeShortAtOnce_35 rfl ?_
          refine v_iload_n o 2 dX6_makeShortAtOnce_36 rfl ?_
          refine v_cVi o [.int x2] [.int r32] (fun sz => metX6_codeAt l G P g32 sz b1 hb1 x2 _ h) (cwX6_35 o.1.2.2.2.2 (by decide)) ⟨_, _, rfl⟩ (by decide) (wfWord_o hb1) rfl (Nat.le_of_ble_eq_true rfl) ⟨Nat.le_of_ble_eq_true rfl, Nat.le_of_ble_eq_true rfl⟩ dX6_makeShortAtOnce_37 rfl (fun r37 g37 h => ?_)
          refine v_cSi o [.int r37] [.int r32] (fun sz => metX6_flipped l G P g37 sz r37 _ h) (cwX6_59 o.1.2.2.2.2 (by decide)) rfl (Nat.le_of_ble_eq_true rfl) ⟨Nat.le_of_ble_eq_true rfl, Nat.le_of_ble_eq_true rfl⟩ dX6_makeShortAtOnce_40 rfl (fun r40 g40 h => ?_)
          refine v_icmp_ne o (tgt := 59) dX6_makeShortAtOnce_43 (by decide) (fun c43 => ?_) (fun c43 => ?_)
          · replace h := h.1 c43
            refine v_sub [0, 1, 2] (lv2 := [(0, .ref a), (1, .ref b1), (2, .int x2)]) rfl ?_
            exact J59 x2 g40  h
          · replace h := h.2 c43
            refine v_aload_n o 0 dX6_makeShortAtOnce_46 rfl ?_
            refine v_aload_n o 0 dX6_makeShortAtOnce_47 rfl ?_
            refine v_gfI o lkX6_24 (by decide) (wfWord_o ha) dX6_makeShortAtOnce_48 ?_
            refine v_iconst o (v := 1) dX6_makeShortAtOnce_51 (by decide) ?_
            refine v_isub o dX6_makeShortAtOnce_52 ?_
            refine v_cVv o [.int ((g40 a 2) - 1)] [] (fun sz => metX6_removeAt l G P g40 sz a ha ((g40 a 2) - 1) _ h) (cwX6_75 o.1.2.2.2.2 (by decide)) ⟨_, _, rfl⟩ (by decide) (wfWord_o ha) rfl (Nat.le_of_ble_eq_true rfl) ⟨Nat.le_of_ble_eq_true rfl, Nat.le_of_ble_eq_true rfl⟩ dX6_makeShortAtOnce_53 rfl (fun g53 h => ?_)
            refine v_goto o (tgt := 68) dX6_makeShortAtOnce_56 (by decide) ?_
            refine v_sub [0, 1, 2] (lv2 := [(0, .ref a), (1, .ref b1), (2, .int x2)]) rfl ?_
            exact J68 x2 g53  h
  unfold vX6_makeShortAtOnce at h
  refine v_aload_n o 0 dX6_makeShortAtOnce_0 rfl ?_
  refine v_aload_n o 1 dX6_makeShortAtOnce_1 rfl ?_
  refine v_gfI o lkX6_20 (by decide) (wfWord_o hb1) dX6_makeShortAtOnce_2 ?_
  refine v_cVv o [.int (f b1 1)] [] (fun sz => metX6_begin l G P f sz a ha (f b1 1) _ h) (cwX6_56 o.1.2.2.2.2 (by decide)) ⟨_, _, rfl⟩ (by decide) (wfWord_o ha) rfl (Nat.le_of_ble_eq_true rfl) ⟨Nat.le_of_ble_eq_true rfl, Nat.le_of_ble_eq_true rfl⟩ dX6_makeShortAtOnce_5 rfl (fun g5 h => ?_)
  refine v_iconst o (v := 0) dX6_makeShortAtOnce_8 (by decide) ?_
  refine v_istore_n o (lv' := [(2, .int 0), (0, .ref a), (1, .ref b1)]) dX6_makeShortAtOnce_9 rfl (by decide) rfl ?_
  refine v_sub [1, 2, 0] (lv2 := [(0, .ref a), (1, .ref b1), (2, .int 0)]) rfl ?_
  exact (main (μ10 g5 0 + 1)) g5 0  h (Nat.lt_succ_self _)
def kX6_makeShortAtOnce (P : Sk) (f : St) (a : Nat) (b1 : Nat) (K : St → Prop) : Prop := False
theorem metX6_makeShortAtOnce (l : Launch) (G : Gl) (P : Sk) (f : St) (sz : Nat) (a : Nat) (ha : IsWord P a) (b1 : Nat) (hb1 : IsWord P b1) (K : St → Prop) (h : kX6_makeShortAtOnce P f a b1 K) : Met l yX6_makeShortAtOnce (wU yX6_makeShortAtOnce cX6_makeShortAtOnce 3 none) rmX6_makeShortAtOnce (PcW G P f sz [.ref a, .ref b1]) (QcV G P sz K) 0 0 (frA P sz) := sorry

def bX6_firstPair_2 (P : Sk) (a : Nat) (L2 : St → Int32 → Prop) (K : Int32 → St → Prop) (f : St) (x1 : Int32) : Prop :=
  ((f a 2) - 1 ≤ x1 → K (-1) f) ∧ (¬ (f a 2) - 1 ≤ x1 → kX6_codeAt P f a (x1 + 1) (fun r16 g16 => kX6_codeAt P g16 a x1 (fun r21 g21 => kX6_flipped P g21 r21 (fun r24 g24 => (¬ r16 = r24 → ∀ x1_32 : Int32, x1_32 = x1 + 1 → L2 g24 x1_32) ∧ (r16 = r24 → K x1 g24)))))
def vX6_firstPair (P : Sk) (f : St) (a : Nat) (L2 : St → Int32 → Prop) (K : Int32 → St → Prop) : Prop :=
  L2 f 0
set_option maxRecDepth 20000 in
set_option maxHeartbeats 4000000 in
theorem mX6_firstPair (l : Launch) (G : Gl) (P : Sk) (f : St) (sz : Nat) (a : Nat) (ha : IsWord P a) (K : Int32 → St → Prop) (I2 : St → Int32 → Prop) (μ2 : St → Int32 → Nat) 
  (h : vX6_firstPair P f a I2 K)
  (h2 : ∀ (g : St) (x1 : Int32) , I2 g x1 → bX6_firstPair_2 P a (fun g' z0 => I2 g' z0 ∧ μ2 g' z0 < μ2 g x1) K g x1) :
  Met l yX6_firstPair (wU yX6_firstPair cX6_firstPair 2 (some .int)) rmX6_firstPair (PcW G P f sz [.ref a]) (QcI G P sz K) 0 0 (frA P sz) := by
  refine v_met (own := RX6) [.ref a] (by decide +kernel) rfl (Nat.le_of_ble_eq_true rfl) (fun p e s m args below meth c hsz o hr hnm => ?_)
  refine v_lv (lv2 := [(0, .ref a)]) rfl ?_
  have main : ∀ n : Nat, (∀ (g : St) (x1 : Int32) , I2 g x1 → μ2 g x1 < n → V p l e rmX6_firstPair s m args below meth c 2 G (frA P sz) (MQ below (QcI G P sz K) args s 0 0 (frA P sz)) 0 0 P [(0, .ref a), (1, .int x1)] [] 2 g) := by
    intro n
    induction n with
    | zero => exact fun g x1 hI hm => absurd hm (Nat.not_lt_zero _)
    | succ n ih =>
      intro g x1 hI hm
      have h := h2 g x1 hI
      clear hI
      unfold bX6_firstPair_2 at h
      refine v_iload_n o 1 dX6_firstPair_2 rfl ?_
      refine v_aload_n o 0 dX6_firstPair_3 rfl ?_
      refine v_gfI o lkX6_24 (by decide) (wfWord_o ha) dX6_firstPair_4 ?_
      refine v_iconst o (v := 1) dX6_firstPair_7 (by decide) ?_
      refine v_isub o dX6_firstPair_8 ?_
      refine v_icmp_ge o (tgt := 38) dX6_firstPair_9 (by decide) (fun c9 => ?_) (fun c9 => ?_)
      · replace h := h.1 c9
        refine v_iconst o (v := (-1)) dX6_firstPair_38 (by decide) ?_
        exact v_iret o rfl hr dX6_firstPair_39 h
      · replace h := h.2 c9
        refine v_aload_n o 0 dX6_firstPair_12 rfl ?_
        refine v_iload_n o 1 dX6_firstPair_13 rfl ?_
        refine v_iconst o (v := 1) dX6_firstPair_14 (by decide) ?_
        refine v_iadd o dX6_firstPair_15 ?_
        refine v_cVi o [.int (x1 + 1)] [] (fun sz => metX6_codeAt l G P g sz a ha (x1 + 1) _ h) (cwX6_35 o.1.2.2.2.2 (by decide)) ⟨_, _, rfl⟩ (by decide) (wfWord_o ha) rfl (Nat.le_of_ble_eq_true rfl) ⟨Nat.le_of_ble_eq_true rfl, Nat.le_of_ble_eq_true rfl⟩ dX6_firstPair_16 rfl (fun r16 g16 h => ?_)
        refine v_aload_n o 0 dX6_firstPair_19 rfl ?_
        refine v_iload_n o 1 dX6_firstPair_20 rfl ?_
        refine v_cVi o [.int x1] [.int r16] (fun sz => metX6_codeAt l G P g16 sz a ha x1 _ h) (cwX6_35 o.1.2.2.2.2 (by decide)) ⟨_, _, rfl⟩ (by decide) (wfWord_o ha) rfl (Nat.le_of_ble_eq_true rfl) ⟨Nat.le_of_ble_eq_true rfl, Nat.le_of_ble_eq_true rfl⟩ dX6_firstPair_21 rfl (fun r21 g21 h => ?_)
        refine v_cSi o [.int r21] [.int r16] (fun sz => metX6_flipped l G P g21 sz r21 _ h) (cwX6_59 o.1.2.2.2.2 (by decide)) rfl (Nat.le_of_ble_eq_true rfl) ⟨Nat.le_of_ble_eq_true rfl, Nat.le_of_ble_eq_true rfl⟩ dX6_firstPair_24 rfl (fun r24 g24 h => ?_)
        refine v_icmp_ne o (tgt := 32) dX6_firstPair_27 (by decide) (fun c27 => ?_) (fun c27 => ?_)
        · replace h := h.1 c27
          obtain ⟨x1_32, ex1_32⟩ : ∃ y : Int32, y = x1 + 1 := ⟨_, rfl⟩
          replace h := h x1_32 ex1_32
          refine v_iinc o (v := x1_32) (lv' := [(1, .int x1_32), (0, .ref a)]) 1 dX6_firstPair_32 rfl (by rw [ex1_32]; rfl) (by decide) rfl ?_
          refine v_goto o (tgt := 2) dX6_firstPair_35 (by decide) ?_
          refine v_sub [1, 0] (lv2 := [(0, .ref a), (1, .int x1_32)]) rfl ?_
          exact ih g24 x1_32  h.1 (by have := h.2; omega)
        · replace h := h.2 c27
          refine v_iload_n o 1 dX6_firstPair_30 rfl ?_
          exact v_iret o rfl hr dX6_firstPair_31 h
  unfold vX6_firstPair at h
  refine v_iconst o (v := 0) dX6_firstPair_0 (by decide) ?_
  refine v_istore_n o (lv' := [(1, .int 0), (0, .ref a)]) dX6_firstPair_1 rfl (by decide) rfl ?_
  refine v_sub [1, 0] (lv2 := [(0, .ref a), (1, .int 0)]) rfl ?_
  exact (main (μ2 f 0 + 1)) f 0  h (Nat.lt_succ_self _)
def kX6_firstPair (P : Sk) (f : St) (a : Nat) (K : Int32 → St → Prop) : Prop := False
theorem metX6_firstPair (l : Launch) (G : Gl) (P : Sk) (f : St) (sz : Nat) (a : Nat) (ha : IsWord P a) (K : Int32 → St → Prop) (h : kX6_firstPair P f a K) : Met l yX6_firstPair (wU yX6_firstPair cX6_firstPair 2 (some .int)) rmX6_firstPair (PcW G P f sz [.ref a]) (QcI G P sz K) 0 0 (frA P sz) := sorry

def bX6_makeShortByLooking_12 (P : Sk) (a : Nat) (b1 : Nat) (L12 : St → Int32 → Int32 → Prop) (K : St → Prop) (f : St) (x2 : Int32) (x3 : Int32) : Prop :=
  (24 ≤ x3 → K f) ∧ (¬ 24 ≤ x3 → (x2 = (-1) → K f) ∧ (¬ x2 = (-1) → kX6_removeAt P f a (x2 + 1) (fun g27 => kX6_removeAt P g27 a x2 (fun g32 => kX6_firstPair P g32 a (fun r36 g36 => ∀ x3_40 : Int32, x3_40 = x3 + 1 → L12 g36 r36 x3_40)))))
def vX6_makeShortByLooking (P : Sk) (f : St) (a : Nat) (b1 : Nat) (L12 : St → Int32 → Int32 → Prop) (K : St → Prop) : Prop :=
  kX6_copyFrom P f a b1 (fun g2 => kX6_firstPair P g2 a (fun r6 g6 => L12 g6 r6 0))
set_option maxRecDepth 20000 in
set_option maxHeartbeats 4000000 in
theorem mX6_makeShortByLooking (l : Launch) (G : Gl) (P : Sk) (f : St) (sz : Nat) (a : Nat) (ha : IsWord P a) (b1 : Nat) (hb1 : IsWord P b1) (K : St → Prop) (I12 : St → Int32 → Int32 → Prop) (μ12 : St → Int32 → Int32 → Nat) 
  (h : vX6_makeShortByLooking P f a b1 I12 K)
  (h12 : ∀ (g : St) (x2 : Int32) (x3 : Int32) , I12 g x2 x3 → bX6_makeShortByLooking_12 P a b1 (fun g' z0 z1 => I12 g' z0 z1 ∧ μ12 g' z0 z1 < μ12 g x2 x3) K g x2 x3) :
  Met l yX6_makeShortByLooking (wU yX6_makeShortByLooking cX6_makeShortByLooking 4 none) rmX6_makeShortByLooking (PcW G P f sz [.ref a, .ref b1]) (QcV G P sz K) 0 0 (frA P sz) := by
  refine v_met (own := RX6) [.ref a, .ref b1] (by decide +kernel) rfl (Nat.le_of_ble_eq_true rfl) (fun p e s m args below meth c hsz o hr hnm => ?_)
  refine v_lv (lv2 := [(0, .ref a), (1, .ref b1)]) rfl ?_
  have main : ∀ n : Nat, (∀ (g : St) (x2 : Int32) (x3 : Int32) , I12 g x2 x3 → μ12 g x2 x3 < n → V p l e rmX6_makeShortByLooking s m args below meth c 4 G (frA P sz) (MQ below (QcV G P sz K) args s 0 0 (frA P sz)) 0 0 P [(0, .ref a), (1, .ref b1), (2, .int x2), (3, .int x3)] [] 12 g) := by
    intro n
    induction n with
    | zero => exact fun g x2 x3 hI hm => absurd hm (Nat.not_lt_zero _)
    | succ n ih =>
      intro g x2 x3 hI hm
      have h := h12 g x2 x3 hI
      clear hI
      unfold bX6_makeShortByLooking_12 at h
      refine v_iload_n o 3 dX6_makeShortByLooking_12 rfl ?_
      refine v_bipush o (v := 24) dX6_makeShortByLooking_13 (by decide) ?_
      refine v_icmp_ge o (tgt := 46) dX6_makeShortByLooking_15 (by decide) (fun c15 => ?_) (fun c15 => ?_)
      · replace h := h.1 c15
        exact v_vret o rfl hr dX6_makeShortByLooking_46 h
      · replace h := h.2 c15
        refine v_iload_n o 2 dX6_makeShortByLooking_18 rfl ?_
        refine v_iconst o (v := (-1)) dX6_makeShortByLooking_19 (by decide) ?_
        refine v_icmp_eq o (tgt := 46) dX6_makeShortByLooking_20 (by decide) (fun c20 => ?_) (fun c20 => ?_)
        · replace h := h.1 c20
          exact v_vret o rfl hr dX6_makeShortByLooking_46 h
        · replace h := h.2 c20
          refine v_aload_n o 0 dX6_makeShortByLooking_23 rfl ?_
          refine v_iload_n o 2 dX6_makeShortByLooking_24 rfl ?_
          refine v_iconst o (v := 1) dX6_makeShortByLooking_25 (by decide) ?_
          refine v_iadd o dX6_makeShortByLooking_26 ?_
          refine v_cVv o [.int (x2 + 1)] [] (fun sz => metX6_removeAt l G P g sz a ha (x2 + 1) _ h) (cwX6_75 o.1.2.2.2.2 (by decide)) ⟨_, _, rfl⟩ (by decide) (wfWord_o ha) rfl (Nat.le_of_ble_eq_true rfl) ⟨Nat.le_of_ble_eq_true rfl, Nat.le_of_ble_eq_true rfl⟩ dX6_makeShortByLooking_27 rfl (fun g27 h => ?_)
          refine v_aload_n o 0 dX6_makeShortByLooking_30 rfl ?_
          refine v_iload_n o 2 dX6_makeShortByLooking_31 rfl ?_
          refine v_cVv o [.int x2] [] (fun sz => metX6_removeAt l G P g27 sz a ha x2 _ h) (cwX6_75 o.1.2.2.2.2 (by decide)) ⟨_, _, rfl⟩ (by decide) (wfWord_o ha) rfl (Nat.le_of_ble_eq_true rfl) ⟨Nat.le_of_ble_eq_true rfl, Nat.le_of_ble_eq_true rfl⟩ dX6_makeShortByLooking_32 rfl (fun g32 h => ?_)
          refine v_aload_n o 0 dX6_makeShortByLooking_35 rfl ?_
          refine v_cVi o [] [] (fun sz => metX6_firstPair l G P g32 sz a ha _ h) (cwX6_80 o.1.2.2.2.2 (by decide)) ⟨_, _, rfl⟩ (by decide) (wfWord_o ha) rfl (Nat.le_of_ble_eq_true rfl) ⟨Nat.le_of_ble_eq_true rfl, Nat.le_of_ble_eq_true rfl⟩ dX6_makeShortByLooking_36 rfl (fun r36 g36 h => ?_)
          refine v_istore_n o (lv' := [(2, .int r36), (0, .ref a), (1, .ref b1), (3, .int x3)]) dX6_makeShortByLooking_39 rfl (by decide) rfl ?_
          obtain ⟨x3_40, ex3_40⟩ : ∃ y : Int32, y = x3 + 1 := ⟨_, rfl⟩
          replace h := h x3_40 ex3_40
          refine v_iinc o (v := x3_40) (lv' := [(3, .int x3_40), (2, .int r36), (0, .ref a), (1, .ref b1)]) 3 dX6_makeShortByLooking_40 rfl (by rw [ex3_40]; rfl) (by decide) rfl ?_
          refine v_goto o (tgt := 12) dX6_makeShortByLooking_43 (by decide) ?_
          refine v_sub [2, 3, 1, 0] (lv2 := [(0, .ref a), (1, .ref b1), (2, .int r36), (3, .int x3_40)]) rfl ?_
          exact ih g36 r36 x3_40  h.1 (by have := h.2; omega)
  unfold vX6_makeShortByLooking at h
  refine v_aload_n o 0 dX6_makeShortByLooking_0 rfl ?_
  refine v_aload_n o 1 dX6_makeShortByLooking_1 rfl ?_
  refine v_cVv o [.ref b1] [] (fun sz => metX6_copyFrom l G P f sz a ha b1 hb1 _ h) (cwX6_78 o.1.2.2.2.2 (by decide)) ⟨_, _, rfl⟩ (by decide) (wfWord_o ha) rfl (Nat.le_of_ble_eq_true rfl) ⟨Nat.le_of_ble_eq_true rfl, Nat.le_of_ble_eq_true rfl⟩ dX6_makeShortByLooking_2 rfl (fun g2 h => ?_)
  refine v_aload_n o 0 dX6_makeShortByLooking_5 rfl ?_
  refine v_cVi o [] [] (fun sz => metX6_firstPair l G P g2 sz a ha _ h) (cwX6_80 o.1.2.2.2.2 (by decide)) ⟨_, _, rfl⟩ (by decide) (wfWord_o ha) rfl (Nat.le_of_ble_eq_true rfl) ⟨Nat.le_of_ble_eq_true rfl, Nat.le_of_ble_eq_true rfl⟩ dX6_makeShortByLooking_6 rfl (fun r6 g6 h => ?_)
  refine v_istore_n o (lv' := [(2, .int r6), (0, .ref a), (1, .ref b1)]) dX6_makeShortByLooking_9 rfl (by decide) rfl ?_
  refine v_iconst o (v := 0) dX6_makeShortByLooking_10 (by decide) ?_
  refine v_istore_n o (lv' := [(3, .int 0), (2, .int r6), (0, .ref a), (1, .ref b1)]) dX6_makeShortByLooking_11 rfl (by decide) rfl ?_
  refine v_sub [2, 3, 1, 0] (lv2 := [(0, .ref a), (1, .ref b1), (2, .int r6), (3, .int 0)]) rfl ?_
  exact (main (μ12 g6 r6 0 + 1)) g6 r6 0  h (Nat.lt_succ_self _)
def kX6_makeShortByLooking (P : Sk) (f : St) (a : Nat) (b1 : Nat) (K : St → Prop) : Prop := False
theorem metX6_makeShortByLooking (l : Launch) (G : Gl) (P : Sk) (f : St) (sz : Nat) (a : Nat) (ha : IsWord P a) (b1 : Nat) (hb1 : IsWord P b1) (K : St → Prop) (h : kX6_makeShortByLooking P f a b1 K) : Met l yX6_makeShortByLooking (wU yX6_makeShortByLooking cX6_makeShortByLooking 4 none) rmX6_makeShortByLooking (PcW G P f sz [.ref a, .ref b1]) (QcV G P sz K) 0 0 (frA P sz) := sorry

def vX7_lay (P : Sk) (f : St) (a : Nat) (K : Int32 → St → Prop) (X : String → St → Prop) : Prop :=
  kX4_isLoaf P f (a + 1) (fun r4 g4 => (¬ r4 = 0 → kX0_size P g4 (a + 4) (fun r24 g24 => (r24 < 6 → kX4_readLoaf P g24 (a + 1) ((a + 1410) + 1) (fun g53 => kX2_settle P g53 (a + 1410) (fun r60 g60 => (r60 = 0 → kX1_save P g60 (a + 160) (a + 4) (fun g84 => kX0_addLoaf P g84 (a + 4) (a + 1410) (fun g95 => kX4_clear P g95 (a + 1) (fun g102 => kX0_size P g102 (a + 4) (fun r109 g109 => K (r109 - 1) g109))))) ∧ (¬ r60 = 0 → X "java/lang/IllegalStateException" g60)))) ∧ (¬ r24 < 6 → X "java/lang/IllegalStateException" g24))) ∧ (r4 = 0 → X "java/lang/IllegalArgumentException" g4))
abbrev rxX7_lay : Room := { frames := 6, cells := 1, slots := 6, locals := 175 }
set_option maxRecDepth 20000 in
set_option maxHeartbeats 4000000 in
theorem mX7_lay (l : Launch) (hl : l.stackTraces = false) (G : Gl) (P : Sk) (f : St) (sz : Nat) (a : Nat) (ha : IsComp P a) (K : Int32 → St → Prop) (X : String → St → Prop) (h : vX7_lay P f a K X)  :
  vx_Met l yX7_lay (wU yX7_lay cX7_lay 1 (some .int)) rxX7_lay (PcX G P f sz [.ref a]) (QcI G P sz K) (XX G P sz X) 1 6 (frA P sz) := by
  refine v_metx (own := RX7) [.ref a] (by decide) rfl (Nat.le_of_ble_eq_true rfl) (fun p e s m args below meth c hsz o hr hT hno => ?_)
  refine v_lv (lv2 := [(0, .ref a)]) rfl ?_
  unfold vX7_lay at h
  refine v_aload_n o 0 dX7_lay_0 rfl ?_
  refine v_gfR o lkX7_10 (by decide) (wfComp_o ha) (wfComp_r0 ha) dX7_lay_1 ?_
  refine v_cVi o [] [] (fun sz => metX4_isLoaf l G P f sz (a + 1) (wfComp_t0 ha) _ h) (cwX7_54 o.1.2.2.2.2 (by decide)) ⟨_, _, rfl⟩ (by decide) (wfText_o (wfComp_t0 ha)) rfl (Nat.le_of_ble_eq_true rfl) ⟨Nat.le_of_ble_eq_true rfl, Nat.le_of_ble_eq_true rfl⟩ dX7_lay_4 rfl (fun r4 g4 h => ?_)
  refine v_if_ne o (tgt := 20) dX7_lay_7 (by decide) (fun c7 => ?_) (fun c7 => ?_)
  · replace h := h.1 c7
    refine v_aload_n o 0 dX7_lay_20 rfl ?_
    refine v_gfR o lkX7_19 (by decide) (wfComp_o ha) (wfComp_r1 ha) dX7_lay_21 ?_
    refine v_cVi o [] [] (fun sz => metX0_size l G P g4 sz (a + 4) (wfComp_t1 ha) _ h) (cwX7_65 o.1.2.2.2.2 (by decide)) ⟨_, _, rfl⟩ (by decide) (wfBoard_o (wfComp_t1 ha)) rfl (Nat.le_of_ble_eq_true rfl) ⟨Nat.le_of_ble_eq_true rfl, Nat.le_of_ble_eq_true rfl⟩ dX7_lay_24 rfl (fun r24 g24 h => ?_)
    refine v_bipush o (v := 6) dX7_lay_27 (by decide) ?_
    refine v_icmp_lt o (tgt := 42) dX7_lay_29 (by decide) (fun c29 => ?_) (fun c29 => ?_)
    · replace h := h.1 c29
      refine v_aload_n o 0 dX7_lay_42 rfl ?_
      refine v_gfR o lkX7_10 (by decide) (wfComp_o ha) (wfComp_r0 ha) dX7_lay_43 ?_
      refine v_aload_n o 0 dX7_lay_46 rfl ?_
      refine v_gfR o lkX7_40 (by decide) (wfComp_o ha) (wfComp_r5 ha) dX7_lay_47 ?_
      refine v_cVr o [] [.ref (a + 1)] (fun sz => metX2_word l G P g24 sz (a + 1410) (wfComp_t5 ha)) (cwX7_74 o.1.2.2.2.2 (by decide)) ⟨_, _, rfl⟩ (by decide) (wfLoaf_o (wfComp_t5 ha)) rfl (Nat.le_of_ble_eq_true rfl) ⟨Nat.le_of_ble_eq_true rfl, Nat.le_of_ble_eq_true rfl⟩ dX7_lay_50 rfl (fun r50 g50 h50 => ?_)
      obtain ⟨rfl, rfl⟩ := h50
      refine v_cVv o [.ref ((a + 1410) + 1)] [] (fun sz => metX4_readLoaf l G P g24 sz (a + 1) (wfComp_t0 ha) ((a + 1410) + 1) (wfLoaf_t0 (wfComp_t5 ha)) _ h) (cwX7_78 o.1.2.2.2.2 (by decide)) ⟨_, _, rfl⟩ (by decide) (wfText_o (wfComp_t0 ha)) rfl (Nat.le_of_ble_eq_true rfl) ⟨Nat.le_of_ble_eq_true rfl, Nat.le_of_ble_eq_true rfl⟩ dX7_lay_53 rfl (fun g53 h => ?_)
      refine v_aload_n o 0 dX7_lay_56 rfl ?_
      refine v_gfR o lkX7_40 (by decide) (wfComp_o ha) (wfComp_r5 ha) dX7_lay_57 ?_
      refine v_cVi o [] [] (fun sz => metX2_settle l G P g53 sz (a + 1410) (wfComp_t5 ha) _ h) (cwX7_82 o.1.2.2.2.2 (by decide)) ⟨_, _, rfl⟩ (by decide) (wfLoaf_o (wfComp_t5 ha)) rfl (Nat.le_of_ble_eq_true rfl) ⟨Nat.le_of_ble_eq_true rfl, Nat.le_of_ble_eq_true rfl⟩ dX7_lay_60 rfl (fun r60 g60 h => ?_)
      refine v_if_eq o (tgt := 76) dX7_lay_63 (by decide) (fun c63 => ?_) (fun c63 => ?_)
      · replace h := h.1 c63
        refine v_aload_n o 0 dX7_lay_76 rfl ?_
        refine v_gfR o lkX7_26 (by decide) (wfComp_o ha) (wfComp_r2 ha) dX7_lay_77 ?_
        refine v_aload_n o 0 dX7_lay_80 rfl ?_
        refine v_gfR o lkX7_19 (by decide) (wfComp_o ha) (wfComp_r1 ha) dX7_lay_81 ?_
        refine v_cVv o [.ref (a + 4)] [] (fun sz => metX1_save l G P g60 sz (a + 160) (wfComp_t2 ha) (a + 4) (wfComp_t1 ha) _ h) (cwX7_87 o.1.2.2.2.2 (by decide)) ⟨_, _, rfl⟩ (by decide) (wfHist_o (wfComp_t2 ha)) rfl (Nat.le_of_ble_eq_true rfl) ⟨Nat.le_of_ble_eq_true rfl, Nat.le_of_ble_eq_true rfl⟩ dX7_lay_84 rfl (fun g84 h => ?_)
        refine v_aload_n o 0 dX7_lay_87 rfl ?_
        refine v_gfR o lkX7_19 (by decide) (wfComp_o ha) (wfComp_r1 ha) dX7_lay_88 ?_
        refine v_aload_n o 0 dX7_lay_91 rfl ?_
        refine v_gfR o lkX7_40 (by decide) (wfComp_o ha) (wfComp_r5 ha) dX7_lay_92 ?_
        refine v_cVv o [.ref (a + 1410)] [] (fun sz => metX0_addLoaf l G P g84 sz (a + 4) (wfComp_t1 ha) (a + 1410) (wfComp_t5 ha) _ h) (cwX7_91 o.1.2.2.2.2 (by decide)) ⟨_, _, rfl⟩ (by decide) (wfBoard_o (wfComp_t1 ha)) rfl (Nat.le_of_ble_eq_true rfl) ⟨Nat.le_of_ble_eq_true rfl, Nat.le_of_ble_eq_true rfl⟩ dX7_lay_95 rfl (fun g95 h => ?_)
        refine v_aload_n o 0 dX7_lay_98 rfl ?_
        refine v_gfR o lkX7_10 (by decide) (wfComp_o ha) (wfComp_r0 ha) dX7_lay_99 ?_
        refine v_cVv o [] [] (fun sz => metX4_clear l G P g95 sz (a + 1) (wfComp_t0 ha) _ h) (cwX7_95 o.1.2.2.2.2 (by decide)) ⟨_, _, rfl⟩ (by decide) (wfText_o (wfComp_t0 ha)) rfl (Nat.le_of_ble_eq_true rfl) ⟨Nat.le_of_ble_eq_true rfl, Nat.le_of_ble_eq_true rfl⟩ dX7_lay_102 rfl (fun g102 h => ?_)
        refine v_aload_n o 0 dX7_lay_105 rfl ?_
        refine v_gfR o lkX7_19 (by decide) (wfComp_o ha) (wfComp_r1 ha) dX7_lay_106 ?_
        refine v_cVi o [] [] (fun sz => metX0_size l G P g102 sz (a + 4) (wfComp_t1 ha) _ h) (cwX7_65 o.1.2.2.2.2 (by decide)) ⟨_, _, rfl⟩ (by decide) (wfBoard_o (wfComp_t1 ha)) rfl (Nat.le_of_ble_eq_true rfl) ⟨Nat.le_of_ble_eq_true rfl, Nat.le_of_ble_eq_true rfl⟩ dX7_lay_109 rfl (fun r109 g109 h => ?_)
        refine v_iconst o (v := 1) dX7_lay_112 (by decide) ?_
        refine v_isub o dX7_lay_113 ?_
        exact v_xret (Nat.le_of_ble_eq_true rfl) (Nat.le_of_ble_eq_true rfl) (v_iret o rfl hr dX7_lay_114 h)
      · replace h := h.2 c63
        exact v_throwS o hT hl hno (text := "a strand would use more than its dough") rfl thw_69 (by decide) dX7_lay_66 dX7_lay_69 dX7_lay_70 dX7_lay_72 dX7_lay_75 ⟨by decide, Nat.le_of_ble_eq_true rfl, Nat.le_of_ble_eq_true rfl, Nat.le_of_ble_eq_true rfl⟩ ⟨Nat.le_of_ble_eq_true rfl, Nat.le_of_ble_eq_true rfl⟩ h
    · replace h := h.2 c29
      exact v_throwS o hT hl hno (text := "there are 6 loaves") rfl thw_69 (by decide) dX7_lay_32 dX7_lay_35 dX7_lay_36 dX7_lay_38 dX7_lay_41 ⟨by decide, Nat.le_of_ble_eq_true rfl, Nat.le_of_ble_eq_true rfl, Nat.le_of_ble_eq_true rfl⟩ ⟨Nat.le_of_ble_eq_true rfl, Nat.le_of_ble_eq_true rfl⟩ h
  · replace h := h.2 c7
    exact v_throwS o hT hl hno (text := "the buffer is not a complete loaf") rfl thw_58 (by decide) dX7_lay_10 dX7_lay_13 dX7_lay_14 dX7_lay_16 dX7_lay_19 ⟨by decide, Nat.le_of_ble_eq_true rfl, Nat.le_of_ble_eq_true rfl, Nat.le_of_ble_eq_true rfl⟩ ⟨Nat.le_of_ble_eq_true rfl, Nat.le_of_ble_eq_true rfl⟩ h
theorem cxL_7 {R : Room} {s : State} {args : Array Value} (ht : ∀ w ∈ lw_U, w.before args s = true) (hR : rxX7_lay.frames + 1 ≤ R.frames ∧ 8 + (1 + 11) + rxX7_lay.locals ≤ R.locals) : CallW R s args RL RX7 7 yX7_lay cX7_lay 1 (some .int) (wU yX7_lay cX7_lay 1 (some .int)) rxX7_lay 1 6 0 := cwV 0 ht (gUV (mU 608 (by decide +kernel) rfl) (mU 609 (by decide +kernel) rfl) (mU 610 (by decide +kernel) rfl) (mU 82 (by decide +kernel) rfl) (mU 611 (by decide +kernel) rfl)) rfl rfl rfl ⟨rfl, by decide +kernel, by decide +kernel, by decide +kernel⟩ hR
abbrev kX7_lay := @vX7_lay
abbrev metX7_lay := @mX7_lay

def vX7_needLoaf (P : Sk) (f : St) (a : Nat) (p1 : Int32) (K : St → Prop) (X : String → St → Prop) : Prop :=
  kX0_has P f (a + 4) p1 (fun r5 g5 => (¬ r5 = 0 → K g5) ∧ (r5 = 0 → X "java/lang/IndexOutOfBoundsException" g5))
abbrev rxX7_needLoaf : Room := { frames := 6, cells := 1, slots := 6, locals := 90 }
set_option maxRecDepth 20000 in
set_option maxHeartbeats 4000000 in
theorem mX7_needLoaf (l : Launch) (hl : l.stackTraces = false) (G : Gl) (P : Sk) (f : St) (sz : Nat) (a : Nat) (ha : IsComp P a) (p1 : Int32) (K : St → Prop) (X : String → St → Prop) (h : vX7_needLoaf P f a p1 K X)  :
  vx_Met l yX7_needLoaf (wU yX7_needLoaf cX7_needLoaf 2 none) rxX7_needLoaf (PcX G P f sz [.ref a, .int p1]) (QcV G P sz K) (XX G P sz X) 1 6 (frA P sz) := by
  refine v_metx (own := RX7) [.ref a, .int p1] (by decide) rfl (Nat.le_of_ble_eq_true rfl) (fun p e s m args below meth c hsz o hr hT hno => ?_)
  refine v_lv (lv2 := [(0, .ref a), (1, .int p1)]) rfl ?_
  unfold vX7_needLoaf at h
  refine v_aload_n o 0 dX7_needLoaf_0 rfl ?_
  refine v_gfR o lkX7_19 (by decide) (wfComp_o ha) (wfComp_r1 ha) dX7_needLoaf_1 ?_
  refine v_iload_n o 1 dX7_needLoaf_4 rfl ?_
  refine v_cVi o [.int p1] [] (fun sz => metX0_has l G P f sz (a + 4) (wfComp_t1 ha) p1 _ h) (cwX7_246 o.1.2.2.2.2 (by decide)) ⟨_, _, rfl⟩ (by decide) (wfBoard_o (wfComp_t1 ha)) rfl (Nat.le_of_ble_eq_true rfl) ⟨Nat.le_of_ble_eq_true rfl, Nat.le_of_ble_eq_true rfl⟩ dX7_needLoaf_5 rfl (fun r5 g5 h => ?_)
  refine v_if_ne o (tgt := 21) dX7_needLoaf_8 (by decide) (fun c8 => ?_) (fun c8 => ?_)
  · replace h := h.1 c8
    exact v_xret (Nat.le_of_ble_eq_true rfl) (Nat.le_of_ble_eq_true rfl) (v_vret o rfl hr dX7_needLoaf_21 h)
  · replace h := h.2 c8
    exact v_throwS o hT hl hno (text := "no such loaf") rfl thw_250 (by decide) dX7_needLoaf_11 dX7_needLoaf_14 dX7_needLoaf_15 dX7_needLoaf_17 dX7_needLoaf_20 ⟨by decide, Nat.le_of_ble_eq_true rfl, Nat.le_of_ble_eq_true rfl, Nat.le_of_ble_eq_true rfl⟩ ⟨Nat.le_of_ble_eq_true rfl, Nat.le_of_ble_eq_true rfl⟩ h
theorem cxX7_98 {R : Room} {s : State} {args : Array Value} (ht : ∀ w ∈ lw_U, w.before args s = true) (hR : rxX7_needLoaf.frames + 1 ≤ R.frames ∧ 8 + (2 + 11) + rxX7_needLoaf.locals ≤ R.locals) : CallW R s args RX7 RX7 98 yX7_needLoaf cX7_needLoaf 2 none (wU yX7_needLoaf cX7_needLoaf 2 none) rxX7_needLoaf 1 6 1 := cwV 1 ht (gUV (mU 759 (by decide +kernel) rfl) (mU 761 (by decide +kernel) rfl) (mU 19 (by decide +kernel) rfl) (mU 82 (by decide +kernel) rfl) (mU 762 (by decide +kernel) rfl)) rfl rfl rfl ⟨rfl, by decide +kernel, by decide +kernel, by decide +kernel⟩ hR
abbrev kX7_needLoaf := @vX7_needLoaf
abbrev metX7_needLoaf := @mX7_needLoaf

def vX7_bake (P : Sk) (f : St) (a : Nat) (p1 : Int32) (K : Int32 → St → Prop) (X : String → St → Prop) : Prop :=
  kX7_needLoaf P f a p1 (fun g2 => kX6_size P g2 ((atB (a + 4) p1) + 1) (fun r16 g16 => kX1_save P g16 (a + 160) (a + 4) (fun g28 => kX0_removeLoaf P g28 (a + 4) p1 (fun g36 => K r16 g36)))) X
abbrev rxX7_bake : Room := { frames := 7, cells := 1, slots := 6, locals := 175 }
set_option maxRecDepth 20000 in
set_option maxHeartbeats 4000000 in
theorem mX7_bake (l : Launch) (hl : l.stackTraces = false) (G : Gl) (P : Sk) (f : St) (sz : Nat) (a : Nat) (ha : IsComp P a) (p1 : Int32) (K : Int32 → St → Prop) (X : String → St → Prop) (h : vX7_bake P f a p1 K X)  :
  vx_Met l yX7_bake (wU yX7_bake cX7_bake 3 (some .int)) rxX7_bake (PcX G P f sz [.ref a, .int p1]) (QcI G P sz K) (XX G P sz X) 1 6 (frA P sz) := by
  refine v_metx (own := RX7) [.ref a, .int p1] (by decide) rfl (Nat.le_of_ble_eq_true rfl) (fun p e s m args below meth c hsz o hr hT hno => ?_)
  refine v_lv (lv2 := [(0, .ref a), (1, .int p1)]) rfl ?_
  unfold vX7_bake at h
  refine v_aload_n o 0 dX7_bake_0 rfl ?_
  refine v_iload_n o 1 dX7_bake_1 rfl ?_
  refine v_cxVv o hT hno [.int p1] [] rfl (fun sz => metX7_needLoaf l hl G P f sz a ha p1 _ _ h) (cxX7_98 o.1.2.2.2.2 (by decide)) ⟨_, _, rfl⟩ (by decide) (wfComp_o ha) rfl (Nat.le_of_ble_eq_true rfl) ⟨Nat.le_of_ble_eq_true rfl, Nat.le_of_ble_eq_true rfl⟩ ⟨Nat.le_of_ble_eq_true rfl, Nat.le_of_ble_eq_true rfl⟩ dX7_bake_2 rfl (fun g2 h => ?_)
  refine v_aload_n o 0 dX7_bake_5 rfl ?_
  refine v_gfR o lkX7_19 (by decide) (wfComp_o ha) (wfComp_r1 ha) dX7_bake_6 ?_
  refine v_iload_n o 1 dX7_bake_9 rfl ?_
  refine v_cVr o [.int p1] [] (fun sz => metX0_at l G P g2 sz (a + 4) (wfComp_t1 ha) p1) (cwX7_102 o.1.2.2.2.2 (by decide)) ⟨_, _, rfl⟩ (by decide) (wfBoard_o (wfComp_t1 ha)) rfl (Nat.le_of_ble_eq_true rfl) ⟨Nat.le_of_ble_eq_true rfl, Nat.le_of_ble_eq_true rfl⟩ dX7_bake_10 rfl (fun r10 g10 h10 => ?_)
  obtain ⟨rfl, rfl⟩ := h10
  refine v_cVr o [] [] (fun sz => metX2_word l G P g2 sz (atB (a + 4) p1) (is_atB (wfComp_t1 ha) p1)) (cwX7_74 o.1.2.2.2.2 (by decide)) ⟨_, _, rfl⟩ (by decide) (wfLoaf_o (is_atB (wfComp_t1 ha) p1)) rfl (Nat.le_of_ble_eq_true rfl) ⟨Nat.le_of_ble_eq_true rfl, Nat.le_of_ble_eq_true rfl⟩ dX7_bake_13 rfl (fun r13 g13 h13 => ?_)
  obtain ⟨rfl, rfl⟩ := h13
  refine v_cVi o [] [] (fun sz => metX6_size l G P g2 sz ((atB (a + 4) p1) + 1) (wfLoaf_t0 (is_atB (wfComp_t1 ha) p1)) _ h) (cwX7_106 o.1.2.2.2.2 (by decide)) ⟨_, _, rfl⟩ (by decide) (wfWord_o (wfLoaf_t0 (is_atB (wfComp_t1 ha) p1))) rfl (Nat.le_of_ble_eq_true rfl) ⟨Nat.le_of_ble_eq_true rfl, Nat.le_of_ble_eq_true rfl⟩ dX7_bake_16 rfl (fun r16 g16 h => ?_)
  refine v_istore_n o (lv' := [(2, .int r16), (0, .ref a), (1, .int p1)]) dX7_bake_19 rfl (by decide) rfl ?_
  refine v_aload_n o 1 dX7_bake_20 rfl ?_
  refine v_gfR o lkX7_26 (by decide) (wfComp_o ha) (wfComp_r2 ha) dX7_bake_21 ?_
  refine v_aload_n o 1 dX7_bake_24 rfl ?_
  refine v_gfR o lkX7_19 (by decide) (wfComp_o ha) (wfComp_r1 ha) dX7_bake_25 ?_
  refine v_cVv o [.ref (a + 4)] [] (fun sz => metX1_save l G P g16 sz (a + 160) (wfComp_t2 ha) (a + 4) (wfComp_t1 ha) _ h) (cwX7_87 o.1.2.2.2.2 (by decide)) ⟨_, _, rfl⟩ (by decide) (wfHist_o (wfComp_t2 ha)) rfl (Nat.le_of_ble_eq_true rfl) ⟨Nat.le_of_ble_eq_true rfl, Nat.le_of_ble_eq_true rfl⟩ dX7_bake_28 rfl (fun g28 h => ?_)
  refine v_aload_n o 1 dX7_bake_31 rfl ?_
  refine v_gfR o lkX7_19 (by decide) (wfComp_o ha) (wfComp_r1 ha) dX7_bake_32 ?_
  refine v_iload_n o 2 dX7_bake_35 rfl ?_
  refine v_cVv o [.int p1] [] (fun sz => metX0_removeLoaf l G P g28 sz (a + 4) (wfComp_t1 ha) p1 _ h) (cwX7_107 o.1.2.2.2.2 (by decide)) ⟨_, _, rfl⟩ (by decide) (wfBoard_o (wfComp_t1 ha)) rfl (Nat.le_of_ble_eq_true rfl) ⟨Nat.le_of_ble_eq_true rfl, Nat.le_of_ble_eq_true rfl⟩ dX7_bake_36 rfl (fun g36 h => ?_)
  refine v_iload_n o 0 dX7_bake_39 rfl ?_
  exact v_xret (Nat.le_of_ble_eq_true rfl) (Nat.le_of_ble_eq_true rfl) (v_iret o rfl hr dX7_bake_40 h)
theorem cxL_17 {R : Room} {s : State} {args : Array Value} (ht : ∀ w ∈ lw_U, w.before args s = true) (hR : rxX7_bake.frames + 1 ≤ R.frames ∧ 8 + (3 + 11) + rxX7_bake.locals ≤ R.locals) : CallW R s args RL RX7 17 yX7_bake cX7_bake 3 (some .int) (wU yX7_bake cX7_bake 3 (some .int)) rxX7_bake 1 6 1 := cwV 1 ht (gUV (mU 755 (by decide +kernel) rfl) (mU 756 (by decide +kernel) rfl) (mU 757 (by decide +kernel) rfl) (mU 82 (by decide +kernel) rfl) (mU 758 (by decide +kernel) rfl)) rfl rfl rfl ⟨rfl, by decide +kernel, by decide +kernel, by decide +kernel⟩ hR
abbrev kX7_bake := @vX7_bake
abbrev metX7_bake := @mX7_bake

def vX7_needPlace (P : Sk) (f : St) (a : Nat) (p1 : Int32) (p2 : Int32) (K : St → Prop) (X : String → St → Prop) : Prop :=
  kX7_needLoaf P f a p1 (fun g2 => kX6_hasPlace P g2 ((atB (a + 4) p1) + 1) p2 (fun r17 g17 => (¬ r17 = 0 → K g17) ∧ (r17 = 0 → X "java/lang/IndexOutOfBoundsException" g17))) X
abbrev rxX7_needPlace : Room := { frames := 7, cells := 2, slots := 12, locals := 111 }
set_option maxRecDepth 20000 in
set_option maxHeartbeats 4000000 in
theorem mX7_needPlace (l : Launch) (hl : l.stackTraces = false) (G : Gl) (P : Sk) (f : St) (sz : Nat) (a : Nat) (ha : IsComp P a) (p1 : Int32) (p2 : Int32) (K : St → Prop) (X : String → St → Prop) (h : vX7_needPlace P f a p1 p2 K X)  :
  vx_Met l yX7_needPlace (wU yX7_needPlace cX7_needPlace 3 none) rxX7_needPlace (PcX G P f sz [.ref a, .int p1, .int p2]) (QcV G P sz K) (XX G P sz X) 2 12 (frA P sz) := by
  refine v_metx (own := RX7) [.ref a, .int p1, .int p2] (by decide) rfl (Nat.le_of_ble_eq_true rfl) (fun p e s m args below meth c hsz o hr hT hno => ?_)
  refine v_lv (lv2 := [(0, .ref a), (1, .int p1), (2, .int p2)]) rfl ?_
  unfold vX7_needPlace at h
  refine v_aload_n o 0 dX7_needPlace_0 rfl ?_
  refine v_iload_n o 1 dX7_needPlace_1 rfl ?_
  refine v_cxVv o hT hno [.int p1] [] rfl (fun sz => metX7_needLoaf l hl G P f sz a ha p1 _ _ h) (cxX7_98 o.1.2.2.2.2 (by decide)) ⟨_, _, rfl⟩ (by decide) (wfComp_o ha) rfl (Nat.le_of_ble_eq_true rfl) ⟨Nat.le_of_ble_eq_true rfl, Nat.le_of_ble_eq_true rfl⟩ ⟨Nat.le_of_ble_eq_true rfl, Nat.le_of_ble_eq_true rfl⟩ dX7_needPlace_2 rfl (fun g2 h => ?_)
  refine v_aload_n o 0 dX7_needPlace_5 rfl ?_
  refine v_gfR o lkX7_19 (by decide) (wfComp_o ha) (wfComp_r1 ha) dX7_needPlace_6 ?_
  refine v_iload_n o 1 dX7_needPlace_9 rfl ?_
  refine v_cVr o [.int p1] [] (fun sz => metX0_at l G P g2 sz (a + 4) (wfComp_t1 ha) p1) (cwX7_102 o.1.2.2.2.2 (by decide)) ⟨_, _, rfl⟩ (by decide) (wfBoard_o (wfComp_t1 ha)) rfl (Nat.le_of_ble_eq_true rfl) ⟨Nat.le_of_ble_eq_true rfl, Nat.le_of_ble_eq_true rfl⟩ dX7_needPlace_10 rfl (fun r10 g10 h10 => ?_)
  obtain ⟨rfl, rfl⟩ := h10
  refine v_cVr o [] [] (fun sz => metX2_word l G P g2 sz (atB (a + 4) p1) (is_atB (wfComp_t1 ha) p1)) (cwX7_74 o.1.2.2.2.2 (by decide)) ⟨_, _, rfl⟩ (by decide) (wfLoaf_o (is_atB (wfComp_t1 ha) p1)) rfl (Nat.le_of_ble_eq_true rfl) ⟨Nat.le_of_ble_eq_true rfl, Nat.le_of_ble_eq_true rfl⟩ dX7_needPlace_13 rfl (fun r13 g13 h13 => ?_)
  obtain ⟨rfl, rfl⟩ := h13
  refine v_iload_n o 2 dX7_needPlace_16 rfl ?_
  refine v_cVi o [.int p2] [] (fun sz => metX6_hasPlace l G P g2 sz ((atB (a + 4) p1) + 1) (wfLoaf_t0 (is_atB (wfComp_t1 ha) p1)) p2 _ h) (cwX7_255 o.1.2.2.2.2 (by decide)) ⟨_, _, rfl⟩ (by decide) (wfWord_o (wfLoaf_t0 (is_atB (wfComp_t1 ha) p1))) rfl (Nat.le_of_ble_eq_true rfl) ⟨Nat.le_of_ble_eq_true rfl, Nat.le_of_ble_eq_true rfl⟩ dX7_needPlace_17 rfl (fun r17 g17 h => ?_)
  refine v_if_ne o (tgt := 34) dX7_needPlace_20 (by decide) (fun c20 => ?_) (fun c20 => ?_)
  · replace h := h.1 c20
    exact v_xret (Nat.le_of_ble_eq_true rfl) (Nat.le_of_ble_eq_true rfl) (v_vret o rfl hr dX7_needPlace_34 h)
  · replace h := h.2 c20
    exact v_throwSW o hT hl hno (text := "no such place") rfl thw_250 (by decide) dX7_needPlace_23 dX7_needPlace_26 dX7_needPlace_27 dX7_needPlace_30 dX7_needPlace_33 ⟨by decide, Nat.le_of_ble_eq_true rfl, Nat.le_of_ble_eq_true rfl, Nat.le_of_ble_eq_true rfl⟩ ⟨Nat.le_of_ble_eq_true rfl, Nat.le_of_ble_eq_true rfl⟩ h
theorem cxX7_110 {R : Room} {s : State} {args : Array Value} (ht : ∀ w ∈ lw_U, w.before args s = true) (hR : rxX7_needPlace.frames + 1 ≤ R.frames ∧ 8 + (3 + 11) + rxX7_needPlace.locals ≤ R.locals) : CallW R s args RX7 RX7 110 yX7_needPlace cX7_needPlace 3 none (wU yX7_needPlace cX7_needPlace 3 none) rxX7_needPlace 2 12 2 := cwV 2 ht (gUV (mU 795 (by decide +kernel) rfl) (mU 797 (by decide +kernel) rfl) (mU 20 (by decide +kernel) rfl) (mU 82 (by decide +kernel) rfl) (mU 798 (by decide +kernel) rfl)) rfl rfl rfl ⟨rfl, by decide +kernel, by decide +kernel, by decide +kernel⟩ hR
abbrev kX7_needPlace := @vX7_needPlace
abbrev metX7_needPlace := @mX7_needPlace

def vX7_tryCrossing (P : Sk) (f : St) (a : Nat) (p1 : Int32) (p2 : Int32) (p3 : Int32) (K : Int32 → St → Prop) : Prop :=
  kX0_has P f (a + 4) p1 (fun r5 g5 => (¬ r5 = 0 → kX6_hasPlace P g5 ((atB (a + 4) p1) + 1) p2 (fun r29 g29 => (¬ r29 = 0 → kX6_size P g29 ((atB (a + 4) p1) + 1) (fun r39 g39 => (r39 < 24 → kX6_copyFrom P g39 ((a + 1410) + 1) ((atB (a + 4) p1) + 1) (fun g58 => kX6_codeOf P g58 p2 p3 (fun r70 g70 => kX6_add P g70 ((a + 1410) + 1) r70 (fun g73 => kX2_settle P g73 (a + 1410) (fun r80 g80 => K r80 g80))))) ∧ (¬ r39 < 24 → K 1 g39))) ∧ (r29 = 0 → K 4 g29))) ∧ (r5 = 0 → K 3 g5))
set_option maxRecDepth 20000 in
set_option maxHeartbeats 4000000 in
theorem mX7_tryCrossing (l : Launch) (G : Gl) (P : Sk) (f : St) (sz : Nat) (a : Nat) (ha : IsComp P a) (p1 : Int32) (p2 : Int32) (p3 : Int32) (K : Int32 → St → Prop) (h : vX7_tryCrossing P f a p1 p2 p3 K)  :
  Met l yX7_tryCrossing (wU yX7_tryCrossing cX7_tryCrossing 5 (some .int)) rmX7_tryCrossing (PcW G P f sz [.ref a, .int p1, .int p2, .int p3]) (QcI G P sz K) 0 0 (frA P sz) := by
  refine v_met (own := RX7) [.ref a, .int p1, .int p2, .int p3] (by decide +kernel) rfl (Nat.le_of_ble_eq_true rfl) (fun p e s m args below meth c hsz o hr hnm => ?_)
  refine v_lv (lv2 := [(0, .ref a), (1, .int p1), (2, .int p2), (3, .int p3)]) rfl ?_
  unfold vX7_tryCrossing at h
  refine v_aload_n o 0 dX7_tryCrossing_0 rfl ?_
  refine v_gfR o lkX7_19 (by decide) (wfComp_o ha) (wfComp_r1 ha) dX7_tryCrossing_1 ?_
  refine v_iload_n o 1 dX7_tryCrossing_4 rfl ?_
  refine v_cVi o [.int p1] [] (fun sz => metX0_has l G P f sz (a + 4) (wfComp_t1 ha) p1 _ h) (cwX7_246 o.1.2.2.2.2 (by decide)) ⟨_, _, rfl⟩ (by decide) (wfBoard_o (wfComp_t1 ha)) rfl (Nat.le_of_ble_eq_true rfl) ⟨Nat.le_of_ble_eq_true rfl, Nat.le_of_ble_eq_true rfl⟩ dX7_tryCrossing_5 rfl (fun r5 g5 h => ?_)
  refine v_if_ne o (tgt := 13) dX7_tryCrossing_8 (by decide) (fun c8 => ?_) (fun c8 => ?_)
  · replace h := h.1 c8
    refine v_aload_n o 0 dX7_tryCrossing_13 rfl ?_
    refine v_gfR o lkX7_19 (by decide) (wfComp_o ha) (wfComp_r1 ha) dX7_tryCrossing_14 ?_
    refine v_iload_n o 1 dX7_tryCrossing_17 rfl ?_
    refine v_cVr o [.int p1] [] (fun sz => metX0_at l G P g5 sz (a + 4) (wfComp_t1 ha) p1) (cwX7_102 o.1.2.2.2.2 (by decide)) ⟨_, _, rfl⟩ (by decide) (wfBoard_o (wfComp_t1 ha)) rfl (Nat.le_of_ble_eq_true rfl) ⟨Nat.le_of_ble_eq_true rfl, Nat.le_of_ble_eq_true rfl⟩ dX7_tryCrossing_18 rfl (fun r18 g18 h18 => ?_)
    obtain ⟨rfl, rfl⟩ := h18
    refine v_cVr o [] [] (fun sz => metX2_word l G P g5 sz (atB (a + 4) p1) (is_atB (wfComp_t1 ha) p1)) (cwX7_74 o.1.2.2.2.2 (by decide)) ⟨_, _, rfl⟩ (by decide) (wfLoaf_o (is_atB (wfComp_t1 ha) p1)) rfl (Nat.le_of_ble_eq_true rfl) ⟨Nat.le_of_ble_eq_true rfl, Nat.le_of_ble_eq_true rfl⟩ dX7_tryCrossing_21 rfl (fun r21 g21 h21 => ?_)
    obtain ⟨rfl, rfl⟩ := h21
    refine v_astore o (lv' := [(4, .ref ((atB (a + 4) p1) + 1)), (0, .ref a), (1, .int p1), (2, .int p2), (3, .int p3)]) dX7_tryCrossing_24 (by decide) rfl ?_
    refine v_aload o 0 dX7_tryCrossing_26 rfl ?_
    refine v_iload_n o 3 dX7_tryCrossing_28 rfl ?_
    refine v_cVi o [.int p2] [] (fun sz => metX6_hasPlace l G P g5 sz ((atB (a + 4) p1) + 1) (wfLoaf_t0 (is_atB (wfComp_t1 ha) p1)) p2 _ h) (cwX7_255 o.1.2.2.2.2 (by decide)) ⟨_, _, rfl⟩ (by decide) (wfWord_o (wfLoaf_t0 (is_atB (wfComp_t1 ha) p1))) rfl (Nat.le_of_ble_eq_true rfl) ⟨Nat.le_of_ble_eq_true rfl, Nat.le_of_ble_eq_true rfl⟩ dX7_tryCrossing_29 rfl (fun r29 g29 h => ?_)
    refine v_if_ne o (tgt := 37) dX7_tryCrossing_32 (by decide) (fun c32 => ?_) (fun c32 => ?_)
    · replace h := h.1 c32
      refine v_aload o 0 dX7_tryCrossing_37 rfl ?_
      refine v_cVi o [] [] (fun sz => metX6_size l G P g29 sz ((atB (a + 4) p1) + 1) (wfLoaf_t0 (is_atB (wfComp_t1 ha) p1)) _ h) (cwX7_106 o.1.2.2.2.2 (by decide)) ⟨_, _, rfl⟩ (by decide) (wfWord_o (wfLoaf_t0 (is_atB (wfComp_t1 ha) p1))) rfl (Nat.le_of_ble_eq_true rfl) ⟨Nat.le_of_ble_eq_true rfl, Nat.le_of_ble_eq_true rfl⟩ dX7_tryCrossing_39 rfl (fun r39 g39 h => ?_)
      refine v_bipush o (v := 24) dX7_tryCrossing_42 (by decide) ?_
      refine v_icmp_lt o (tgt := 49) dX7_tryCrossing_44 (by decide) (fun c44 => ?_) (fun c44 => ?_)
      · replace h := h.1 c44
        refine v_aload_n o 1 dX7_tryCrossing_49 rfl ?_
        refine v_gfR o lkX7_40 (by decide) (wfComp_o ha) (wfComp_r5 ha) dX7_tryCrossing_50 ?_
        refine v_cVr o [] [] (fun sz => metX2_word l G P g39 sz (a + 1410) (wfComp_t5 ha)) (cwX7_74 o.1.2.2.2.2 (by decide)) ⟨_, _, rfl⟩ (by decide) (wfLoaf_o (wfComp_t5 ha)) rfl (Nat.le_of_ble_eq_true rfl) ⟨Nat.le_of_ble_eq_true rfl, Nat.le_of_ble_eq_true rfl⟩ dX7_tryCrossing_53 rfl (fun r53 g53 h53 => ?_)
        obtain ⟨rfl, rfl⟩ := h53
        refine v_aload o 0 dX7_tryCrossing_56 rfl ?_
        refine v_cVv o [.ref ((atB (a + 4) p1) + 1)] [] (fun sz => metX6_copyFrom l G P g39 sz ((a + 1410) + 1) (wfLoaf_t0 (wfComp_t5 ha)) ((atB (a + 4) p1) + 1) (wfLoaf_t0 (is_atB (wfComp_t1 ha) p1)) _ h) (cwX7_264 o.1.2.2.2.2 (by decide)) ⟨_, _, rfl⟩ (by decide) (wfWord_o (wfLoaf_t0 (wfComp_t5 ha))) rfl (Nat.le_of_ble_eq_true rfl) ⟨Nat.le_of_ble_eq_true rfl, Nat.le_of_ble_eq_true rfl⟩ dX7_tryCrossing_58 rfl (fun g58 h => ?_)
        refine v_aload_n o 1 dX7_tryCrossing_61 rfl ?_
        refine v_gfR o lkX7_40 (by decide) (wfComp_o ha) (wfComp_r5 ha) dX7_tryCrossing_62 ?_
        refine v_cVr o [] [] (fun sz => metX2_word l G P g58 sz (a + 1410) (wfComp_t5 ha)) (cwX7_74 o.1.2.2.2.2 (by decide)) ⟨_, _, rfl⟩ (by decide) (wfLoaf_o (wfComp_t5 ha)) rfl (Nat.le_of_ble_eq_true rfl) ⟨Nat.le_of_ble_eq_true rfl, Nat.le_of_ble_eq_true rfl⟩ dX7_tryCrossing_65 rfl (fun r65 g65 h65 => ?_)
        obtain ⟨rfl, rfl⟩ := h65
        refine v_iload_n o 3 dX7_tryCrossing_68 rfl ?_
        refine v_iload_n o 4 dX7_tryCrossing_69 rfl ?_
        refine v_cSi o [.int p2, .int p3] [.ref ((a + 1410) + 1)] (fun sz => metX6_codeOf l G P g58 sz p2 p3 _ h) (cwX7_266 o.1.2.2.2.2 (by decide)) rfl (Nat.le_of_ble_eq_true rfl) ⟨Nat.le_of_ble_eq_true rfl, Nat.le_of_ble_eq_true rfl⟩ dX7_tryCrossing_70 rfl (fun r70 g70 h => ?_)
        refine v_cVv o [.int r70] [] (fun sz => metX6_add l G P g70 sz ((a + 1410) + 1) (wfLoaf_t0 (wfComp_t5 ha)) r70 _ h) (cwX7_270 o.1.2.2.2.2 (by decide)) ⟨_, _, rfl⟩ (by decide) (wfWord_o (wfLoaf_t0 (wfComp_t5 ha))) rfl (Nat.le_of_ble_eq_true rfl) ⟨Nat.le_of_ble_eq_true rfl, Nat.le_of_ble_eq_true rfl⟩ dX7_tryCrossing_73 rfl (fun g73 h => ?_)
        refine v_aload_n o 1 dX7_tryCrossing_76 rfl ?_
        refine v_gfR o lkX7_40 (by decide) (wfComp_o ha) (wfComp_r5 ha) dX7_tryCrossing_77 ?_
        refine v_cVi o [] [] (fun sz => metX2_settle l G P g73 sz (a + 1410) (wfComp_t5 ha) _ h) (cwX7_82 o.1.2.2.2.2 (by decide)) ⟨_, _, rfl⟩ (by decide) (wfLoaf_o (wfComp_t5 ha)) rfl (Nat.le_of_ble_eq_true rfl) ⟨Nat.le_of_ble_eq_true rfl, Nat.le_of_ble_eq_true rfl⟩ dX7_tryCrossing_80 rfl (fun r80 g80 h => ?_)
        exact v_iret o rfl hr dX7_tryCrossing_83 h
      · replace h := h.2 c44
        refine v_iconst o (v := 1) dX7_tryCrossing_47 (by decide) ?_
        exact v_iret o rfl hr dX7_tryCrossing_48 h
    · replace h := h.2 c32
      refine v_iconst o (v := 4) dX7_tryCrossing_35 (by decide) ?_
      exact v_iret o rfl hr dX7_tryCrossing_36 h
  · replace h := h.2 c8
    refine v_iconst o (v := 3) dX7_tryCrossing_11 (by decide) ?_
    exact v_iret o rfl hr dX7_tryCrossing_12 h
abbrev kX7_tryCrossing := @vX7_tryCrossing
abbrev metX7_tryCrossing := @mX7_tryCrossing

def vX7_needCan (P : Sk) (f : St) (p0 : Int32) (K : St → Prop) (X : String → St → Prop) : Prop :=
  (p0 = 0 → K f) ∧ (¬ p0 = 0 → X "java/lang/IllegalStateException" f)
abbrev rxX7_needCan : Room := { frames := 6, cells := 1, slots := 6, locals := 90 }
set_option maxRecDepth 20000 in
set_option maxHeartbeats 4000000 in
theorem mX7_needCan (l : Launch) (hl : l.stackTraces = false) (G : Gl) (P : Sk) (f : St) (sz : Nat) (p0 : Int32) (K : St → Prop) (X : String → St → Prop) (h : vX7_needCan P f p0 K X)  :
  vx_Met l yX7_needCan (wU yX7_needCan cX7_needCan 1 none) rxX7_needCan (PcX G P f sz [.int p0]) (QcV G P sz K) (XX G P sz X) 1 6 (frA P sz) := by
  refine v_metx (own := RX7) [.int p0] (by decide) rfl (Nat.le_of_ble_eq_true rfl) (fun p e s m args below meth c hsz o hr hT hno => ?_)
  refine v_lv (lv2 := [(0, .int p0)]) rfl ?_
  unfold vX7_needCan at h
  refine v_iload_n o 0 dX7_needCan_0 rfl ?_
  refine v_if_eq o (tgt := 15) dX7_needCan_1 (by decide) (fun c1 => ?_) (fun c1 => ?_)
  · replace h := h.1 c1
    exact v_xret (Nat.le_of_ble_eq_true rfl) (Nat.le_of_ble_eq_true rfl) (v_vret o rfl hr dX7_needCan_15 h)
  · replace h := h.2 c1
    exact v_throwSW o hT hl hno (text := "it cannot be done") rfl thw_69 (by decide) dX7_needCan_4 dX7_needCan_7 dX7_needCan_8 dX7_needCan_11 dX7_needCan_14 ⟨by decide, Nat.le_of_ble_eq_true rfl, Nat.le_of_ble_eq_true rfl, Nat.le_of_ble_eq_true rfl⟩ ⟨Nat.le_of_ble_eq_true rfl, Nat.le_of_ble_eq_true rfl⟩ h
theorem cxX7_118 {R : Room} {s : State} {args : Array Value} (ht : ∀ w ∈ lw_U, w.before args s = true) (hR : rxX7_needCan.frames + 1 ≤ R.frames ∧ 8 + (1 + 11) + rxX7_needCan.locals ≤ R.locals) : CallB R s args RX7 118 yX7_needCan cX7_needCan 1 none (wU yX7_needCan cX7_needCan 1 none) rxX7_needCan 1 6 1 ∧ (Cond.static yX7_needCan).before args s = true := va_cwS 1 ht (gUS (mU 811 (by decide +kernel) rfl) (mU 812 (by decide +kernel) rfl) (mU 82 (by decide +kernel) rfl) (mU 813 (by decide +kernel) rfl)) rfl rfl rfl ⟨by decide +kernel, by decide +kernel, by decide +kernel⟩ hR
abbrev kX7_needCan := @vX7_needCan
abbrev metX7_needCan := @mX7_needCan

def vX7_cross (P : Sk) (f : St) (a : Nat) (p1 : Int32) (p2 : Int32) (p3 : Int32) (K : Int32 → St → Prop) (X : String → St → Prop) : Prop :=
  kX7_needPlace P f a p1 p2 (fun g3 => kX7_tryCrossing P g3 a p1 p2 p3 (fun r10 g10 => kX7_needCan P g10 r10 (fun g13 => kX1_save P g13 (a + 160) (a + 4) (fun g24 => kX2_copyFrom P g24 (atB (a + 4) p1) (a + 1410) (fun g39 => kX6_size P g39 ((a + 1410) + 1) (fun r56 g56 => kX5_hiddenAt P g56 ((a + 1410) + 7) (r56 - 1) (fun r61 g61 => K r61 g61))))) X)) X
abbrev rxX7_cross : Room := { frames := 8, cells := 3, slots := 18, locals := 175 }
set_option maxRecDepth 20000 in
set_option maxHeartbeats 4000000 in
theorem mX7_cross (l : Launch) (hl : l.stackTraces = false) (G : Gl) (P : Sk) (f : St) (sz : Nat) (a : Nat) (ha : IsComp P a) (p1 : Int32) (p2 : Int32) (p3 : Int32) (K : Int32 → St → Prop) (X : String → St → Prop) (h : vX7_cross P f a p1 p2 p3 K X)  :
  vx_Met l yX7_cross (wU yX7_cross cX7_cross 4 (some .int)) rxX7_cross (PcX G P f sz [.ref a, .int p1, .int p2, .int p3]) (QcI G P sz K) (XX G P sz X) 3 18 (frA P sz) := by
  refine v_metx (own := RX7) [.ref a, .int p1, .int p2, .int p3] (by decide) rfl (Nat.le_of_ble_eq_true rfl) (fun p e s m args below meth c hsz o hr hT hno => ?_)
  refine v_lv (lv2 := [(0, .ref a), (1, .int p1), (2, .int p2), (3, .int p3)]) rfl ?_
  unfold vX7_cross at h
  refine v_aload_n o 0 dX7_cross_0 rfl ?_
  refine v_iload_n o 1 dX7_cross_1 rfl ?_
  refine v_iload_n o 2 dX7_cross_2 rfl ?_
  refine v_cxVv o hT hno [.int p1, .int p2] [] rfl (fun sz => metX7_needPlace l hl G P f sz a ha p1 p2 _ _ h) (cxX7_110 o.1.2.2.2.2 (by decide)) ⟨_, _, rfl⟩ (by decide) (wfComp_o ha) rfl (Nat.le_of_ble_eq_true rfl) ⟨Nat.le_of_ble_eq_true rfl, Nat.le_of_ble_eq_true rfl⟩ ⟨Nat.le_of_ble_eq_true rfl, Nat.le_of_ble_eq_true rfl⟩ dX7_cross_3 rfl (fun g3 h => ?_)
  refine v_aload_n o 0 dX7_cross_6 rfl ?_
  refine v_iload_n o 1 dX7_cross_7 rfl ?_
  refine v_iload_n o 2 dX7_cross_8 rfl ?_
  refine v_iload_n o 3 dX7_cross_9 rfl ?_
  refine v_cVi o [.int p1, .int p2, .int p3] [] (fun sz => metX7_tryCrossing l G P g3 sz a ha p1 p2 p3 _ h) (cwX7_114 o.1.2.2.2.2 (by decide)) ⟨_, _, rfl⟩ (by decide) (wfComp_o ha) rfl (Nat.le_of_ble_eq_true rfl) ⟨Nat.le_of_ble_eq_true rfl, Nat.le_of_ble_eq_true rfl⟩ dX7_cross_10 rfl (fun r10 g10 h => ?_)
  refine v_cxSv o hT hno [.int r10] [] rfl (fun sz => metX7_needCan l hl G P g10 sz r10 _ _ h) (cxX7_118 o.1.2.2.2.2 (by decide)) rfl (Nat.le_of_ble_eq_true rfl) ⟨Nat.le_of_ble_eq_true rfl, Nat.le_of_ble_eq_true rfl⟩ ⟨Nat.le_of_ble_eq_true rfl, Nat.le_of_ble_eq_true rfl⟩ dX7_cross_13 rfl (fun g13 h => ?_)
  refine v_aload_n o 0 dX7_cross_16 rfl ?_
  refine v_gfR o lkX7_26 (by decide) (wfComp_o ha) (wfComp_r2 ha) dX7_cross_17 ?_
  refine v_aload_n o 0 dX7_cross_20 rfl ?_
  refine v_gfR o lkX7_19 (by decide) (wfComp_o ha) (wfComp_r1 ha) dX7_cross_21 ?_
  refine v_cVv o [.ref (a + 4)] [] (fun sz => metX1_save l G P g13 sz (a + 160) (wfComp_t2 ha) (a + 4) (wfComp_t1 ha) _ h) (cwX7_87 o.1.2.2.2.2 (by decide)) ⟨_, _, rfl⟩ (by decide) (wfHist_o (wfComp_t2 ha)) rfl (Nat.le_of_ble_eq_true rfl) ⟨Nat.le_of_ble_eq_true rfl, Nat.le_of_ble_eq_true rfl⟩ dX7_cross_24 rfl (fun g24 h => ?_)
  refine v_aload_n o 0 dX7_cross_27 rfl ?_
  refine v_gfR o lkX7_19 (by decide) (wfComp_o ha) (wfComp_r1 ha) dX7_cross_28 ?_
  refine v_iload_n o 1 dX7_cross_31 rfl ?_
  refine v_cVr o [.int p1] [] (fun sz => metX0_at l G P g24 sz (a + 4) (wfComp_t1 ha) p1) (cwX7_102 o.1.2.2.2.2 (by decide)) ⟨_, _, rfl⟩ (by decide) (wfBoard_o (wfComp_t1 ha)) rfl (Nat.le_of_ble_eq_true rfl) ⟨Nat.le_of_ble_eq_true rfl, Nat.le_of_ble_eq_true rfl⟩ dX7_cross_32 rfl (fun r32 g32 h32 => ?_)
  obtain ⟨rfl, rfl⟩ := h32
  refine v_aload_n o 0 dX7_cross_35 rfl ?_
  refine v_gfR o lkX7_40 (by decide) (wfComp_o ha) (wfComp_r5 ha) dX7_cross_36 ?_
  refine v_cVv o [.ref (a + 1410)] [] (fun sz => metX2_copyFrom l G P g24 sz (atB (a + 4) p1) (is_atB (wfComp_t1 ha) p1) (a + 1410) (wfComp_t5 ha) _ h) (cwX7_121 o.1.2.2.2.2 (by decide)) ⟨_, _, rfl⟩ (by decide) (wfLoaf_o (is_atB (wfComp_t1 ha) p1)) rfl (Nat.le_of_ble_eq_true rfl) ⟨Nat.le_of_ble_eq_true rfl, Nat.le_of_ble_eq_true rfl⟩ dX7_cross_39 rfl (fun g39 h => ?_)
  refine v_aload_n o 0 dX7_cross_42 rfl ?_
  refine v_gfR o lkX7_40 (by decide) (wfComp_o ha) (wfComp_r5 ha) dX7_cross_43 ?_
  refine v_cVr o [] [] (fun sz => metX2_trace l G P g39 sz (a + 1410) (wfComp_t5 ha)) (cwX7_124 o.1.2.2.2.2 (by decide)) ⟨_, _, rfl⟩ (by decide) (wfLoaf_o (wfComp_t5 ha)) rfl (Nat.le_of_ble_eq_true rfl) ⟨Nat.le_of_ble_eq_true rfl, Nat.le_of_ble_eq_true rfl⟩ dX7_cross_46 rfl (fun r46 g46 h46 => ?_)
  obtain ⟨rfl, rfl⟩ := h46
  refine v_aload_n o 0 dX7_cross_49 rfl ?_
  refine v_gfR o lkX7_40 (by decide) (wfComp_o ha) (wfComp_r5 ha) dX7_cross_50 ?_
  refine v_cVr o [] [.ref ((a + 1410) + 7)] (fun sz => metX2_word l G P g39 sz (a + 1410) (wfComp_t5 ha)) (cwX7_74 o.1.2.2.2.2 (by decide)) ⟨_, _, rfl⟩ (by decide) (wfLoaf_o (wfComp_t5 ha)) rfl (Nat.le_of_ble_eq_true rfl) ⟨Nat.le_of_ble_eq_true rfl, Nat.le_of_ble_eq_true rfl⟩ dX7_cross_53 rfl (fun r53 g53 h53 => ?_)
  obtain ⟨rfl, rfl⟩ := h53
  refine v_cVi o [] [.ref ((a + 1410) + 7)] (fun sz => metX6_size l G P g39 sz ((a + 1410) + 1) (wfLoaf_t0 (wfComp_t5 ha)) _ h) (cwX7_106 o.1.2.2.2.2 (by decide)) ⟨_, _, rfl⟩ (by decide) (wfWord_o (wfLoaf_t0 (wfComp_t5 ha))) rfl (Nat.le_of_ble_eq_true rfl) ⟨Nat.le_of_ble_eq_true rfl, Nat.le_of_ble_eq_true rfl⟩ dX7_cross_56 rfl (fun r56 g56 h => ?_)
  refine v_iconst o (v := 1) dX7_cross_59 (by decide) ?_
  refine v_isub o dX7_cross_60 ?_
  refine v_cVi o [.int (r56 - 1)] [] (fun sz => metX5_hiddenAt l G P g56 sz ((a + 1410) + 7) (wfLoaf_t2 (wfComp_t5 ha)) (r56 - 1) _ h) (cwX7_128 o.1.2.2.2.2 (by decide)) ⟨_, _, rfl⟩ (by decide) (wfTrace_o (wfLoaf_t2 (wfComp_t5 ha))) rfl (Nat.le_of_ble_eq_true rfl) ⟨Nat.le_of_ble_eq_true rfl, Nat.le_of_ble_eq_true rfl⟩ dX7_cross_61 rfl (fun r61 g61 h => ?_)
  exact v_xret (Nat.le_of_ble_eq_true rfl) (Nat.le_of_ble_eq_true rfl) (v_iret o rfl hr dX7_cross_64 h)
theorem cxL_23 {R : Room} {s : State} {args : Array Value} (ht : ∀ w ∈ lw_U, w.before args s = true) (hR : rxX7_cross.frames + 1 ≤ R.frames ∧ 8 + (4 + 11) + rxX7_cross.locals ≤ R.locals) : CallW R s args RL RX7 23 yX7_cross cX7_cross 4 (some .int) (wU yX7_cross cX7_cross 4 (some .int)) rxX7_cross 3 18 3 := cwV 3 ht (gUV (mU 791 (by decide +kernel) rfl) (mU 792 (by decide +kernel) rfl) (mU 793 (by decide +kernel) rfl) (mU 82 (by decide +kernel) rfl) (mU 794 (by decide +kernel) rfl)) rfl rfl rfl ⟨rfl, by decide +kernel, by decide +kernel, by decide +kernel⟩ hR
abbrev kX7_cross := @vX7_cross
abbrev metX7_cross := @mX7_cross

def vX7_tryTakingBack (P : Sk) (f : St) (a : Nat) (p1 : Int32) (K : Int32 → St → Prop) : Prop :=
  kX0_has P f (a + 4) p1 (fun r5 g5 => (¬ r5 = 0 → kX6_size P g5 ((atB (a + 4) p1) + 1) (fun r26 g26 => (¬ r26 = 0 → kX6_copyFrom P g26 ((a + 1410) + 1) ((atB (a + 4) p1) + 1) (fun g43 => kX6_size P g43 ((atB (a + 4) p1) + 1) (fun r54 g54 => kX6_removeAt P g54 ((a + 1410) + 1) (r54 - 1) (fun g59 => kX2_settle P g59 (a + 1410) (fun r66 g66 => K r66 g66))))) ∧ (r26 = 0 → K 6 g26))) ∧ (r5 = 0 → K 3 g5))
set_option maxRecDepth 20000 in
set_option maxHeartbeats 4000000 in
theorem mX7_tryTakingBack (l : Launch) (G : Gl) (P : Sk) (f : St) (sz : Nat) (a : Nat) (ha : IsComp P a) (p1 : Int32) (K : Int32 → St → Prop) (h : vX7_tryTakingBack P f a p1 K)  :
  Met l yX7_tryTakingBack (wU yX7_tryTakingBack cX7_tryTakingBack 3 (some .int)) rmX7_tryTakingBack (PcW G P f sz [.ref a, .int p1]) (QcI G P sz K) 0 0 (frA P sz) := by
  refine v_met (own := RX7) [.ref a, .int p1] (by decide +kernel) rfl (Nat.le_of_ble_eq_true rfl) (fun p e s m args below meth c hsz o hr hnm => ?_)
  refine v_lv (lv2 := [(0, .ref a), (1, .int p1)]) rfl ?_
  unfold vX7_tryTakingBack at h
  refine v_aload_n o 0 dX7_tryTakingBack_0 rfl ?_
  refine v_gfR o lkX7_19 (by decide) (wfComp_o ha) (wfComp_r1 ha) dX7_tryTakingBack_1 ?_
  refine v_iload_n o 1 dX7_tryTakingBack_4 rfl ?_
  refine v_cVi o [.int p1] [] (fun sz => metX0_has l G P f sz (a + 4) (wfComp_t1 ha) p1 _ h) (cwX7_246 o.1.2.2.2.2 (by decide)) ⟨_, _, rfl⟩ (by decide) (wfBoard_o (wfComp_t1 ha)) rfl (Nat.le_of_ble_eq_true rfl) ⟨Nat.le_of_ble_eq_true rfl, Nat.le_of_ble_eq_true rfl⟩ dX7_tryTakingBack_5 rfl (fun r5 g5 h => ?_)
  refine v_if_ne o (tgt := 13) dX7_tryTakingBack_8 (by decide) (fun c8 => ?_) (fun c8 => ?_)
  · replace h := h.1 c8
    refine v_aload_n o 0 dX7_tryTakingBack_13 rfl ?_
    refine v_gfR o lkX7_19 (by decide) (wfComp_o ha) (wfComp_r1 ha) dX7_tryTakingBack_14 ?_
    refine v_iload_n o 1 dX7_tryTakingBack_17 rfl ?_
    refine v_cVr o [.int p1] [] (fun sz => metX0_at l G P g5 sz (a + 4) (wfComp_t1 ha) p1) (cwX7_102 o.1.2.2.2.2 (by decide)) ⟨_, _, rfl⟩ (by decide) (wfBoard_o (wfComp_t1 ha)) rfl (Nat.le_of_ble_eq_true rfl) ⟨Nat.le_of_ble_eq_true rfl, Nat.le_of_ble_eq_true rfl⟩ dX7_tryTakingBack_18 rfl (fun r18 g18 h18 => ?_)
    obtain ⟨rfl, rfl⟩ := h18
    refine v_cVr o [] [] (fun sz => metX2_word l G P g5 sz (atB (a + 4) p1) (is_atB (wfComp_t1 ha) p1)) (cwX7_74 o.1.2.2.2.2 (by decide)) ⟨_, _, rfl⟩ (by decide) (wfLoaf_o (is_atB (wfComp_t1 ha) p1)) rfl (Nat.le_of_ble_eq_true rfl) ⟨Nat.le_of_ble_eq_true rfl, Nat.le_of_ble_eq_true rfl⟩ dX7_tryTakingBack_21 rfl (fun r21 g21 h21 => ?_)
    obtain ⟨rfl, rfl⟩ := h21
    refine v_astore_n o (lv' := [(2, .ref ((atB (a + 4) p1) + 1)), (0, .ref a), (1, .int p1)]) dX7_tryTakingBack_24 rfl (by decide) rfl ?_
    refine v_aload_n o 0 dX7_tryTakingBack_25 rfl ?_
    refine v_cVi o [] [] (fun sz => metX6_size l G P g5 sz ((atB (a + 4) p1) + 1) (wfLoaf_t0 (is_atB (wfComp_t1 ha) p1)) _ h) (cwX7_106 o.1.2.2.2.2 (by decide)) ⟨_, _, rfl⟩ (by decide) (wfWord_o (wfLoaf_t0 (is_atB (wfComp_t1 ha) p1))) rfl (Nat.le_of_ble_eq_true rfl) ⟨Nat.le_of_ble_eq_true rfl, Nat.le_of_ble_eq_true rfl⟩ dX7_tryTakingBack_26 rfl (fun r26 g26 h => ?_)
    refine v_if_ne o (tgt := 35) dX7_tryTakingBack_29 (by decide) (fun c29 => ?_) (fun c29 => ?_)
    · replace h := h.1 c29
      refine v_aload_n o 1 dX7_tryTakingBack_35 rfl ?_
      refine v_gfR o lkX7_40 (by decide) (wfComp_o ha) (wfComp_r5 ha) dX7_tryTakingBack_36 ?_
      refine v_cVr o [] [] (fun sz => metX2_word l G P g26 sz (a + 1410) (wfComp_t5 ha)) (cwX7_74 o.1.2.2.2.2 (by decide)) ⟨_, _, rfl⟩ (by decide) (wfLoaf_o (wfComp_t5 ha)) rfl (Nat.le_of_ble_eq_true rfl) ⟨Nat.le_of_ble_eq_true rfl, Nat.le_of_ble_eq_true rfl⟩ dX7_tryTakingBack_39 rfl (fun r39 g39 h39 => ?_)
      obtain ⟨rfl, rfl⟩ := h39
      refine v_aload_n o 0 dX7_tryTakingBack_42 rfl ?_
      refine v_cVv o [.ref ((atB (a + 4) p1) + 1)] [] (fun sz => metX6_copyFrom l G P g26 sz ((a + 1410) + 1) (wfLoaf_t0 (wfComp_t5 ha)) ((atB (a + 4) p1) + 1) (wfLoaf_t0 (is_atB (wfComp_t1 ha) p1)) _ h) (cwX7_264 o.1.2.2.2.2 (by decide)) ⟨_, _, rfl⟩ (by decide) (wfWord_o (wfLoaf_t0 (wfComp_t5 ha))) rfl (Nat.le_of_ble_eq_true rfl) ⟨Nat.le_of_ble_eq_true rfl, Nat.le_of_ble_eq_true rfl⟩ dX7_tryTakingBack_43 rfl (fun g43 h => ?_)
      refine v_aload_n o 1 dX7_tryTakingBack_46 rfl ?_
      refine v_gfR o lkX7_40 (by decide) (wfComp_o ha) (wfComp_r5 ha) dX7_tryTakingBack_47 ?_
      refine v_cVr o [] [] (fun sz => metX2_word l G P g43 sz (a + 1410) (wfComp_t5 ha)) (cwX7_74 o.1.2.2.2.2 (by decide)) ⟨_, _, rfl⟩ (by decide) (wfLoaf_o (wfComp_t5 ha)) rfl (Nat.le_of_ble_eq_true rfl) ⟨Nat.le_of_ble_eq_true rfl, Nat.le_of_ble_eq_true rfl⟩ dX7_tryTakingBack_50 rfl (fun r50 g50 h50 => ?_)
      obtain ⟨rfl, rfl⟩ := h50
      refine v_aload_n o 0 dX7_tryTakingBack_53 rfl ?_
      refine v_cVi o [] [.ref ((a + 1410) + 1)] (fun sz => metX6_size l G P g43 sz ((atB (a + 4) p1) + 1) (wfLoaf_t0 (is_atB (wfComp_t1 ha) p1)) _ h) (cwX7_106 o.1.2.2.2.2 (by decide)) ⟨_, _, rfl⟩ (by decide) (wfWord_o (wfLoaf_t0 (is_atB (wfComp_t1 ha) p1))) rfl (Nat.le_of_ble_eq_true rfl) ⟨Nat.le_of_ble_eq_true rfl, Nat.le_of_ble_eq_true rfl⟩ dX7_tryTakingBack_54 rfl (fun r54 g54 h => ?_)
      refine v_iconst o (v := 1) dX7_tryTakingBack_57 (by decide) ?_
      refine v_isub o dX7_tryTakingBack_58 ?_
      refine v_cVv o [.int (r54 - 1)] [] (fun sz => metX6_removeAt l G P g54 sz ((a + 1410) + 1) (wfLoaf_t0 (wfComp_t5 ha)) (r54 - 1) _ h) (cwX7_273 o.1.2.2.2.2 (by decide)) ⟨_, _, rfl⟩ (by decide) (wfWord_o (wfLoaf_t0 (wfComp_t5 ha))) rfl (Nat.le_of_ble_eq_true rfl) ⟨Nat.le_of_ble_eq_true rfl, Nat.le_of_ble_eq_true rfl⟩ dX7_tryTakingBack_59 rfl (fun g59 h => ?_)
      refine v_aload_n o 1 dX7_tryTakingBack_62 rfl ?_
      refine v_gfR o lkX7_40 (by decide) (wfComp_o ha) (wfComp_r5 ha) dX7_tryTakingBack_63 ?_
      refine v_cVi o [] [] (fun sz => metX2_settle l G P g59 sz (a + 1410) (wfComp_t5 ha) _ h) (cwX7_82 o.1.2.2.2.2 (by decide)) ⟨_, _, rfl⟩ (by decide) (wfLoaf_o (wfComp_t5 ha)) rfl (Nat.le_of_ble_eq_true rfl) ⟨Nat.le_of_ble_eq_true rfl, Nat.le_of_ble_eq_true rfl⟩ dX7_tryTakingBack_66 rfl (fun r66 g66 h => ?_)
      exact v_iret o rfl hr dX7_tryTakingBack_69 h
    · replace h := h.2 c29
      refine v_bipush o (v := 6) dX7_tryTakingBack_32 (by decide) ?_
      exact v_iret o rfl hr dX7_tryTakingBack_34 h
  · replace h := h.2 c8
    refine v_iconst o (v := 3) dX7_tryTakingBack_11 (by decide) ?_
    exact v_iret o rfl hr dX7_tryTakingBack_12 h
abbrev kX7_tryTakingBack := @vX7_tryTakingBack
abbrev metX7_tryTakingBack := @mX7_tryTakingBack

def vX7_back (P : Sk) (f : St) (a : Nat) (p1 : Int32) (K : Int32 → St → Prop) (X : String → St → Prop) : Prop :=
  kX7_needLoaf P f a p1 (fun g2 => kX7_tryTakingBack P g2 a p1 (fun r7 g7 => kX7_needCan P g7 r7 (fun g10 => kX1_save P g10 (a + 160) (a + 4) (fun g21 => kX2_copyFrom P g21 (atB (a + 4) p1) (a + 1410) (fun g36 => kX6_size P g36 ((a + 1410) + 1) (fun r46 g46 => K r46 g46)))) X)) X
abbrev rxX7_back : Room := { frames := 7, cells := 2, slots := 12, locals := 175 }
set_option maxRecDepth 20000 in
set_option maxHeartbeats 4000000 in
theorem mX7_back (l : Launch) (hl : l.stackTraces = false) (G : Gl) (P : Sk) (f : St) (sz : Nat) (a : Nat) (ha : IsComp P a) (p1 : Int32) (K : Int32 → St → Prop) (X : String → St → Prop) (h : vX7_back P f a p1 K X)  :
  vx_Met l yX7_back (wU yX7_back cX7_back 2 (some .int)) rxX7_back (PcX G P f sz [.ref a, .int p1]) (QcI G P sz K) (XX G P sz X) 2 12 (frA P sz) := by
  refine v_metx (own := RX7) [.ref a, .int p1] (by decide) rfl (Nat.le_of_ble_eq_true rfl) (fun p e s m args below meth c hsz o hr hT hno => ?_)
  refine v_lv (lv2 := [(0, .ref a), (1, .int p1)]) rfl ?_
  unfold vX7_back at h
  refine v_aload_n o 0 dX7_back_0 rfl ?_
  refine v_iload_n o 1 dX7_back_1 rfl ?_
  refine v_cxVv o hT hno [.int p1] [] rfl (fun sz => metX7_needLoaf l hl G P f sz a ha p1 _ _ h) (cxX7_98 o.1.2.2.2.2 (by decide)) ⟨_, _, rfl⟩ (by decide) (wfComp_o ha) rfl (Nat.le_of_ble_eq_true rfl) ⟨Nat.le_of_ble_eq_true rfl, Nat.le_of_ble_eq_true rfl⟩ ⟨Nat.le_of_ble_eq_true rfl, Nat.le_of_ble_eq_true rfl⟩ dX7_back_2 rfl (fun g2 h => ?_)
  refine v_aload_n o 0 dX7_back_5 rfl ?_
  refine v_iload_n o 1 dX7_back_6 rfl ?_
  refine v_cVi o [.int p1] [] (fun sz => metX7_tryTakingBack l G P g2 sz a ha p1 _ h) (cwX7_134 o.1.2.2.2.2 (by decide)) ⟨_, _, rfl⟩ (by decide) (wfComp_o ha) rfl (Nat.le_of_ble_eq_true rfl) ⟨Nat.le_of_ble_eq_true rfl, Nat.le_of_ble_eq_true rfl⟩ dX7_back_7 rfl (fun r7 g7 h => ?_)
  refine v_cxSv o hT hno [.int r7] [] rfl (fun sz => metX7_needCan l hl G P g7 sz r7 _ _ h) (cxX7_118 o.1.2.2.2.2 (by decide)) rfl (Nat.le_of_ble_eq_true rfl) ⟨Nat.le_of_ble_eq_true rfl, Nat.le_of_ble_eq_true rfl⟩ ⟨Nat.le_of_ble_eq_true rfl, Nat.le_of_ble_eq_true rfl⟩ dX7_back_10 rfl (fun g10 h => ?_)
  refine v_aload_n o 0 dX7_back_13 rfl ?_
  refine v_gfR o lkX7_26 (by decide) (wfComp_o ha) (wfComp_r2 ha) dX7_back_14 ?_
  refine v_aload_n o 0 dX7_back_17 rfl ?_
  refine v_gfR o lkX7_19 (by decide) (wfComp_o ha) (wfComp_r1 ha) dX7_back_18 ?_
  refine v_cVv o [.ref (a + 4)] [] (fun sz => metX1_save l G P g10 sz (a + 160) (wfComp_t2 ha) (a + 4) (wfComp_t1 ha) _ h) (cwX7_87 o.1.2.2.2.2 (by decide)) ⟨_, _, rfl⟩ (by decide) (wfHist_o (wfComp_t2 ha)) rfl (Nat.le_of_ble_eq_true rfl) ⟨Nat.le_of_ble_eq_true rfl, Nat.le_of_ble_eq_true rfl⟩ dX7_back_21 rfl (fun g21 h => ?_)
  refine v_aload_n o 0 dX7_back_24 rfl ?_
  refine v_gfR o lkX7_19 (by decide) (wfComp_o ha) (wfComp_r1 ha) dX7_back_25 ?_
  refine v_iload_n o 1 dX7_back_28 rfl ?_
  refine v_cVr o [.int p1] [] (fun sz => metX0_at l G P g21 sz (a + 4) (wfComp_t1 ha) p1) (cwX7_102 o.1.2.2.2.2 (by decide)) ⟨_, _, rfl⟩ (by decide) (wfBoard_o (wfComp_t1 ha)) rfl (Nat.le_of_ble_eq_true rfl) ⟨Nat.le_of_ble_eq_true rfl, Nat.le_of_ble_eq_true rfl⟩ dX7_back_29 rfl (fun r29 g29 h29 => ?_)
  obtain ⟨rfl, rfl⟩ := h29
  refine v_aload_n o 0 dX7_back_32 rfl ?_
  refine v_gfR o lkX7_40 (by decide) (wfComp_o ha) (wfComp_r5 ha) dX7_back_33 ?_
  refine v_cVv o [.ref (a + 1410)] [] (fun sz => metX2_copyFrom l G P g21 sz (atB (a + 4) p1) (is_atB (wfComp_t1 ha) p1) (a + 1410) (wfComp_t5 ha) _ h) (cwX7_121 o.1.2.2.2.2 (by decide)) ⟨_, _, rfl⟩ (by decide) (wfLoaf_o (is_atB (wfComp_t1 ha) p1)) rfl (Nat.le_of_ble_eq_true rfl) ⟨Nat.le_of_ble_eq_true rfl, Nat.le_of_ble_eq_true rfl⟩ dX7_back_36 rfl (fun g36 h => ?_)
  refine v_aload_n o 0 dX7_back_39 rfl ?_
  refine v_gfR o lkX7_40 (by decide) (wfComp_o ha) (wfComp_r5 ha) dX7_back_40 ?_
  refine v_cVr o [] [] (fun sz => metX2_word l G P g36 sz (a + 1410) (wfComp_t5 ha)) (cwX7_74 o.1.2.2.2.2 (by decide)) ⟨_, _, rfl⟩ (by decide) (wfLoaf_o (wfComp_t5 ha)) rfl (Nat.le_of_ble_eq_true rfl) ⟨Nat.le_of_ble_eq_true rfl, Nat.le_of_ble_eq_true rfl⟩ dX7_back_43 rfl (fun r43 g43 h43 => ?_)
  obtain ⟨rfl, rfl⟩ := h43
  refine v_cVi o [] [] (fun sz => metX6_size l G P g36 sz ((a + 1410) + 1) (wfLoaf_t0 (wfComp_t5 ha)) _ h) (cwX7_106 o.1.2.2.2.2 (by decide)) ⟨_, _, rfl⟩ (by decide) (wfWord_o (wfLoaf_t0 (wfComp_t5 ha))) rfl (Nat.le_of_ble_eq_true rfl) ⟨Nat.le_of_ble_eq_true rfl, Nat.le_of_ble_eq_true rfl⟩ dX7_back_46 rfl (fun r46 g46 h => ?_)
  exact v_xret (Nat.le_of_ble_eq_true rfl) (Nat.le_of_ble_eq_true rfl) (v_iret o rfl hr dX7_back_49 h)
theorem cxL_27 {R : Room} {s : State} {args : Array Value} (ht : ∀ w ∈ lw_U, w.before args s = true) (hR : rxX7_back.frames + 1 ≤ R.frames ∧ 8 + (2 + 11) + rxX7_back.locals ≤ R.locals) : CallW R s args RL RX7 27 yX7_back cX7_back 2 (some .int) (wU yX7_back cX7_back 2 (some .int)) rxX7_back 2 12 1 := cwV 1 ht (gUV (mU 820 (by decide +kernel) rfl) (mU 821 (by decide +kernel) rfl) (mU 822 (by decide +kernel) rfl) (mU 82 (by decide +kernel) rfl) (mU 823 (by decide +kernel) rfl)) rfl rfl rfl ⟨rfl, by decide +kernel, by decide +kernel, by decide +kernel⟩ hR
abbrev kX7_back := @vX7_back
abbrev metX7_back := @mX7_back

def jX7_needUpTo_9 (P : Sk) (p0 : Int32) (p1 : Int32) (K : St → Prop) (X : String → St → Prop) (f : St) : Prop :=
  X "java/lang/IllegalArgumentException" f
def vX7_needUpTo (P : Sk) (f : St) (p0 : Int32) (p1 : Int32) (K : St → Prop) (X : String → St → Prop) : Prop :=
  (p0 < 0 → jX7_needUpTo_9 P p0 p1 K X  f) ∧ (¬ p0 < 0 → (p0 ≤ p1 → K f) ∧ (¬ p0 ≤ p1 → jX7_needUpTo_9 P p0 p1 K X  f))
abbrev rxX7_needUpTo : Room := { frames := 6, cells := 1, slots := 6, locals := 90 }
set_option maxRecDepth 20000 in
set_option maxHeartbeats 4000000 in
theorem mX7_needUpTo (l : Launch) (hl : l.stackTraces = false) (G : Gl) (P : Sk) (f : St) (sz : Nat) (p0 : Int32) (p1 : Int32) (K : St → Prop) (X : String → St → Prop) (h : vX7_needUpTo P f p0 p1 K X)  :
  vx_Met l yX7_needUpTo (wU yX7_needUpTo cX7_needUpTo 2 none) rxX7_needUpTo (PcX G P f sz [.int p0, .int p1]) (QcV G P sz K) (XX G P sz X) 1 6 (frA P sz) := by
  refine v_metx (own := RX7) [.int p0, .int p1] (by decide) rfl (Nat.le_of_ble_eq_true rfl) (fun p e s m args below meth c hsz o hr hT hno => ?_)
  refine v_lv (lv2 := [(0, .int p0), (1, .int p1)]) rfl ?_
  have J9 : ∀ (g9 : St), jX7_needUpTo_9 P p0 p1 K X  g9 → V p l e rxX7_needUpTo s m args below meth c 2 G (frA P sz) (vx_MQ below (QcV G P sz K) (XX G P sz X) args s 1 6 (frA P sz)) 0 0 P [(0, .int p0), (1, .int p1)] [] 9 g9 := by
    intro  g9  h
    unfold jX7_needUpTo_9 at h
    exact v_throwSW o hT hl hno (text := "out of range") rfl thw_58 (by decide) dX7_needUpTo_9 dX7_needUpTo_12 dX7_needUpTo_13 dX7_needUpTo_16 dX7_needUpTo_19 ⟨by decide, Nat.le_of_ble_eq_true rfl, Nat.le_of_ble_eq_true rfl, Nat.le_of_ble_eq_true rfl⟩ ⟨Nat.le_of_ble_eq_true rfl, Nat.le_of_ble_eq_true rfl⟩ h
  unfold vX7_needUpTo at h
  refine v_iload_n o 0 dX7_needUpTo_0 rfl ?_
  refine v_if_lt o (tgt := 9) dX7_needUpTo_1 (by decide) (fun c1 => ?_) (fun c1 => ?_)
  · replace h := h.1 c1
    refine v_widen (k := 0) (n := 0) (Nat.le_of_ble_eq_true rfl) (Nat.le_of_ble_eq_true rfl) ?_
    refine v_sub [0, 1] (lv2 := [(0, .int p0), (1, .int p1)]) rfl ?_
    exact J9  f  h
  · replace h := h.2 c1
    refine v_iload_n o 0 dX7_needUpTo_4 rfl ?_
    refine v_iload_n o 1 dX7_needUpTo_5 rfl ?_
    refine v_icmp_le o (tgt := 20) dX7_needUpTo_6 (by decide) (fun c6 => ?_) (fun c6 => ?_)
    · replace h := h.1 c6
      exact v_xret (Nat.le_of_ble_eq_true rfl) (Nat.le_of_ble_eq_true rfl) (v_vret o rfl hr dX7_needUpTo_20 h)
    · replace h := h.2 c6
      refine v_widen (k := 0) (n := 0) (Nat.le_of_ble_eq_true rfl) (Nat.le_of_ble_eq_true rfl) ?_
      refine v_sub [0, 1] (lv2 := [(0, .int p0), (1, .int p1)]) rfl ?_
      exact J9  f  h
theorem cxX7_137 {R : Room} {s : State} {args : Array Value} (ht : ∀ w ∈ lw_U, w.before args s = true) (hR : rxX7_needUpTo.frames + 1 ≤ R.frames ∧ 8 + (2 + 11) + rxX7_needUpTo.locals ≤ R.locals) : CallB R s args RX7 137 yX7_needUpTo cX7_needUpTo 2 none (wU yX7_needUpTo cX7_needUpTo 2 none) rxX7_needUpTo 1 6 2 ∧ (Cond.static yX7_needUpTo).before args s = true := va_cwS 2 ht (gUS (mU 836 (by decide +kernel) rfl) (mU 837 (by decide +kernel) rfl) (mU 82 (by decide +kernel) rfl) (mU 838 (by decide +kernel) rfl)) rfl rfl rfl ⟨by decide +kernel, by decide +kernel, by decide +kernel⟩ hR
abbrev kX7_needUpTo := @vX7_needUpTo
abbrev metX7_needUpTo := @mX7_needUpTo

def vX7_tryChange (P : Sk) (f : St) (a : Nat) (p1 : Int32) (p2 : Int32) (K : Int32 → St → Prop) : Prop :=
  kX0_has P f (a + 4) p1 (fun r5 g5 => (¬ r5 = 0 → kX6_makeChanged P g5 ((a + 1410) + 1) ((atB (a + 4) p1) + 1) p2 (fun g32 => kX2_settle P g32 (a + 1410) (fun r39 g39 => K r39 g39))) ∧ (r5 = 0 → K 3 g5))
set_option maxRecDepth 20000 in
set_option maxHeartbeats 4000000 in
theorem mX7_tryChange (l : Launch) (G : Gl) (P : Sk) (f : St) (sz : Nat) (a : Nat) (ha : IsComp P a) (p1 : Int32) (p2 : Int32) (K : Int32 → St → Prop) (h : vX7_tryChange P f a p1 p2 K)  :
  Met l yX7_tryChange (wU yX7_tryChange cX7_tryChange 3 (some .int)) rmX7_tryChange (PcW G P f sz [.ref a, .int p1, .int p2]) (QcI G P sz K) 0 0 (frA P sz) := by
  refine v_met (own := RX7) [.ref a, .int p1, .int p2] (by decide +kernel) rfl (Nat.le_of_ble_eq_true rfl) (fun p e s m args below meth c hsz o hr hnm => ?_)
  refine v_lv (lv2 := [(0, .ref a), (1, .int p1), (2, .int p2)]) rfl ?_
  unfold vX7_tryChange at h
  refine v_aload_n o 0 dX7_tryChange_0 rfl ?_
  refine v_gfR o lkX7_19 (by decide) (wfComp_o ha) (wfComp_r1 ha) dX7_tryChange_1 ?_
  refine v_iload_n o 1 dX7_tryChange_4 rfl ?_
  refine v_cVi o [.int p1] [] (fun sz => metX0_has l G P f sz (a + 4) (wfComp_t1 ha) p1 _ h) (cwX7_246 o.1.2.2.2.2 (by decide)) ⟨_, _, rfl⟩ (by decide) (wfBoard_o (wfComp_t1 ha)) rfl (Nat.le_of_ble_eq_true rfl) ⟨Nat.le_of_ble_eq_true rfl, Nat.le_of_ble_eq_true rfl⟩ dX7_tryChange_5 rfl (fun r5 g5 h => ?_)
  refine v_if_ne o (tgt := 13) dX7_tryChange_8 (by decide) (fun c8 => ?_) (fun c8 => ?_)
  · replace h := h.1 c8
    refine v_aload_n o 0 dX7_tryChange_13 rfl ?_
    refine v_gfR o lkX7_40 (by decide) (wfComp_o ha) (wfComp_r5 ha) dX7_tryChange_14 ?_
    refine v_cVr o [] [] (fun sz => metX2_word l G P g5 sz (a + 1410) (wfComp_t5 ha)) (cwX7_74 o.1.2.2.2.2 (by decide)) ⟨_, _, rfl⟩ (by decide) (wfLoaf_o (wfComp_t5 ha)) rfl (Nat.le_of_ble_eq_true rfl) ⟨Nat.le_of_ble_eq_true rfl, Nat.le_of_ble_eq_true rfl⟩ dX7_tryChange_17 rfl (fun r17 g17 h17 => ?_)
    obtain ⟨rfl, rfl⟩ := h17
    refine v_aload_n o 0 dX7_tryChange_20 rfl ?_
    refine v_gfR o lkX7_19 (by decide) (wfComp_o ha) (wfComp_r1 ha) dX7_tryChange_21 ?_
    refine v_iload_n o 1 dX7_tryChange_24 rfl ?_
    refine v_cVr o [.int p1] [.ref ((a + 1410) + 1)] (fun sz => metX0_at l G P g5 sz (a + 4) (wfComp_t1 ha) p1) (cwX7_102 o.1.2.2.2.2 (by decide)) ⟨_, _, rfl⟩ (by decide) (wfBoard_o (wfComp_t1 ha)) rfl (Nat.le_of_ble_eq_true rfl) ⟨Nat.le_of_ble_eq_true rfl, Nat.le_of_ble_eq_true rfl⟩ dX7_tryChange_25 rfl (fun r25 g25 h25 => ?_)
    obtain ⟨rfl, rfl⟩ := h25
    refine v_cVr o [] [.ref ((a + 1410) + 1)] (fun sz => metX2_word l G P g5 sz (atB (a + 4) p1) (is_atB (wfComp_t1 ha) p1)) (cwX7_74 o.1.2.2.2.2 (by decide)) ⟨_, _, rfl⟩ (by decide) (wfLoaf_o (is_atB (wfComp_t1 ha) p1)) rfl (Nat.le_of_ble_eq_true rfl) ⟨Nat.le_of_ble_eq_true rfl, Nat.le_of_ble_eq_true rfl⟩ dX7_tryChange_28 rfl (fun r28 g28 h28 => ?_)
    obtain ⟨rfl, rfl⟩ := h28
    refine v_iload_n o 2 dX7_tryChange_31 rfl ?_
    refine v_cVv o [.ref ((atB (a + 4) p1) + 1), .int p2] [] (fun sz => metX6_makeChanged l G P g5 sz ((a + 1410) + 1) (wfLoaf_t0 (wfComp_t5 ha)) ((atB (a + 4) p1) + 1) (wfLoaf_t0 (is_atB (wfComp_t1 ha) p1)) p2 _ h) (cwX7_276 o.1.2.2.2.2 (by decide)) ⟨_, _, rfl⟩ (by decide) (wfWord_o (wfLoaf_t0 (wfComp_t5 ha))) rfl (Nat.le_of_ble_eq_true rfl) ⟨Nat.le_of_ble_eq_true rfl, Nat.le_of_ble_eq_true rfl⟩ dX7_tryChange_32 rfl (fun g32 h => ?_)
    refine v_aload_n o 0 dX7_tryChange_35 rfl ?_
    refine v_gfR o lkX7_40 (by decide) (wfComp_o ha) (wfComp_r5 ha) dX7_tryChange_36 ?_
    refine v_cVi o [] [] (fun sz => metX2_settle l G P g32 sz (a + 1410) (wfComp_t5 ha) _ h) (cwX7_82 o.1.2.2.2.2 (by decide)) ⟨_, _, rfl⟩ (by decide) (wfLoaf_o (wfComp_t5 ha)) rfl (Nat.le_of_ble_eq_true rfl) ⟨Nat.le_of_ble_eq_true rfl, Nat.le_of_ble_eq_true rfl⟩ dX7_tryChange_39 rfl (fun r39 g39 h => ?_)
    exact v_iret o rfl hr dX7_tryChange_42 h
  · replace h := h.2 c8
    refine v_iconst o (v := 3) dX7_tryChange_11 (by decide) ?_
    exact v_iret o rfl hr dX7_tryChange_12 h
abbrev kX7_tryChange := @vX7_tryChange
abbrev metX7_tryChange := @mX7_tryChange

def vX7_change (P : Sk) (f : St) (a : Nat) (p1 : Int32) (p2 : Int32) (K : Int32 → St → Prop) (X : String → St → Prop) : Prop :=
  kX7_needLoaf P f a p1 (fun g2 => kX7_needUpTo P g2 p2 3 (fun g7 => kX7_tryChange P g7 a p1 p2 (fun r13 g13 => kX7_needCan P g13 r13 (fun g16 => kX1_save P g16 (a + 160) (a + 4) (fun g27 => kX2_copyFrom P g27 (atB (a + 4) p1) (a + 1410) (fun g42 => kX0_addChange P g42 (a + 4) (fun g49 => kX6_size P g49 ((a + 1410) + 1) (fun r59 g59 => K r59 g59))))) X)) X) X
abbrev rxX7_change : Room := { frames := 7, cells := 3, slots := 18, locals := 175 }
set_option maxRecDepth 20000 in
set_option maxHeartbeats 4000000 in
theorem mX7_change (l : Launch) (hl : l.stackTraces = false) (G : Gl) (P : Sk) (f : St) (sz : Nat) (a : Nat) (ha : IsComp P a) (p1 : Int32) (p2 : Int32) (K : Int32 → St → Prop) (X : String → St → Prop) (h : vX7_change P f a p1 p2 K X)  :
  vx_Met l yX7_change (wU yX7_change cX7_change 3 (some .int)) rxX7_change (PcX G P f sz [.ref a, .int p1, .int p2]) (QcI G P sz K) (XX G P sz X) 3 18 (frA P sz) := by
  refine v_metx (own := RX7) [.ref a, .int p1, .int p2] (by decide) rfl (Nat.le_of_ble_eq_true rfl) (fun p e s m args below meth c hsz o hr hT hno => ?_)
  refine v_lv (lv2 := [(0, .ref a), (1, .int p1), (2, .int p2)]) rfl ?_
  unfold vX7_change at h
  refine v_aload_n o 0 dX7_change_0 rfl ?_
  refine v_iload_n o 1 dX7_change_1 rfl ?_
  refine v_cxVv o hT hno [.int p1] [] rfl (fun sz => metX7_needLoaf l hl G P f sz a ha p1 _ _ h) (cxX7_98 o.1.2.2.2.2 (by decide)) ⟨_, _, rfl⟩ (by decide) (wfComp_o ha) rfl (Nat.le_of_ble_eq_true rfl) ⟨Nat.le_of_ble_eq_true rfl, Nat.le_of_ble_eq_true rfl⟩ ⟨Nat.le_of_ble_eq_true rfl, Nat.le_of_ble_eq_true rfl⟩ dX7_change_2 rfl (fun g2 h => ?_)
  refine v_iload_n o 2 dX7_change_5 rfl ?_
  refine v_iconst o (v := 3) dX7_change_6 (by decide) ?_
  refine v_cxSv o hT hno [.int p2, .int 3] [] rfl (fun sz => metX7_needUpTo l hl G P g2 sz p2 3 _ _ h) (cxX7_137 o.1.2.2.2.2 (by decide)) rfl (Nat.le_of_ble_eq_true rfl) ⟨Nat.le_of_ble_eq_true rfl, Nat.le_of_ble_eq_true rfl⟩ ⟨Nat.le_of_ble_eq_true rfl, Nat.le_of_ble_eq_true rfl⟩ dX7_change_7 rfl (fun g7 h => ?_)
  refine v_aload_n o 0 dX7_change_10 rfl ?_
  refine v_iload_n o 1 dX7_change_11 rfl ?_
  refine v_iload_n o 2 dX7_change_12 rfl ?_
  refine v_cVi o [.int p1, .int p2] [] (fun sz => metX7_tryChange l G P g7 sz a ha p1 p2 _ h) (cwX7_140 o.1.2.2.2.2 (by decide)) ⟨_, _, rfl⟩ (by decide) (wfComp_o ha) rfl (Nat.le_of_ble_eq_true rfl) ⟨Nat.le_of_ble_eq_true rfl, Nat.le_of_ble_eq_true rfl⟩ dX7_change_13 rfl (fun r13 g13 h => ?_)
  refine v_cxSv o hT hno [.int r13] [] rfl (fun sz => metX7_needCan l hl G P g13 sz r13 _ _ h) (cxX7_118 o.1.2.2.2.2 (by decide)) rfl (Nat.le_of_ble_eq_true rfl) ⟨Nat.le_of_ble_eq_true rfl, Nat.le_of_ble_eq_true rfl⟩ ⟨Nat.le_of_ble_eq_true rfl, Nat.le_of_ble_eq_true rfl⟩ dX7_change_16 rfl (fun g16 h => ?_)
  refine v_aload_n o 0 dX7_change_19 rfl ?_
  refine v_gfR o lkX7_26 (by decide) (wfComp_o ha) (wfComp_r2 ha) dX7_change_20 ?_
  refine v_aload_n o 0 dX7_change_23 rfl ?_
  refine v_gfR o lkX7_19 (by decide) (wfComp_o ha) (wfComp_r1 ha) dX7_change_24 ?_
  refine v_cVv o [.ref (a + 4)] [] (fun sz => metX1_save l G P g16 sz (a + 160) (wfComp_t2 ha) (a + 4) (wfComp_t1 ha) _ h) (cwX7_87 o.1.2.2.2.2 (by decide)) ⟨_, _, rfl⟩ (by decide) (wfHist_o (wfComp_t2 ha)) rfl (Nat.le_of_ble_eq_true rfl) ⟨Nat.le_of_ble_eq_true rfl, Nat.le_of_ble_eq_true rfl⟩ dX7_change_27 rfl (fun g27 h => ?_)
  refine v_aload_n o 0 dX7_change_30 rfl ?_
  refine v_gfR o lkX7_19 (by decide) (wfComp_o ha) (wfComp_r1 ha) dX7_change_31 ?_
  refine v_iload_n o 1 dX7_change_34 rfl ?_
  refine v_cVr o [.int p1] [] (fun sz => metX0_at l G P g27 sz (a + 4) (wfComp_t1 ha) p1) (cwX7_102 o.1.2.2.2.2 (by decide)) ⟨_, _, rfl⟩ (by decide) (wfBoard_o (wfComp_t1 ha)) rfl (Nat.le_of_ble_eq_true rfl) ⟨Nat.le_of_ble_eq_true rfl, Nat.le_of_ble_eq_true rfl⟩ dX7_change_35 rfl (fun r35 g35 h35 => ?_)
  obtain ⟨rfl, rfl⟩ := h35
  refine v_aload_n o 0 dX7_change_38 rfl ?_
  refine v_gfR o lkX7_40 (by decide) (wfComp_o ha) (wfComp_r5 ha) dX7_change_39 ?_
  refine v_cVv o [.ref (a + 1410)] [] (fun sz => metX2_copyFrom l G P g27 sz (atB (a + 4) p1) (is_atB (wfComp_t1 ha) p1) (a + 1410) (wfComp_t5 ha) _ h) (cwX7_121 o.1.2.2.2.2 (by decide)) ⟨_, _, rfl⟩ (by decide) (wfLoaf_o (is_atB (wfComp_t1 ha) p1)) rfl (Nat.le_of_ble_eq_true rfl) ⟨Nat.le_of_ble_eq_true rfl, Nat.le_of_ble_eq_true rfl⟩ dX7_change_42 rfl (fun g42 h => ?_)
  refine v_aload_n o 0 dX7_change_45 rfl ?_
  refine v_gfR o lkX7_19 (by decide) (wfComp_o ha) (wfComp_r1 ha) dX7_change_46 ?_
  refine v_cVv o [] [] (fun sz => metX0_addChange l G P g42 sz (a + 4) (wfComp_t1 ha) _ h) (cwX7_144 o.1.2.2.2.2 (by decide)) ⟨_, _, rfl⟩ (by decide) (wfBoard_o (wfComp_t1 ha)) rfl (Nat.le_of_ble_eq_true rfl) ⟨Nat.le_of_ble_eq_true rfl, Nat.le_of_ble_eq_true rfl⟩ dX7_change_49 rfl (fun g49 h => ?_)
  refine v_aload_n o 0 dX7_change_52 rfl ?_
  refine v_gfR o lkX7_40 (by decide) (wfComp_o ha) (wfComp_r5 ha) dX7_change_53 ?_
  refine v_cVr o [] [] (fun sz => metX2_word l G P g49 sz (a + 1410) (wfComp_t5 ha)) (cwX7_74 o.1.2.2.2.2 (by decide)) ⟨_, _, rfl⟩ (by decide) (wfLoaf_o (wfComp_t5 ha)) rfl (Nat.le_of_ble_eq_true rfl) ⟨Nat.le_of_ble_eq_true rfl, Nat.le_of_ble_eq_true rfl⟩ dX7_change_56 rfl (fun r56 g56 h56 => ?_)
  obtain ⟨rfl, rfl⟩ := h56
  refine v_cVi o [] [] (fun sz => metX6_size l G P g49 sz ((a + 1410) + 1) (wfLoaf_t0 (wfComp_t5 ha)) _ h) (cwX7_106 o.1.2.2.2.2 (by decide)) ⟨_, _, rfl⟩ (by decide) (wfWord_o (wfLoaf_t0 (wfComp_t5 ha))) rfl (Nat.le_of_ble_eq_true rfl) ⟨Nat.le_of_ble_eq_true rfl, Nat.le_of_ble_eq_true rfl⟩ dX7_change_59 rfl (fun r59 g59 h => ?_)
  exact v_xret (Nat.le_of_ble_eq_true rfl) (Nat.le_of_ble_eq_true rfl) (v_iret o rfl hr dX7_change_62 h)
theorem cxL_30 {R : Room} {s : State} {args : Array Value} (ht : ∀ w ∈ lw_U, w.before args s = true) (hR : rxX7_change.frames + 1 ≤ R.frames ∧ 8 + (3 + 11) + rxX7_change.locals ≤ R.locals) : CallW R s args RL RX7 30 yX7_change cX7_change 3 (some .int) (wU yX7_change cX7_change 3 (some .int)) rxX7_change 3 18 2 := cwV 2 ht (gUV (mU 832 (by decide +kernel) rfl) (mU 833 (by decide +kernel) rfl) (mU 834 (by decide +kernel) rfl) (mU 82 (by decide +kernel) rfl) (mU 835 (by decide +kernel) rfl)) rfl rfl rfl ⟨rfl, by decide +kernel, by decide +kernel, by decide +kernel⟩ hR
abbrev kX7_change := @vX7_change
abbrev metX7_change := @mX7_change

def vX7_tryJoining (P : Sk) (f : St) (a : Nat) (p1 : Int32) (p2 : Int32) (K : Int32 → St → Prop) : Prop :=
  kX0_has P f (a + 4) p1 (fun r5 g5 => (r5 = 0 → K 3 g5) ∧ (¬ r5 = 0 → kX0_has P g5 (a + 4) p2 (fun r16 g16 => (¬ r16 = 0 → kX6_strands P g16 ((atB (a + 4) p1) + 1) (fun r50 g50 => kX6_strands P g50 ((atB (a + 4) p2) + 1) (fun r55 g55 => (r50 = r55 → kX6_size P g55 ((atB (a + 4) p1) + 1) (fun r64 g64 => kX6_size P g64 ((atB (a + 4) p2) + 1) (fun r69 g69 => (r64 + r69 ≤ 24 → kX6_copyFrom P g69 ((a + 1410) + 1) ((atB (a + 4) p1) + 1) (fun g88 => kX6_addAll P g88 ((a + 1410) + 1) ((atB (a + 4) p2) + 1) (fun g100 => kX2_settle P g100 (a + 1410) (fun r107 g107 => K r107 g107)))) ∧ (¬ r64 + r69 ≤ 24 → K 1 g69)))) ∧ (¬ r50 = r55 → K 5 g55)))) ∧ (r16 = 0 → K 3 g16))))
set_option maxRecDepth 20000 in
set_option maxHeartbeats 4000000 in
theorem mX7_tryJoining (l : Launch) (G : Gl) (P : Sk) (f : St) (sz : Nat) (a : Nat) (ha : IsComp P a) (p1 : Int32) (p2 : Int32) (K : Int32 → St → Prop) (h : vX7_tryJoining P f a p1 p2 K)  :
  Met l yX7_tryJoining (wU yX7_tryJoining cX7_tryJoining 5 (some .int)) rmX7_tryJoining (PcW G P f sz [.ref a, .int p1, .int p2]) (QcI G P sz K) 0 0 (frA P sz) := by
  refine v_met (own := RX7) [.ref a, .int p1, .int p2] (by decide +kernel) rfl (Nat.le_of_ble_eq_true rfl) (fun p e s m args below meth c hsz o hr hnm => ?_)
  refine v_lv (lv2 := [(0, .ref a), (1, .int p1), (2, .int p2)]) rfl ?_
  unfold vX7_tryJoining at h
  refine v_aload_n o 0 dX7_tryJoining_0 rfl ?_
  refine v_gfR o lkX7_19 (by decide) (wfComp_o ha) (wfComp_r1 ha) dX7_tryJoining_1 ?_
  refine v_iload_n o 1 dX7_tryJoining_4 rfl ?_
  refine v_cVi o [.int p1] [] (fun sz => metX0_has l G P f sz (a + 4) (wfComp_t1 ha) p1 _ h) (cwX7_246 o.1.2.2.2.2 (by decide)) ⟨_, _, rfl⟩ (by decide) (wfBoard_o (wfComp_t1 ha)) rfl (Nat.le_of_ble_eq_true rfl) ⟨Nat.le_of_ble_eq_true rfl, Nat.le_of_ble_eq_true rfl⟩ dX7_tryJoining_5 rfl (fun r5 g5 h => ?_)
  refine v_if_eq o (tgt := 22) dX7_tryJoining_8 (by decide) (fun c8 => ?_) (fun c8 => ?_)
  · replace h := h.1 c8
    refine v_iconst o (v := 3) dX7_tryJoining_22 (by decide) ?_
    exact v_iret o rfl hr dX7_tryJoining_23 h
  · replace h := h.2 c8
    refine v_aload_n o 0 dX7_tryJoining_11 rfl ?_
    refine v_gfR o lkX7_19 (by decide) (wfComp_o ha) (wfComp_r1 ha) dX7_tryJoining_12 ?_
    refine v_iload_n o 2 dX7_tryJoining_15 rfl ?_
    refine v_cVi o [.int p2] [] (fun sz => metX0_has l G P g5 sz (a + 4) (wfComp_t1 ha) p2 _ h) (cwX7_246 o.1.2.2.2.2 (by decide)) ⟨_, _, rfl⟩ (by decide) (wfBoard_o (wfComp_t1 ha)) rfl (Nat.le_of_ble_eq_true rfl) ⟨Nat.le_of_ble_eq_true rfl, Nat.le_of_ble_eq_true rfl⟩ dX7_tryJoining_16 rfl (fun r16 g16 h => ?_)
    refine v_if_ne o (tgt := 24) dX7_tryJoining_19 (by decide) (fun c19 => ?_) (fun c19 => ?_)
    · replace h := h.1 c19
      refine v_aload_n o 0 dX7_tryJoining_24 rfl ?_
      refine v_gfR o lkX7_19 (by decide) (wfComp_o ha) (wfComp_r1 ha) dX7_tryJoining_25 ?_
      refine v_iload_n o 1 dX7_tryJoining_28 rfl ?_
      refine v_cVr o [.int p1] [] (fun sz => metX0_at l G P g16 sz (a + 4) (wfComp_t1 ha) p1) (cwX7_102 o.1.2.2.2.2 (by decide)) ⟨_, _, rfl⟩ (by decide) (wfBoard_o (wfComp_t1 ha)) rfl (Nat.le_of_ble_eq_true rfl) ⟨Nat.le_of_ble_eq_true rfl, Nat.le_of_ble_eq_true rfl⟩ dX7_tryJoining_29 rfl (fun r29 g29 h29 => ?_)
      obtain ⟨rfl, rfl⟩ := h29
      refine v_cVr o [] [] (fun sz => metX2_word l G P g16 sz (atB (a + 4) p1) (is_atB (wfComp_t1 ha) p1)) (cwX7_74 o.1.2.2.2.2 (by decide)) ⟨_, _, rfl⟩ (by decide) (wfLoaf_o (is_atB (wfComp_t1 ha) p1)) rfl (Nat.le_of_ble_eq_true rfl) ⟨Nat.le_of_ble_eq_true rfl, Nat.le_of_ble_eq_true rfl⟩ dX7_tryJoining_32 rfl (fun r32 g32 h32 => ?_)
      obtain ⟨rfl, rfl⟩ := h32
      refine v_astore_n o (lv' := [(3, .ref ((atB (a + 4) p1) + 1)), (0, .ref a), (1, .int p1), (2, .int p2)]) dX7_tryJoining_35 rfl (by decide) rfl ?_
      refine v_aload_n o 1 dX7_tryJoining_36 rfl ?_
      refine v_gfR o lkX7_19 (by decide) (wfComp_o ha) (wfComp_r1 ha) dX7_tryJoining_37 ?_
      refine v_iload_n o 3 dX7_tryJoining_40 rfl ?_
      refine v_cVr o [.int p2] [] (fun sz => metX0_at l G P g16 sz (a + 4) (wfComp_t1 ha) p2) (cwX7_102 o.1.2.2.2.2 (by decide)) ⟨_, _, rfl⟩ (by decide) (wfBoard_o (wfComp_t1 ha)) rfl (Nat.le_of_ble_eq_true rfl) ⟨Nat.le_of_ble_eq_true rfl, Nat.le_of_ble_eq_true rfl⟩ dX7_tryJoining_41 rfl (fun r41 g41 h41 => ?_)
      obtain ⟨rfl, rfl⟩ := h41
      refine v_cVr o [] [] (fun sz => metX2_word l G P g16 sz (atB (a + 4) p2) (is_atB (wfComp_t1 ha) p2)) (cwX7_74 o.1.2.2.2.2 (by decide)) ⟨_, _, rfl⟩ (by decide) (wfLoaf_o (is_atB (wfComp_t1 ha) p2)) rfl (Nat.le_of_ble_eq_true rfl) ⟨Nat.le_of_ble_eq_true rfl, Nat.le_of_ble_eq_true rfl⟩ dX7_tryJoining_44 rfl (fun r44 g44 h44 => ?_)
      obtain ⟨rfl, rfl⟩ := h44
      refine v_astore o (lv' := [(4, .ref ((atB (a + 4) p2) + 1)), (3, .ref ((atB (a + 4) p1) + 1)), (0, .ref a), (1, .int p1), (2, .int p2)]) dX7_tryJoining_47 (by decide) rfl ?_
      refine v_aload_n o 1 dX7_tryJoining_49 rfl ?_
      refine v_cVi o [] [] (fun sz => metX6_strands l G P g16 sz ((atB (a + 4) p1) + 1) (wfLoaf_t0 (is_atB (wfComp_t1 ha) p1)) _ h) (cwX7_280 o.1.2.2.2.2 (by decide)) ⟨_, _, rfl⟩ (by decide) (wfWord_o (wfLoaf_t0 (is_atB (wfComp_t1 ha) p1))) rfl (Nat.le_of_ble_eq_true rfl) ⟨Nat.le_of_ble_eq_true rfl, Nat.le_of_ble_eq_true rfl⟩ dX7_tryJoining_50 rfl (fun r50 g50 h => ?_)
      refine v_aload o 0 dX7_tryJoining_53 rfl ?_
      refine v_cVi o [] [.int r50] (fun sz => metX6_strands l G P g50 sz ((atB (a + 4) p2) + 1) (wfLoaf_t0 (is_atB (wfComp_t1 ha) p2)) _ h) (cwX7_280 o.1.2.2.2.2 (by decide)) ⟨_, _, rfl⟩ (by decide) (wfWord_o (wfLoaf_t0 (is_atB (wfComp_t1 ha) p2))) rfl (Nat.le_of_ble_eq_true rfl) ⟨Nat.le_of_ble_eq_true rfl, Nat.le_of_ble_eq_true rfl⟩ dX7_tryJoining_55 rfl (fun r55 g55 h => ?_)
      refine v_icmp_eq o (tgt := 63) dX7_tryJoining_58 (by decide) (fun c58 => ?_) (fun c58 => ?_)
      · replace h := h.1 c58
        refine v_aload_n o 1 dX7_tryJoining_63 rfl ?_
        refine v_cVi o [] [] (fun sz => metX6_size l G P g55 sz ((atB (a + 4) p1) + 1) (wfLoaf_t0 (is_atB (wfComp_t1 ha) p1)) _ h) (cwX7_106 o.1.2.2.2.2 (by decide)) ⟨_, _, rfl⟩ (by decide) (wfWord_o (wfLoaf_t0 (is_atB (wfComp_t1 ha) p1))) rfl (Nat.le_of_ble_eq_true rfl) ⟨Nat.le_of_ble_eq_true rfl, Nat.le_of_ble_eq_true rfl⟩ dX7_tryJoining_64 rfl (fun r64 g64 h => ?_)
        refine v_aload o 0 dX7_tryJoining_67 rfl ?_
        refine v_cVi o [] [.int r64] (fun sz => metX6_size l G P g64 sz ((atB (a + 4) p2) + 1) (wfLoaf_t0 (is_atB (wfComp_t1 ha) p2)) _ h) (cwX7_106 o.1.2.2.2.2 (by decide)) ⟨_, _, rfl⟩ (by decide) (wfWord_o (wfLoaf_t0 (is_atB (wfComp_t1 ha) p2))) rfl (Nat.le_of_ble_eq_true rfl) ⟨Nat.le_of_ble_eq_true rfl, Nat.le_of_ble_eq_true rfl⟩ dX7_tryJoining_69 rfl (fun r69 g69 h => ?_)
        refine v_iadd o dX7_tryJoining_72 ?_
        refine v_bipush o (v := 24) dX7_tryJoining_73 (by decide) ?_
        refine v_icmp_le o (tgt := 80) dX7_tryJoining_75 (by decide) (fun c75 => ?_) (fun c75 => ?_)
        · replace h := h.1 c75
          refine v_aload_n o 2 dX7_tryJoining_80 rfl ?_
          refine v_gfR o lkX7_40 (by decide) (wfComp_o ha) (wfComp_r5 ha) dX7_tryJoining_81 ?_
          refine v_cVr o [] [] (fun sz => metX2_word l G P g69 sz (a + 1410) (wfComp_t5 ha)) (cwX7_74 o.1.2.2.2.2 (by decide)) ⟨_, _, rfl⟩ (by decide) (wfLoaf_o (wfComp_t5 ha)) rfl (Nat.le_of_ble_eq_true rfl) ⟨Nat.le_of_ble_eq_true rfl, Nat.le_of_ble_eq_true rfl⟩ dX7_tryJoining_84 rfl (fun r84 g84 h84 => ?_)
          obtain ⟨rfl, rfl⟩ := h84
          refine v_aload_n o 1 dX7_tryJoining_87 rfl ?_
          refine v_cVv o [.ref ((atB (a + 4) p1) + 1)] [] (fun sz => metX6_copyFrom l G P g69 sz ((a + 1410) + 1) (wfLoaf_t0 (wfComp_t5 ha)) ((atB (a + 4) p1) + 1) (wfLoaf_t0 (is_atB (wfComp_t1 ha) p1)) _ h) (cwX7_264 o.1.2.2.2.2 (by decide)) ⟨_, _, rfl⟩ (by decide) (wfWord_o (wfLoaf_t0 (wfComp_t5 ha))) rfl (Nat.le_of_ble_eq_true rfl) ⟨Nat.le_of_ble_eq_true rfl, Nat.le_of_ble_eq_true rfl⟩ dX7_tryJoining_88 rfl (fun g88 h => ?_)
          refine v_aload_n o 2 dX7_tryJoining_91 rfl ?_
          refine v_gfR o lkX7_40 (by decide) (wfComp_o ha) (wfComp_r5 ha) dX7_tryJoining_92 ?_
          refine v_cVr o [] [] (fun sz => metX2_word l G P g88 sz (a + 1410) (wfComp_t5 ha)) (cwX7_74 o.1.2.2.2.2 (by decide)) ⟨_, _, rfl⟩ (by decide) (wfLoaf_o (wfComp_t5 ha)) rfl (Nat.le_of_ble_eq_true rfl) ⟨Nat.le_of_ble_eq_true rfl, Nat.le_of_ble_eq_true rfl⟩ dX7_tryJoining_95 rfl (fun r95 g95 h95 => ?_)
          obtain ⟨rfl, rfl⟩ := h95
          refine v_aload o 0 dX7_tryJoining_98 rfl ?_
          refine v_cVv o [.ref ((atB (a + 4) p2) + 1)] [] (fun sz => metX6_addAll l G P g88 sz ((a + 1410) + 1) (wfLoaf_t0 (wfComp_t5 ha)) ((atB (a + 4) p2) + 1) (wfLoaf_t0 (is_atB (wfComp_t1 ha) p2)) _ h) (cwX7_283 o.1.2.2.2.2 (by decide)) ⟨_, _, rfl⟩ (by decide) (wfWord_o (wfLoaf_t0 (wfComp_t5 ha))) rfl (Nat.le_of_ble_eq_true rfl) ⟨Nat.le_of_ble_eq_true rfl, Nat.le_of_ble_eq_true rfl⟩ dX7_tryJoining_100 rfl (fun g100 h => ?_)
          refine v_aload_n o 2 dX7_tryJoining_103 rfl ?_
          refine v_gfR o lkX7_40 (by decide) (wfComp_o ha) (wfComp_r5 ha) dX7_tryJoining_104 ?_
          refine v_cVi o [] [] (fun sz => metX2_settle l G P g100 sz (a + 1410) (wfComp_t5 ha) _ h) (cwX7_82 o.1.2.2.2.2 (by decide)) ⟨_, _, rfl⟩ (by decide) (wfLoaf_o (wfComp_t5 ha)) rfl (Nat.le_of_ble_eq_true rfl) ⟨Nat.le_of_ble_eq_true rfl, Nat.le_of_ble_eq_true rfl⟩ dX7_tryJoining_107 rfl (fun r107 g107 h => ?_)
          exact v_iret o rfl hr dX7_tryJoining_110 h
        · replace h := h.2 c75
          refine v_iconst o (v := 1) dX7_tryJoining_78 (by decide) ?_
          exact v_iret o rfl hr dX7_tryJoining_79 h
      · replace h := h.2 c58
        refine v_iconst o (v := 5) dX7_tryJoining_61 (by decide) ?_
        exact v_iret o rfl hr dX7_tryJoining_62 h
    · replace h := h.2 c19
      refine v_iconst o (v := 3) dX7_tryJoining_22 (by decide) ?_
      exact v_iret o rfl hr dX7_tryJoining_23 h
abbrev kX7_tryJoining := @vX7_tryJoining
abbrev metX7_tryJoining := @mX7_tryJoining

def vX7_join (P : Sk) (f : St) (a : Nat) (p1 : Int32) (p2 : Int32) (K : Int32 → St → Prop) (X : String → St → Prop) : Prop :=
  kX7_needLoaf P f a p1 (fun g2 => kX7_needLoaf P g2 a p2 (fun g7 => kX7_tryJoining P g7 a p1 p2 (fun r13 g13 => kX7_needCan P g13 r13 (fun g16 => kX1_save P g16 (a + 160) (a + 4) (fun g27 => kX2_copyFrom P g27 (atB (a + 4) p1) (a + 1410) (fun g42 => kX6_size P g42 ((a + 1410) + 1) (fun r52 g52 => K r52 g52)))) X)) X) X
abbrev rxX7_join : Room := { frames := 7, cells := 3, slots := 18, locals := 175 }
set_option maxRecDepth 20000 in
set_option maxHeartbeats 4000000 in
theorem mX7_join (l : Launch) (hl : l.stackTraces = false) (G : Gl) (P : Sk) (f : St) (sz : Nat) (a : Nat) (ha : IsComp P a) (p1 : Int32) (p2 : Int32) (K : Int32 → St → Prop) (X : String → St → Prop) (h : vX7_join P f a p1 p2 K X)  :
  vx_Met l yX7_join (wU yX7_join cX7_join 3 (some .int)) rxX7_join (PcX G P f sz [.ref a, .int p1, .int p2]) (QcI G P sz K) (XX G P sz X) 3 18 (frA P sz) := by
  refine v_metx (own := RX7) [.ref a, .int p1, .int p2] (by decide) rfl (Nat.le_of_ble_eq_true rfl) (fun p e s m args below meth c hsz o hr hT hno => ?_)
  refine v_lv (lv2 := [(0, .ref a), (1, .int p1), (2, .int p2)]) rfl ?_
  unfold vX7_join at h
  refine v_aload_n o 0 dX7_join_0 rfl ?_
  refine v_iload_n o 1 dX7_join_1 rfl ?_
  refine v_cxVv o hT hno [.int p1] [] rfl (fun sz => metX7_needLoaf l hl G P f sz a ha p1 _ _ h) (cxX7_98 o.1.2.2.2.2 (by decide)) ⟨_, _, rfl⟩ (by decide) (wfComp_o ha) rfl (Nat.le_of_ble_eq_true rfl) ⟨Nat.le_of_ble_eq_true rfl, Nat.le_of_ble_eq_true rfl⟩ ⟨Nat.le_of_ble_eq_true rfl, Nat.le_of_ble_eq_true rfl⟩ dX7_join_2 rfl (fun g2 h => ?_)
  refine v_aload_n o 0 dX7_join_5 rfl ?_
  refine v_iload_n o 2 dX7_join_6 rfl ?_
  refine v_cxVv o hT hno [.int p2] [] rfl (fun sz => metX7_needLoaf l hl G P g2 sz a ha p2 _ _ h) (cxX7_98 o.1.2.2.2.2 (by decide)) ⟨_, _, rfl⟩ (by decide) (wfComp_o ha) rfl (Nat.le_of_ble_eq_true rfl) ⟨Nat.le_of_ble_eq_true rfl, Nat.le_of_ble_eq_true rfl⟩ ⟨Nat.le_of_ble_eq_true rfl, Nat.le_of_ble_eq_true rfl⟩ dX7_join_7 rfl (fun g7 h => ?_)
  refine v_aload_n o 0 dX7_join_10 rfl ?_
  refine v_iload_n o 1 dX7_join_11 rfl ?_
  refine v_iload_n o 2 dX7_join_12 rfl ?_
  refine v_cVi o [.int p1, .int p2] [] (fun sz => metX7_tryJoining l G P g7 sz a ha p1 p2 _ h) (cwX7_147 o.1.2.2.2.2 (by decide)) ⟨_, _, rfl⟩ (by decide) (wfComp_o ha) rfl (Nat.le_of_ble_eq_true rfl) ⟨Nat.le_of_ble_eq_true rfl, Nat.le_of_ble_eq_true rfl⟩ dX7_join_13 rfl (fun r13 g13 h => ?_)
  refine v_cxSv o hT hno [.int r13] [] rfl (fun sz => metX7_needCan l hl G P g13 sz r13 _ _ h) (cxX7_118 o.1.2.2.2.2 (by decide)) rfl (Nat.le_of_ble_eq_true rfl) ⟨Nat.le_of_ble_eq_true rfl, Nat.le_of_ble_eq_true rfl⟩ ⟨Nat.le_of_ble_eq_true rfl, Nat.le_of_ble_eq_true rfl⟩ dX7_join_16 rfl (fun g16 h => ?_)
  refine v_aload_n o 0 dX7_join_19 rfl ?_
  refine v_gfR o lkX7_26 (by decide) (wfComp_o ha) (wfComp_r2 ha) dX7_join_20 ?_
  refine v_aload_n o 0 dX7_join_23 rfl ?_
  refine v_gfR o lkX7_19 (by decide) (wfComp_o ha) (wfComp_r1 ha) dX7_join_24 ?_
  refine v_cVv o [.ref (a + 4)] [] (fun sz => metX1_save l G P g16 sz (a + 160) (wfComp_t2 ha) (a + 4) (wfComp_t1 ha) _ h) (cwX7_87 o.1.2.2.2.2 (by decide)) ⟨_, _, rfl⟩ (by decide) (wfHist_o (wfComp_t2 ha)) rfl (Nat.le_of_ble_eq_true rfl) ⟨Nat.le_of_ble_eq_true rfl, Nat.le_of_ble_eq_true rfl⟩ dX7_join_27 rfl (fun g27 h => ?_)
  refine v_aload_n o 0 dX7_join_30 rfl ?_
  refine v_gfR o lkX7_19 (by decide) (wfComp_o ha) (wfComp_r1 ha) dX7_join_31 ?_
  refine v_iload_n o 1 dX7_join_34 rfl ?_
  refine v_cVr o [.int p1] [] (fun sz => metX0_at l G P g27 sz (a + 4) (wfComp_t1 ha) p1) (cwX7_102 o.1.2.2.2.2 (by decide)) ⟨_, _, rfl⟩ (by decide) (wfBoard_o (wfComp_t1 ha)) rfl (Nat.le_of_ble_eq_true rfl) ⟨Nat.le_of_ble_eq_true rfl, Nat.le_of_ble_eq_true rfl⟩ dX7_join_35 rfl (fun r35 g35 h35 => ?_)
  obtain ⟨rfl, rfl⟩ := h35
  refine v_aload_n o 0 dX7_join_38 rfl ?_
  refine v_gfR o lkX7_40 (by decide) (wfComp_o ha) (wfComp_r5 ha) dX7_join_39 ?_
  refine v_cVv o [.ref (a + 1410)] [] (fun sz => metX2_copyFrom l G P g27 sz (atB (a + 4) p1) (is_atB (wfComp_t1 ha) p1) (a + 1410) (wfComp_t5 ha) _ h) (cwX7_121 o.1.2.2.2.2 (by decide)) ⟨_, _, rfl⟩ (by decide) (wfLoaf_o (is_atB (wfComp_t1 ha) p1)) rfl (Nat.le_of_ble_eq_true rfl) ⟨Nat.le_of_ble_eq_true rfl, Nat.le_of_ble_eq_true rfl⟩ dX7_join_42 rfl (fun g42 h => ?_)
  refine v_aload_n o 0 dX7_join_45 rfl ?_
  refine v_gfR o lkX7_40 (by decide) (wfComp_o ha) (wfComp_r5 ha) dX7_join_46 ?_
  refine v_cVr o [] [] (fun sz => metX2_word l G P g42 sz (a + 1410) (wfComp_t5 ha)) (cwX7_74 o.1.2.2.2.2 (by decide)) ⟨_, _, rfl⟩ (by decide) (wfLoaf_o (wfComp_t5 ha)) rfl (Nat.le_of_ble_eq_true rfl) ⟨Nat.le_of_ble_eq_true rfl, Nat.le_of_ble_eq_true rfl⟩ dX7_join_49 rfl (fun r49 g49 h49 => ?_)
  obtain ⟨rfl, rfl⟩ := h49
  refine v_cVi o [] [] (fun sz => metX6_size l G P g42 sz ((a + 1410) + 1) (wfLoaf_t0 (wfComp_t5 ha)) _ h) (cwX7_106 o.1.2.2.2.2 (by decide)) ⟨_, _, rfl⟩ (by decide) (wfWord_o (wfLoaf_t0 (wfComp_t5 ha))) rfl (Nat.le_of_ble_eq_true rfl) ⟨Nat.le_of_ble_eq_true rfl, Nat.le_of_ble_eq_true rfl⟩ dX7_join_52 rfl (fun r52 g52 h => ?_)
  exact v_xret (Nat.le_of_ble_eq_true rfl) (Nat.le_of_ble_eq_true rfl) (v_iret o rfl hr dX7_join_55 h)
theorem cxL_34 {R : Room} {s : State} {args : Array Value} (ht : ∀ w ∈ lw_U, w.before args s = true) (hR : rxX7_join.frames + 1 ≤ R.frames ∧ 8 + (3 + 11) + rxX7_join.locals ≤ R.locals) : CallW R s args RL RX7 34 yX7_join cX7_join 3 (some .int) (wU yX7_join cX7_join 3 (some .int)) rxX7_join 3 18 2 := cwV 2 ht (gUV (mU 851 (by decide +kernel) rfl) (mU 852 (by decide +kernel) rfl) (mU 853 (by decide +kernel) rfl) (mU 82 (by decide +kernel) rfl) (mU 854 (by decide +kernel) rfl)) rfl rfl rfl ⟨rfl, by decide +kernel, by decide +kernel, by decide +kernel⟩ hR
abbrev kX7_join := @vX7_join
abbrev metX7_join := @mX7_join

def jX7_append_12 (P : Sk) (a : Nat) (p1 : Int32) (K : Int32 → St → Prop) (X : String → St → Prop) (f : St) : Prop :=
  X "java/lang/IllegalArgumentException" f
def vX7_append (P : Sk) (f : St) (a : Nat) (p1 : Int32) (K : Int32 → St → Prop) (X : String → St → Prop) : Prop :=
  (p1 < 33 → jX7_append_12 P a p1 K X  f) ∧ (¬ p1 < 33 → (p1 ≤ 126 → kX4_size P f (a + 1) (fun r26 g26 => (r26 < 60 → kX4_addSign P g26 (a + 1) p1 (fun g49 => kX4_size P g49 (a + 1) (fun r56 g56 => K r56 g56))) ∧ (¬ r26 < 60 → X "java/lang/IllegalStateException" g26))) ∧ (¬ p1 ≤ 126 → jX7_append_12 P a p1 K X  f))
abbrev rxX7_append : Room := { frames := 6, cells := 1, slots := 6, locals := 90 }
set_option maxRecDepth 20000 in
set_option maxHeartbeats 4000000 in
theorem mX7_append (l : Launch) (hl : l.stackTraces = false) (G : Gl) (P : Sk) (f : St) (sz : Nat) (a : Nat) (ha : IsComp P a) (p1 : Int32) (K : Int32 → St → Prop) (X : String → St → Prop) (h : vX7_append P f a p1 K X)  :
  vx_Met l yX7_append (wU yX7_append cX7_append 2 (some .int)) rxX7_append (PcX G P f sz [.ref a, .int p1]) (QcI G P sz K) (XX G P sz X) 1 6 (frA P sz) := by
  refine v_metx (own := RX7) [.ref a, .int p1] (by decide) rfl (Nat.le_of_ble_eq_true rfl) (fun p e s m args below meth c hsz o hr hT hno => ?_)
  refine v_lv (lv2 := [(0, .ref a), (1, .int p1)]) rfl ?_
  have J12 : ∀ (g12 : St), jX7_append_12 P a p1 K X  g12 → V p l e rxX7_append s m args below meth c 2 G (frA P sz) (vx_MQ below (QcI G P sz K) (XX G P sz X) args s 1 6 (frA P sz)) 0 0 P [(0, .ref a), (1, .int p1)] [] 12 g12 := by
    intro  g12  h
    unfold jX7_append_12 at h
    exact v_throwS o hT hl hno (text := "no character of the buffer") rfl thw_58 (by decide) dX7_append_12 dX7_append_15 dX7_append_16 dX7_append_18 dX7_append_21 ⟨by decide, Nat.le_of_ble_eq_true rfl, Nat.le_of_ble_eq_true rfl, Nat.le_of_ble_eq_true rfl⟩ ⟨Nat.le_of_ble_eq_true rfl, Nat.le_of_ble_eq_true rfl⟩ h
  unfold vX7_append at h
  refine v_iload_n o 1 dX7_append_0 rfl ?_
  refine v_bipush o (v := 33) dX7_append_1 (by decide) ?_
  refine v_icmp_lt o (tgt := 12) dX7_append_3 (by decide) (fun c3 => ?_) (fun c3 => ?_)
  · replace h := h.1 c3
    refine v_widen (k := 0) (n := 0) (Nat.le_of_ble_eq_true rfl) (Nat.le_of_ble_eq_true rfl) ?_
    refine v_sub [0, 1] (lv2 := [(0, .ref a), (1, .int p1)]) rfl ?_
    exact J12  f  h
  · replace h := h.2 c3
    refine v_iload_n o 1 dX7_append_6 rfl ?_
    refine v_bipush o (v := 126) dX7_append_7 (by decide) ?_
    refine v_icmp_le o (tgt := 22) dX7_append_9 (by decide) (fun c9 => ?_) (fun c9 => ?_)
    · replace h := h.1 c9
      refine v_aload_n o 0 dX7_append_22 rfl ?_
      refine v_gfR o lkX7_10 (by decide) (wfComp_o ha) (wfComp_r0 ha) dX7_append_23 ?_
      refine v_cVi o [] [] (fun sz => metX4_size l G P f sz (a + 1) (wfComp_t0 ha) _ h) (cwX7_152 o.1.2.2.2.2 (by decide)) ⟨_, _, rfl⟩ (by decide) (wfText_o (wfComp_t0 ha)) rfl (Nat.le_of_ble_eq_true rfl) ⟨Nat.le_of_ble_eq_true rfl, Nat.le_of_ble_eq_true rfl⟩ dX7_append_26 rfl (fun r26 g26 h => ?_)
      refine v_bipush o (v := 60) dX7_append_29 (by decide) ?_
      refine v_icmp_lt o (tgt := 44) dX7_append_31 (by decide) (fun c31 => ?_) (fun c31 => ?_)
      · replace h := h.1 c31
        refine v_aload_n o 0 dX7_append_44 rfl ?_
        refine v_gfR o lkX7_10 (by decide) (wfComp_o ha) (wfComp_r0 ha) dX7_append_45 ?_
        refine v_iload_n o 1 dX7_append_48 rfl ?_
        refine v_cVv o [.int p1] [] (fun sz => metX4_addSign l G P g26 sz (a + 1) (wfComp_t0 ha) p1 _ h) (cwX7_155 o.1.2.2.2.2 (by decide)) ⟨_, _, rfl⟩ (by decide) (wfText_o (wfComp_t0 ha)) rfl (Nat.le_of_ble_eq_true rfl) ⟨Nat.le_of_ble_eq_true rfl, Nat.le_of_ble_eq_true rfl⟩ dX7_append_49 rfl (fun g49 h => ?_)
        refine v_aload_n o 0 dX7_append_52 rfl ?_
        refine v_gfR o lkX7_10 (by decide) (wfComp_o ha) (wfComp_r0 ha) dX7_append_53 ?_
        refine v_cVi o [] [] (fun sz => metX4_size l G P g49 sz (a + 1) (wfComp_t0 ha) _ h) (cwX7_152 o.1.2.2.2.2 (by decide)) ⟨_, _, rfl⟩ (by decide) (wfText_o (wfComp_t0 ha)) rfl (Nat.le_of_ble_eq_true rfl) ⟨Nat.le_of_ble_eq_true rfl, Nat.le_of_ble_eq_true rfl⟩ dX7_append_56 rfl (fun r56 g56 h => ?_)
        exact v_xret (Nat.le_of_ble_eq_true rfl) (Nat.le_of_ble_eq_true rfl) (v_iret o rfl hr dX7_append_59 h)
      · replace h := h.2 c31
        exact v_throwS o hT hl hno (text := "the buffer is full") rfl thw_69 (by decide) dX7_append_34 dX7_append_37 dX7_append_38 dX7_append_40 dX7_append_43 ⟨by decide, Nat.le_of_ble_eq_true rfl, Nat.le_of_ble_eq_true rfl, Nat.le_of_ble_eq_true rfl⟩ ⟨Nat.le_of_ble_eq_true rfl, Nat.le_of_ble_eq_true rfl⟩ h
    · replace h := h.2 c9
      refine v_widen (k := 0) (n := 0) (Nat.le_of_ble_eq_true rfl) (Nat.le_of_ble_eq_true rfl) ?_
      refine v_sub [0, 1] (lv2 := [(0, .ref a), (1, .int p1)]) rfl ?_
      exact J12  f  h
theorem cxL_37 {R : Room} {s : State} {args : Array Value} (ht : ∀ w ∈ lw_U, w.before args s = true) (hR : rxX7_append.frames + 1 ≤ R.frames ∧ 8 + (2 + 11) + rxX7_append.locals ≤ R.locals) : CallW R s args RL RX7 37 yX7_append cX7_append 2 (some .int) (wU yX7_append cX7_append 2 (some .int)) rxX7_append 1 6 1 := cwV 1 ht (gUV (mU 866 (by decide +kernel) rfl) (mU 867 (by decide +kernel) rfl) (mU 868 (by decide +kernel) rfl) (mU 82 (by decide +kernel) rfl) (mU 869 (by decide +kernel) rfl)) rfl rfl rfl ⟨rfl, by decide +kernel, by decide +kernel, by decide +kernel⟩ hR
abbrev kX7_append := @vX7_append
abbrev metX7_append := @mX7_append

def vX7_clearBuffer (P : Sk) (f : St) (a : Nat) (K : Int32 → St → Prop) : Prop :=
  kX4_size P f (a + 1) (fun r4 g4 => kX4_clear P g4 (a + 1) (fun g12 => K r4 g12))
set_option maxRecDepth 20000 in
set_option maxHeartbeats 4000000 in
theorem mX7_clearBuffer (l : Launch) (G : Gl) (P : Sk) (f : St) (sz : Nat) (a : Nat) (ha : IsComp P a) (K : Int32 → St → Prop) (h : vX7_clearBuffer P f a K)  :
  Met l yX7_clearBuffer (wU yX7_clearBuffer cX7_clearBuffer 2 (some .int)) rmX7_clearBuffer (PcW G P f sz [.ref a]) (QcI G P sz K) 0 0 (frA P sz) := by
  refine v_met (own := RX7) [.ref a] (by decide +kernel) rfl (Nat.le_of_ble_eq_true rfl) (fun p e s m args below meth c hsz o hr hnm => ?_)
  refine v_lv (lv2 := [(0, .ref a)]) rfl ?_
  unfold vX7_clearBuffer at h
  refine v_aload_n o 0 dX7_clearBuffer_0 rfl ?_
  refine v_gfR o lkX7_10 (by decide) (wfComp_o ha) (wfComp_r0 ha) dX7_clearBuffer_1 ?_
  refine v_cVi o [] [] (fun sz => metX4_size l G P f sz (a + 1) (wfComp_t0 ha) _ h) (cwX7_152 o.1.2.2.2.2 (by decide)) ⟨_, _, rfl⟩ (by decide) (wfText_o (wfComp_t0 ha)) rfl (Nat.le_of_ble_eq_true rfl) ⟨Nat.le_of_ble_eq_true rfl, Nat.le_of_ble_eq_true rfl⟩ dX7_clearBuffer_4 rfl (fun r4 g4 h => ?_)
  refine v_istore_n o (lv' := [(1, .int r4), (0, .ref a)]) dX7_clearBuffer_7 rfl (by decide) rfl ?_
  refine v_aload_n o 1 dX7_clearBuffer_8 rfl ?_
  refine v_gfR o lkX7_10 (by decide) (wfComp_o ha) (wfComp_r0 ha) dX7_clearBuffer_9 ?_
  refine v_cVv o [] [] (fun sz => metX4_clear l G P g4 sz (a + 1) (wfComp_t0 ha) _ h) (cwX7_95 o.1.2.2.2.2 (by decide)) ⟨_, _, rfl⟩ (by decide) (wfText_o (wfComp_t0 ha)) rfl (Nat.le_of_ble_eq_true rfl) ⟨Nat.le_of_ble_eq_true rfl, Nat.le_of_ble_eq_true rfl⟩ dX7_clearBuffer_12 rfl (fun g12 h => ?_)
  refine v_iload_n o 0 dX7_clearBuffer_15 rfl ?_
  exact v_iret o rfl hr dX7_clearBuffer_16 h
abbrev kX7_clearBuffer := @vX7_clearBuffer
abbrev metX7_clearBuffer := @mX7_clearBuffer

def vX7_firstError (P : Sk) (f : St) (a : Nat) (p1 : Int32) (K : Int32 → St → Prop) : Prop :=
  (p1 = 0 → kX4_firstErrorOfLoaf P f (a + 1) (fun r18 g18 => K r18 g18)) ∧ (¬ p1 = 0 → kX4_firstErrorOfWorks P f (a + 1) (fun r8 g8 => K r8 g8))
set_option maxRecDepth 20000 in
set_option maxHeartbeats 4000000 in
theorem mX7_firstError (l : Launch) (G : Gl) (P : Sk) (f : St) (sz : Nat) (a : Nat) (ha : IsComp P a) (p1 : Int32) (K : Int32 → St → Prop) (h : vX7_firstError P f a p1 K)  :
  Met l yX7_firstError (wU yX7_firstError cX7_firstError 2 (some .int)) rmX7_firstError (PcW G P f sz [.ref a, .int p1]) (QcI G P sz K) 0 0 (frA P sz) := by
  refine v_met (own := RX7) [.ref a, .int p1] (by decide +kernel) rfl (Nat.le_of_ble_eq_true rfl) (fun p e s m args below meth c hsz o hr hnm => ?_)
  refine v_lv (lv2 := [(0, .ref a), (1, .int p1)]) rfl ?_
  unfold vX7_firstError at h
  refine v_iload_n o 1 dX7_firstError_0 rfl ?_
  refine v_if_eq o (tgt := 14) dX7_firstError_1 (by decide) (fun c1 => ?_) (fun c1 => ?_)
  · replace h := h.1 c1
    refine v_aload_n o 0 dX7_firstError_14 rfl ?_
    refine v_gfR o lkX7_10 (by decide) (wfComp_o ha) (wfComp_r0 ha) dX7_firstError_15 ?_
    refine v_cVi o [] [] (fun sz => metX4_firstErrorOfLoaf l G P f sz (a + 1) (wfComp_t0 ha) _ h) (cwX7_161 o.1.2.2.2.2 (by decide)) ⟨_, _, rfl⟩ (by decide) (wfText_o (wfComp_t0 ha)) rfl (Nat.le_of_ble_eq_true rfl) ⟨Nat.le_of_ble_eq_true rfl, Nat.le_of_ble_eq_true rfl⟩ dX7_firstError_18 rfl (fun r18 g18 h => ?_)
    exact v_iret o rfl hr dX7_firstError_21 h
  · replace h := h.2 c1
    refine v_aload_n o 0 dX7_firstError_4 rfl ?_
    refine v_gfR o lkX7_10 (by decide) (wfComp_o ha) (wfComp_r0 ha) dX7_firstError_5 ?_
    refine v_cVi o [] [] (fun sz => metX4_firstErrorOfWorks l G P f sz (a + 1) (wfComp_t0 ha) _ h) (cwX7_158 o.1.2.2.2.2 (by decide)) ⟨_, _, rfl⟩ (by decide) (wfText_o (wfComp_t0 ha)) rfl (Nat.le_of_ble_eq_true rfl) ⟨Nat.le_of_ble_eq_true rfl, Nat.le_of_ble_eq_true rfl⟩ dX7_firstError_8 rfl (fun r8 g8 h => ?_)
    refine v_goto o (tgt := 21) dX7_firstError_11 (by decide) ?_
    exact v_iret o rfl hr dX7_firstError_21 h
abbrev kX7_firstError := @vX7_firstError
abbrev metX7_firstError := @mX7_firstError

def jX7_tryPart_84 (P : Sk) (a : Nat) (p1 : Int32) (K : Int32 → St → Prop) (x2 : Int32) (y1 : Int32) (y2 : Int32) (y3 : Int32) (f : St) : Prop :=
  kX7_tryCrossing P f a y1 y2 y3 (fun r84 g84 => K r84 g84)
def vX7_tryPart (P : Sk) (f : St) (a : Nat) (p1 : Int32) (K : Int32 → St → Prop) : Prop :=
  kX4_digitAt P f (a + 1) (p1 + 1) (fun r7 g7 => kX4_signAt P g7 (a + 1) p1 (fun r16 g16 => (r16 = 106 → kX4_digitAt P g16 (a + 1) (p1 + 3) (fun r97 g97 => kX7_tryJoining P g97 a r7 r97 (fun r100 g100 => K r100 g100))) ∧ (¬ r16 = 106 → (r16 = 120 → kX4_placeAt P g16 (a + 1) (p1 + 2) (fun r61 g61 => kX4_signAt P g61 (a + 1) (p1 + 3) (fun r71 g71 => (¬ r71 = 43 → jX7_tryPart_84 P a p1 K r7 r7 r61 0 g71) ∧ (r71 = 43 → jX7_tryPart_84 P a p1 K r7 r7 r61 1 g71)))) ∧ (¬ r16 = 120 → (r16 = 122 → kX7_tryTakingBack P g16 a r7 (fun r106 g106 => K r106 g106)) ∧ (¬ r16 = 122 → kX4_howAt P g16 (a + 1) p1 (fun r117 g117 => kX7_tryChange P g117 a r7 r117 (fun r120 g120 => K r120 g120)))))))
set_option maxRecDepth 20000 in
set_option maxHeartbeats 4000000 in
theorem mX7_tryPart (l : Launch) (G : Gl) (P : Sk) (f : St) (sz : Nat) (a : Nat) (ha : IsComp P a) (p1 : Int32) (K : Int32 → St → Prop) (h : vX7_tryPart P f a p1 K)  :
  Met l yX7_tryPart (wU yX7_tryPart cX7_tryPart 3 (some .int)) rmX7_tryPart (PcW G P f sz [.ref a, .int p1]) (QcI G P sz K) 0 0 (frA P sz) := by
  refine v_met (own := RX7) [.ref a, .int p1] (by decide +kernel) rfl (Nat.le_of_ble_eq_true rfl) (fun p e s m args below meth c hsz o hr hnm => ?_)
  refine v_lv (lv2 := [(0, .ref a), (1, .int p1)]) rfl ?_
  have J84 : ∀ (x2_84 : Int32) (y1_84 : Int32) (y2_84 : Int32) (y3_84 : Int32) (g84 : St), jX7_tryPart_84 P a p1 K x2_84 y1_84 y2_84 y3_84 g84 → V p l e rmX7_tryPart s m args below meth c 3 G (frA P sz) (MQ below (QcI G P sz K) args s 0 0 (frA P sz)) 0 0 P [(0, .ref a), (1, .int p1), (2, .int x2_84)] [.int y3_84, .int y2_84, .int y1_84, .ref a] 84 g84 := by
    intro x2_84 y1_84 y2_84 y3_84 g84  h
    unfold jX7_tryPart_84 at h
    refine v_cVi o [.int y1_84, .int y2_84, .int y3_84] [] (fun sz => metX7_tryCrossing l G P g84 sz a ha y1_84 y2_84 y3_84 _ h) (cwX7_114 o.1.2.2.2.2 (by decide)) ⟨_, _, rfl⟩ (by decide) (wfComp_o ha) rfl (Nat.le_of_ble_eq_true rfl) ⟨Nat.le_of_ble_eq_true rfl, Nat.le_of_ble_eq_true rfl⟩ dX7_tryPart_84 rfl (fun r84 g84 h => ?_)
    exact v_iret o rfl hr dX7_tryPart_87 h
  unfold vX7_tryPart at h
  refine v_aload_n o 0 dX7_tryPart_0 rfl ?_
  refine v_gfR o lkX7_10 (by decide) (wfComp_o ha) (wfComp_r0 ha) dX7_tryPart_1 ?_
  refine v_iload_n o 1 dX7_tryPart_4 rfl ?_
  refine v_iconst o (v := 1) dX7_tryPart_5 (by decide) ?_
  refine v_iadd o dX7_tryPart_6 ?_
  refine v_cVi o [.int (p1 + 1)] [] (fun sz => metX4_digitAt l G P f sz (a + 1) (wfComp_t0 ha) (p1 + 1) _ h) (cwX7_286 o.1.2.2.2.2 (by decide)) ⟨_, _, rfl⟩ (by decide) (wfText_o (wfComp_t0 ha)) rfl (Nat.le_of_ble_eq_true rfl) ⟨Nat.le_of_ble_eq_true rfl, Nat.le_of_ble_eq_true rfl⟩ dX7_tryPart_7 rfl (fun r7 g7 h => ?_)
  refine v_istore_n o (lv' := [(2, .int r7), (0, .ref a), (1, .int p1)]) dX7_tryPart_10 rfl (by decide) rfl ?_
  refine v_aload_n o 1 dX7_tryPart_11 rfl ?_
  refine v_gfR o lkX7_10 (by decide) (wfComp_o ha) (wfComp_r0 ha) dX7_tryPart_12 ?_
  refine v_iload_n o 2 dX7_tryPart_15 rfl ?_
  refine v_cVi o [.int p1] [] (fun sz => metX4_signAt l G P g7 sz (a + 1) (wfComp_t0 ha) p1 _ h) (cwX7_243 o.1.2.2.2.2 (by decide)) ⟨_, _, rfl⟩ (by decide) (wfText_o (wfComp_t0 ha)) rfl (Nat.le_of_ble_eq_true rfl) ⟨Nat.le_of_ble_eq_true rfl, Nat.le_of_ble_eq_true rfl⟩ dX7_tryPart_16 rfl (fun r16 g16 h => ?_)
  by_cases c19_106 : r16 = 106
  · replace h := h.1 c19_106
    refine v_lookup o (off := 69) (tgt := 88) dX7_tryPart_19 (by decide) (by rw [c19_106]; decide) (by decide) ?_
    refine v_aload_n o 1 dX7_tryPart_88 rfl ?_
    refine v_iload_n o 0 dX7_tryPart_89 rfl ?_
    refine v_aload_n o 1 dX7_tryPart_90 rfl ?_
    refine v_gfR o lkX7_10 (by decide) (wfComp_o ha) (wfComp_r0 ha) dX7_tryPart_91 ?_
    refine v_iload_n o 2 dX7_tryPart_94 rfl ?_
    refine v_iconst o (v := 3) dX7_tryPart_95 (by decide) ?_
    refine v_iadd o dX7_tryPart_96 ?_
    refine v_cVi o [.int (p1 + 3)] [.int r7, .ref a] (fun sz => metX4_digitAt l G P g16 sz (a + 1) (wfComp_t0 ha) (p1 + 3) _ h) (cwX7_286 o.1.2.2.2.2 (by decide)) ⟨_, _, rfl⟩ (by decide) (wfText_o (wfComp_t0 ha)) rfl (Nat.le_of_ble_eq_true rfl) ⟨Nat.le_of_ble_eq_true rfl, Nat.le_of_ble_eq_true rfl⟩ dX7_tryPart_97 rfl (fun r97 g97 h => ?_)
    refine v_cVi o [.int r7, .int r97] [] (fun sz => metX7_tryJoining l G P g97 sz a ha r7 r97 _ h) (cwX7_147 o.1.2.2.2.2 (by decide)) ⟨_, _, rfl⟩ (by decide) (wfComp_o ha) rfl (Nat.le_of_ble_eq_true rfl) ⟨Nat.le_of_ble_eq_true rfl, Nat.le_of_ble_eq_true rfl⟩ dX7_tryPart_100 rfl (fun r100 g100 h => ?_)
    exact v_iret o rfl hr dX7_tryPart_103 h
  · replace h := h.2 c19_106
    by_cases c19_120 : r16 = 120
    · replace h := h.1 c19_120
      refine v_lookup o (off := 33) (tgt := 52) dX7_tryPart_19 (by decide) (by rw [c19_120]; decide) (by decide) ?_
      refine v_aload_n o 1 dX7_tryPart_52 rfl ?_
      refine v_iload_n o 0 dX7_tryPart_53 rfl ?_
      refine v_aload_n o 1 dX7_tryPart_54 rfl ?_
      refine v_gfR o lkX7_10 (by decide) (wfComp_o ha) (wfComp_r0 ha) dX7_tryPart_55 ?_
      refine v_iload_n o 2 dX7_tryPart_58 rfl ?_
      refine v_iconst o (v := 2) dX7_tryPart_59 (by decide) ?_
      refine v_iadd o dX7_tryPart_60 ?_
      refine v_cVi o [.int (p1 + 2)] [.int r7, .ref a] (fun sz => metX4_placeAt l G P g16 sz (a + 1) (wfComp_t0 ha) (p1 + 2) _ h) (cwX7_289 o.1.2.2.2.2 (by decide)) ⟨_, _, rfl⟩ (by decide) (wfText_o (wfComp_t0 ha)) rfl (Nat.le_of_ble_eq_true rfl) ⟨Nat.le_of_ble_eq_true rfl, Nat.le_of_ble_eq_true rfl⟩ dX7_tryPart_61 rfl (fun r61 g61 h => ?_)
      refine v_aload_n o 1 dX7_tryPart_64 rfl ?_
      refine v_gfR o lkX7_10 (by decide) (wfComp_o ha) (wfComp_r0 ha) dX7_tryPart_65 ?_
      refine v_iload_n o 2 dX7_tryPart_68 rfl ?_
      refine v_iconst o (v := 3) dX7_tryPart_69 (by decide) ?_
      refine v_iadd o dX7_tryPart_70 ?_
      refine v_cVi o [.int (p1 + 3)] [.int r61, .int r7, .ref a] (fun sz => metX4_signAt l G P g61 sz (a + 1) (wfComp_t0 ha) (p1 + 3) _ h) (cwX7_243 o.1.2.2.2.2 (by decide)) ⟨_, _, rfl⟩ (by decide) (wfText_o (wfComp_t0 ha)) rfl (Nat.le_of_ble_eq_true rfl) ⟨Nat.le_of_ble_eq_true rfl, Nat.le_of_ble_eq_true rfl⟩ dX7_tryPart_71 rfl (fun r71 g71 h => ?_)
      refine v_bipush o (v := 43) dX7_tryPart_74 (by decide) ?_
      refine v_icmp_ne o (tgt := 83) dX7_tryPart_76 (by decide) (fun c76 => ?_) (fun c76 => ?_)
      · replace h := h.1 c76
        refine v_iconst o (v := 0) dX7_tryPart_83 (by decide) ?_
        refine v_sub [1, 2, 0] (lv2 := [(0, .ref a), (1, .int p1), (2, .int r7)]) rfl ?_
        exact J84 r7 r7 r61 0 g71  h
      · replace h := h.2 c76
        refine v_iconst o (v := 1) dX7_tryPart_79 (by decide) ?_
        refine v_goto o (tgt := 84) dX7_tryPart_80 (by decide) ?_
        refine v_sub [1, 2, 0] (lv2 := [(0, .ref a), (1, .int p1), (2, .int r7)]) rfl ?_
        exact J84 r7 r7 r61 1 g71  h
    · replace h := h.2 c19_120
      by_cases c19_122 : r16 = 122
      · replace h := h.1 c19_122
        refine v_lookup o (off := 85) (tgt := 104) dX7_tryPart_19 (by decide) (by rw [c19_122]; decide) (by decide) ?_
        refine v_aload_n o 1 dX7_tryPart_104 rfl ?_
        refine v_iload_n o 0 dX7_tryPart_105 rfl ?_
        refine v_cVi o [.int r7] [] (fun sz => metX7_tryTakingBack l G P g16 sz a ha r7 _ h) (cwX7_134 o.1.2.2.2.2 (by decide)) ⟨_, _, rfl⟩ (by decide) (wfComp_o ha) rfl (Nat.le_of_ble_eq_true rfl) ⟨Nat.le_of_ble_eq_true rfl, Nat.le_of_ble_eq_true rfl⟩ dX7_tryPart_106 rfl (fun r106 g106 h => ?_)
        exact v_iret o rfl hr dX7_tryPart_109 h
      · replace h := h.2 c19_122
        refine v_lookup o (off := 91) (tgt := 110) dX7_tryPart_19 (by decide) (by show Op.lookupswitch.offset [(106, 69), (120, 33), (122, 85)] _ _ = _; rw [lv_osw c19_106 (by decide), lv_osw c19_120 (by decide), lv_osw c19_122 (by decide)]; rfl) (by decide) ?_
        refine v_aload_n o 1 dX7_tryPart_110 rfl ?_
        refine v_iload_n o 0 dX7_tryPart_111 rfl ?_
        refine v_aload_n o 1 dX7_tryPart_112 rfl ?_
        refine v_gfR o lkX7_10 (by decide) (wfComp_o ha) (wfComp_r0 ha) dX7_tryPart_113 ?_
        refine v_iload_n o 2 dX7_tryPart_116 rfl ?_
        refine v_cVi o [.int p1] [.int r7, .ref a] (fun sz => metX4_howAt l G P g16 sz (a + 1) (wfComp_t0 ha) p1 _ h) (cwX7_292 o.1.2.2.2.2 (by decide)) ⟨_, _, rfl⟩ (by decide) (wfText_o (wfComp_t0 ha)) rfl (Nat.le_of_ble_eq_true rfl) ⟨Nat.le_of_ble_eq_true rfl, Nat.le_of_ble_eq_true rfl⟩ dX7_tryPart_117 rfl (fun r117 g117 h => ?_)
        refine v_cVi o [.int r7, .int r117] [] (fun sz => metX7_tryChange l G P g117 sz a ha r7 r117 _ h) (cwX7_140 o.1.2.2.2.2 (by decide)) ⟨_, _, rfl⟩ (by decide) (wfComp_o ha) rfl (Nat.le_of_ble_eq_true rfl) ⟨Nat.le_of_ble_eq_true rfl, Nat.le_of_ble_eq_true rfl⟩ dX7_tryPart_120 rfl (fun r120 g120 h => ?_)
        exact v_iret o rfl hr dX7_tryPart_123 h
abbrev kX7_tryPart := @vX7_tryPart
abbrev metX7_tryPart := @mX7_tryPart

def vX7_doTriedPart (P : Sk) (f : St) (a : Nat) (p1 : Int32) (K : St → Prop) : Prop :=
  kX4_digitAt P f (a + 1) (p1 + 1) (fun r11 g11 => kX2_copyFrom P g11 (atB (a + 4) r11) (a + 1410) (fun g21 => kX4_howAt P g21 (a + 1) p1 (fun r29 g29 => (r29 = (-1) → K g29) ∧ (¬ r29 = (-1) → kX0_addChange P g29 (a + 4) (fun g40 => K g40)))))
set_option maxRecDepth 20000 in
set_option maxHeartbeats 4000000 in
theorem mX7_doTriedPart (l : Launch) (G : Gl) (P : Sk) (f : St) (sz : Nat) (a : Nat) (ha : IsComp P a) (p1 : Int32) (K : St → Prop) (h : vX7_doTriedPart P f a p1 K)  :
  Met l yX7_doTriedPart (wU yX7_doTriedPart cX7_doTriedPart 2 none) rmX7_doTriedPart (PcW G P f sz [.ref a, .int p1]) (QcV G P sz K) 0 0 (frA P sz) := by
  refine v_met (own := RX7) [.ref a, .int p1] (by decide +kernel) rfl (Nat.le_of_ble_eq_true rfl) (fun p e s m args below meth c hsz o hr hnm => ?_)
  refine v_lv (lv2 := [(0, .ref a), (1, .int p1)]) rfl ?_
  unfold vX7_doTriedPart at h
  refine v_aload_n o 0 dX7_doTriedPart_0 rfl ?_
  refine v_gfR o lkX7_19 (by decide) (wfComp_o ha) (wfComp_r1 ha) dX7_doTriedPart_1 ?_
  refine v_aload_n o 0 dX7_doTriedPart_4 rfl ?_
  refine v_gfR o lkX7_10 (by decide) (wfComp_o ha) (wfComp_r0 ha) dX7_doTriedPart_5 ?_
  refine v_iload_n o 1 dX7_doTriedPart_8 rfl ?_
  refine v_iconst o (v := 1) dX7_doTriedPart_9 (by decide) ?_
  refine v_iadd o dX7_doTriedPart_10 ?_
  refine v_cVi o [.int (p1 + 1)] [.ref (a + 4)] (fun sz => metX4_digitAt l G P f sz (a + 1) (wfComp_t0 ha) (p1 + 1) _ h) (cwX7_286 o.1.2.2.2.2 (by decide)) ⟨_, _, rfl⟩ (by decide) (wfText_o (wfComp_t0 ha)) rfl (Nat.le_of_ble_eq_true rfl) ⟨Nat.le_of_ble_eq_true rfl, Nat.le_of_ble_eq_true rfl⟩ dX7_doTriedPart_11 rfl (fun r11 g11 h => ?_)
  refine v_cVr o [.int r11] [] (fun sz => metX0_at l G P g11 sz (a + 4) (wfComp_t1 ha) r11) (cwX7_102 o.1.2.2.2.2 (by decide)) ⟨_, _, rfl⟩ (by decide) (wfBoard_o (wfComp_t1 ha)) rfl (Nat.le_of_ble_eq_true rfl) ⟨Nat.le_of_ble_eq_true rfl, Nat.le_of_ble_eq_true rfl⟩ dX7_doTriedPart_14 rfl (fun r14 g14 h14 => ?_)
  obtain ⟨rfl, rfl⟩ := h14
  refine v_aload_n o 0 dX7_doTriedPart_17 rfl ?_
  refine v_gfR o lkX7_40 (by decide) (wfComp_o ha) (wfComp_r5 ha) dX7_doTriedPart_18 ?_
  refine v_cVv o [.ref (a + 1410)] [] (fun sz => metX2_copyFrom l G P g11 sz (atB (a + 4) r11) (is_atB (wfComp_t1 ha) r11) (a + 1410) (wfComp_t5 ha) _ h) (cwX7_121 o.1.2.2.2.2 (by decide)) ⟨_, _, rfl⟩ (by decide) (wfLoaf_o (is_atB (wfComp_t1 ha) r11)) rfl (Nat.le_of_ble_eq_true rfl) ⟨Nat.le_of_ble_eq_true rfl, Nat.le_of_ble_eq_true rfl⟩ dX7_doTriedPart_21 rfl (fun g21 h => ?_)
  refine v_aload_n o 0 dX7_doTriedPart_24 rfl ?_
  refine v_gfR o lkX7_10 (by decide) (wfComp_o ha) (wfComp_r0 ha) dX7_doTriedPart_25 ?_
  refine v_iload_n o 1 dX7_doTriedPart_28 rfl ?_
  refine v_cVi o [.int p1] [] (fun sz => metX4_howAt l G P g21 sz (a + 1) (wfComp_t0 ha) p1 _ h) (cwX7_292 o.1.2.2.2.2 (by decide)) ⟨_, _, rfl⟩ (by decide) (wfText_o (wfComp_t0 ha)) rfl (Nat.le_of_ble_eq_true rfl) ⟨Nat.le_of_ble_eq_true rfl, Nat.le_of_ble_eq_true rfl⟩ dX7_doTriedPart_29 rfl (fun r29 g29 h => ?_)
  refine v_iconst o (v := (-1)) dX7_doTriedPart_32 (by decide) ?_
  refine v_icmp_eq o (tgt := 43) dX7_doTriedPart_33 (by decide) (fun c33 => ?_) (fun c33 => ?_)
  · replace h := h.1 c33
    exact v_vret o rfl hr dX7_doTriedPart_43 h
  · replace h := h.2 c33
    refine v_aload_n o 0 dX7_doTriedPart_36 rfl ?_
    refine v_gfR o lkX7_19 (by decide) (wfComp_o ha) (wfComp_r1 ha) dX7_doTriedPart_37 ?_
    refine v_cVv o [] [] (fun sz => metX0_addChange l G P g29 sz (a + 4) (wfComp_t1 ha) _ h) (cwX7_144 o.1.2.2.2.2 (by decide)) ⟨_, _, rfl⟩ (by decide) (wfBoard_o (wfComp_t1 ha)) rfl (Nat.le_of_ble_eq_true rfl) ⟨Nat.le_of_ble_eq_true rfl, Nat.le_of_ble_eq_true rfl⟩ dX7_doTriedPart_40 rfl (fun g40 h => ?_)
    exact v_vret o rfl hr dX7_doTriedPart_43 h
abbrev kX7_doTriedPart := @vX7_doTriedPart
abbrev metX7_doTriedPart := @mX7_doTriedPart

def jX7_work_108 (P : Sk) (a : Nat) (L37 : St → Int32 → Int32 → Int32 → Prop) (K : Int32 → St → Prop) (X : String → St → Prop) (x1 : Int32) (x2 : Int32) (x3 : Int32) (y1 : Int32) (y2 : Int32) (f : St) : Prop :=
  kX0_setStop P f (a + 4) y1 y2 (fun g108 => kX4_clear P g108 (a + 1) (fun g115 => K x1 g115))
def jX7_work_99 (P : Sk) (a : Nat) (L37 : St → Int32 → Int32 → Int32 → Prop) (K : Int32 → St → Prop) (X : String → St → Prop) (x1 : Int32) (x2 : Int32) (x3 : Int32) (y1 : Int32) (f : St) : Prop :=
  (¬ x2 = 0 → jX7_work_108 P a L37 K X x1 x2 x3 y1 x2 f) ∧ (x2 = 0 → jX7_work_108 P a L37 K X x1 x2 x3 y1 (-1) f)
def jX7_work_86 (P : Sk) (a : Nat) (L37 : St → Int32 → Int32 → Int32 → Prop) (K : Int32 → St → Prop) (X : String → St → Prop) (x1 : Int32) (x2 : Int32) (x3 : Int32) (f : St) : Prop :=
  (¬ x2 = 0 → jX7_work_99 P a L37 K X x1 x2 x3 x1 f) ∧ (x2 = 0 → jX7_work_99 P a L37 K X x1 x2 x3 (-1) f)
def jX7_work_70 (P : Sk) (a : Nat) (L37 : St → Int32 → Int32 → Int32 → Prop) (K : Int32 → St → Prop) (X : String → St → Prop) (x1 : Int32) (x2 : Int32) (x3 : Int32) (f : St) : Prop :=
  kX4_partSize P f (a + 1) x3 (fun r76 g76 => ∀ x3_82 : Int32, x3_82 = x3 + (r76 + 1) → L37 g76 x1 x2 x3_82)
def bX7_work_37 (P : Sk) (a : Nat) (L37 : St → Int32 → Int32 → Int32 → Prop) (K : Int32 → St → Prop) (X : String → St → Prop) (f : St) (x1 : Int32) (x2 : Int32) (x3 : Int32) : Prop :=
  kX4_size P f (a + 1) (fun r42 g42 => (r42 ≤ x3 → jX7_work_86 P a L37 K X x1 x2 x3 g42) ∧ (¬ r42 ≤ x3 → (¬ x2 = 0 → jX7_work_86 P a L37 K X x1 x2 x3 g42) ∧ (x2 = 0 → kX7_tryPart P g42 a x3 (fun r54 g54 => (¬ r54 = 0 → jX7_work_70 P a L37 K X x1 r54 x3 g54) ∧ (r54 = 0 → kX7_doTriedPart P g54 a x3 (fun g64 => ∀ x1_67 : Int32, x1_67 = x1 + 1 → jX7_work_70 P a L37 K X x1_67 r54 x3 g64))))))
def vX7_work (P : Sk) (f : St) (a : Nat) (L37 : St → Int32 → Int32 → Int32 → Prop) (K : Int32 → St → Prop) (X : String → St → Prop) : Prop :=
  kX4_isWorks P f (a + 1) (fun r4 g4 => (¬ r4 = 0 → kX1_save P g4 (a + 160) (a + 4) (fun g28 => L37 g28 0 0 0)) ∧ (r4 = 0 → X "java/lang/IllegalArgumentException" g4))
abbrev rxX7_work : Room := { frames := 6, cells := 1, slots := 6, locals := 175 }
set_option maxRecDepth 20000 in
set_option maxHeartbeats 4000000 in
theorem mX7_work (l : Launch) (hl : l.stackTraces = false) (G : Gl) (P : Sk) (f : St) (sz : Nat) (a : Nat) (ha : IsComp P a) (K : Int32 → St → Prop) (X : String → St → Prop) (I37 : St → Int32 → Int32 → Int32 → Prop) (μ37 : St → Int32 → Int32 → Int32 → Nat) 
  (h : vX7_work P f a I37 K X)
  (h37 : ∀ (g : St) (x1 : Int32) (x2 : Int32) (x3 : Int32) , I37 g x1 x2 x3 → bX7_work_37 P a (fun g' z0 z1 z2 => I37 g' z0 z1 z2 ∧ μ37 g' z0 z1 z2 < μ37 g x1 x2 x3) K X g x1 x2 x3) :
  vx_Met l yX7_work (wU yX7_work cX7_work 4 (some .int)) rxX7_work (PcX G P f sz [.ref a]) (QcI G P sz K) (XX G P sz X) 1 6 (frA P sz) := by
  refine v_metx (own := RX7) [.ref a] (by decide) rfl (Nat.le_of_ble_eq_true rfl) (fun p e s m args below meth c hsz o hr hT hno => ?_)
  refine v_lv (lv2 := [(0, .ref a)]) rfl ?_
  have main : ∀ n : Nat, (∀ (g : St) (x1 : Int32) (x2 : Int32) (x3 : Int32) , I37 g x1 x2 x3 → μ37 g x1 x2 x3 < n → V p l e rxX7_work s m args below meth c 4 G (frA P sz) (vx_MQ below (QcI G P sz K) (XX G P sz X) args s 1 6 (frA P sz)) 0 0 P [(0, .ref a), (1, .int x1), (2, .int x2), (3, .int x3)] [] 37 g) := by
    intro n
    induction n with
    | zero => exact fun g x1 x2 x3 hI hm => absurd hm (Nat.not_lt_zero _)
    | succ n ih =>
      intro g x1 x2 x3 hI hm
      have h := h37 g x1 x2 x3 hI
      clear hI
      have J108 : ∀ (x1_108 : Int32) (x2_108 : Int32) (x3_108 : Int32) (y1_108 : Int32) (y2_108 : Int32) (g108 : St), jX7_work_108 P a (fun g' z0 z1 z2 => I37 g' z0 z1 z2 ∧ μ37 g' z0 z1 z2 < μ37 g x1 x2 x3) K X x1_108 x2_108 x3_108 y1_108 y2_108 g108 → V p l e rxX7_work s m args below meth c 4 G (frA P sz) (vx_MQ below (QcI G P sz K) (XX G P sz X) args s 1 6 (frA P sz)) 0 0 P [(0, .ref a), (1, .int x1_108), (2, .int x2_108), (3, .int x3_108)] [.int y2_108, .int y1_108, .ref (a + 4)] 108 g108 := by
        intro x1_108 x2_108 x3_108 y1_108 y2_108 g108  h
        unfold jX7_work_108 at h
        refine v_cVv o [.int y1_108, .int y2_108] [] (fun sz => metX0_setStop l G P g108 sz (a + 4) (wfComp_t1 ha) y1_108 y2_108 _ h) (cwX7_178 o.1.2.2.2.2 (by decide)) ⟨_, _, rfl⟩ (by decide) (wfBoard_o (wfComp_t1 ha)) rfl (Nat.le_of_ble_eq_true rfl) ⟨Nat.le_of_ble_eq_true rfl, Nat.le_of_ble_eq_true rfl⟩ dX7_work_108 rfl (fun g108 h => ?_)
        refine v_aload_n o 0 dX7_work_111 rfl ?_
        refine v_gfR o lkX7_10 (by decide) (wfComp_o ha) (wfComp_r0 ha) dX7_work_112 ?_
        refine v_cVv o [] [] (fun sz => metX4_clear l G P g108 sz (a + 1) (wfComp_t0 ha) _ h) (cwX7_95 o.1.2.2.2.2 (by decide)) ⟨_, _, rfl⟩ (by decide) (wfText_o (wfComp_t0 ha)) rfl (Nat.le_of_ble_eq_true rfl) ⟨Nat.le_of_ble_eq_true rfl, Nat.le_of_ble_eq_true rfl⟩ dX7_work_115 rfl (fun g115 h => ?_)
        refine v_iload_n o 1 dX7_work_118 rfl ?_
        exact v_xret (Nat.le_of_ble_eq_true rfl) (Nat.le_of_ble_eq_true rfl) (v_iret o rfl hr dX7_work_119 h)
      have J99 : ∀ (x1_99 : Int32) (x2_99 : Int32) (x3_99 : Int32) (y1_99 : Int32) (g99 : St), jX7_work_99 P a (fun g' z0 z1 z2 => I37 g' z0 z1 z2 ∧ μ37 g' z0 z1 z2 < μ37 g x1 x2 x3) K X x1_99 x2_99 x3_99 y1_99 g99 → V p l e rxX7_work s m args below meth c 4 G (frA P sz) (vx_MQ below (QcI G P sz K) (XX G P sz X) args s 1 6 (frA P sz)) 0 0 P [(0, .ref a), (1, .int x1_99), (2, .int x2_99), (3, .int x3_99)] [.int y1_99, .ref (a + 4)] 99 g99 := by
        intro x1_99 x2_99 x3_99 y1_99 g99  h
        unfold jX7_work_99 at h
        refine v_iload_n o 2 dX7_work_99 rfl ?_
        refine v_if_ne o (tgt := 107) dX7_work_100 (by decide) (fun c100 => ?_) (fun c100 => ?_)
        · replace h := h.1 c100
          refine v_iload_n o 2 dX7_work_107 rfl ?_
          refine v_widen (k := 0) (n := 0) (Nat.le_of_ble_eq_true rfl) (Nat.le_of_ble_eq_true rfl) ?_
          refine v_sub [0, 1, 2, 3] (lv2 := [(0, .ref a), (1, .int x1_99), (2, .int x2_99), (3, .int x3_99)]) rfl ?_
          exact J108 x1_99 x2_99 x3_99 y1_99 x2_99 g99  h
        · replace h := h.2 c100
          refine v_iconst o (v := (-1)) dX7_work_103 (by decide) ?_
          refine v_goto o (tgt := 108) dX7_work_104 (by decide) ?_
          refine v_widen (k := 0) (n := 0) (Nat.le_of_ble_eq_true rfl) (Nat.le_of_ble_eq_true rfl) ?_
          refine v_sub [0, 1, 2, 3] (lv2 := [(0, .ref a), (1, .int x1_99), (2, .int x2_99), (3, .int x3_99)]) rfl ?_
          exact J108 x1_99 x2_99 x3_99 y1_99 (-1) g99  h
      have J86 : ∀ (x1_86 : Int32) (x2_86 : Int32) (x3_86 : Int32) (g86 : St), jX7_work_86 P a (fun g' z0 z1 z2 => I37 g' z0 z1 z2 ∧ μ37 g' z0 z1 z2 < μ37 g x1 x2 x3) K X x1_86 x2_86 x3_86 g86 → V p l e rxX7_work s m args below meth c 4 G (frA P sz) (vx_MQ below (QcI G P sz K) (XX G P sz X) args s 1 6 (frA P sz)) 0 0 P [(0, .ref a), (1, .int x1_86), (2, .int x2_86), (3, .int x3_86)] [] 86 g86 := by
        intro x1_86 x2_86 x3_86 g86  h
        unfold jX7_work_86 at h
        refine v_aload_n o 0 dX7_work_86 rfl ?_
        refine v_gfR o lkX7_19 (by decide) (wfComp_o ha) (wfComp_r1 ha) dX7_work_87 ?_
        refine v_iload_n o 2 dX7_work_90 rfl ?_
        refine v_if_ne o (tgt := 98) dX7_work_91 (by decide) (fun c91 => ?_) (fun c91 => ?_)
        · replace h := h.1 c91
          refine v_iload_n o 1 dX7_work_98 rfl ?_
          refine v_widen (k := 0) (n := 0) (Nat.le_of_ble_eq_true rfl) (Nat.le_of_ble_eq_true rfl) ?_
          refine v_sub [0, 1, 2, 3] (lv2 := [(0, .ref a), (1, .int x1_86), (2, .int x2_86), (3, .int x3_86)]) rfl ?_
          exact J99 x1_86 x2_86 x3_86 x1_86 g86  h
        · replace h := h.2 c91
          refine v_iconst o (v := (-1)) dX7_work_94 (by decide) ?_
          refine v_goto o (tgt := 99) dX7_work_95 (by decide) ?_
          refine v_widen (k := 0) (n := 0) (Nat.le_of_ble_eq_true rfl) (Nat.le_of_ble_eq_true rfl) ?_
          refine v_sub [0, 1, 2, 3] (lv2 := [(0, .ref a), (1, .int x1_86), (2, .int x2_86), (3, .int x3_86)]) rfl ?_
          exact J99 x1_86 x2_86 x3_86 (-1) g86  h
      have J70 : ∀ (x1_70 : Int32) (x2_70 : Int32) (x3_70 : Int32) (g70 : St), jX7_work_70 P a (fun g' z0 z1 z2 => I37 g' z0 z1 z2 ∧ μ37 g' z0 z1 z2 < μ37 g x1 x2 x3) K X x1_70 x2_70 x3_70 g70 → V p l e rxX7_work s m args below meth c 4 G (frA P sz) (vx_MQ below (QcI G P sz K) (XX G P sz X) args s 1 6 (frA P sz)) 0 0 P [(0, .ref a), (1, .int x1_70), (2, .int x2_70), (3, .int x3_70)] [] 70 g70 := by
        intro x1_70 x2_70 x3_70 g70  h
        unfold jX7_work_70 at h
        refine v_iload_n o 3 dX7_work_70 rfl ?_
        refine v_aload_n o 0 dX7_work_71 rfl ?_
        refine v_gfR o lkX7_10 (by decide) (wfComp_o ha) (wfComp_r0 ha) dX7_work_72 ?_
        refine v_iload_n o 3 dX7_work_75 rfl ?_
        refine v_cVi o [.int x3_70] [.int x3_70] (fun sz => metX4_partSize l G P g70 sz (a + 1) (wfComp_t0 ha) x3_70 _ h) (cwX7_175 o.1.2.2.2.2 (by decide)) ⟨_, _, rfl⟩ (by decide) (wfText_o (wfComp_t0 ha)) rfl (Nat.le_of_ble_eq_true rfl) ⟨Nat.le_of_ble_eq_true rfl, Nat.le_of_ble_eq_true rfl⟩ dX7_work_76 rfl (fun r76 g76 h => ?_)
        refine v_iconst o (v := 1) dX7_work_79 (by decide) ?_
        refine v_iadd o dX7_work_80 ?_
        refine v_iadd o dX7_work_81 ?_
        refine v_topi (fun x3_82 ex3_82 => ?_)
        replace h := h x3_82 ex3_82
        refine v_istore_n o (lv' := [(3, .int x3_82), (0, .ref a), (1, .int x1_70), (2, .int x2_70)]) dX7_work_82 rfl (by decide) rfl ?_
        refine v_goto o (tgt := 37) dX7_work_83 (by decide) ?_
        refine v_widen (k := 0) (n := 0) (Nat.le_of_ble_eq_true rfl) (Nat.le_of_ble_eq_true rfl) ?_
        refine v_sub [1, 2, 3, 0] (lv2 := [(0, .ref a), (1, .int x1_70), (2, .int x2_70), (3, .int x3_82)]) rfl ?_
        exact ih g76 x1_70 x2_70 x3_82  h.1 (by have := h.2; omega)
      unfold bX7_work_37 at h
      refine v_iload_n o 3 dX7_work_37 rfl ?_
      refine v_aload_n o 0 dX7_work_38 rfl ?_
      refine v_gfR o lkX7_10 (by decide) (wfComp_o ha) (wfComp_r0 ha) dX7_work_39 ?_
      refine v_cVi o [] [.int x3] (fun sz => metX4_size l G P g sz (a + 1) (wfComp_t0 ha) _ h) (cwX7_152 o.1.2.2.2.2 (by decide)) ⟨_, _, rfl⟩ (by decide) (wfText_o (wfComp_t0 ha)) rfl (Nat.le_of_ble_eq_true rfl) ⟨Nat.le_of_ble_eq_true rfl, Nat.le_of_ble_eq_true rfl⟩ dX7_work_42 rfl (fun r42 g42 h => ?_)
      refine v_icmp_ge o (tgt := 86) dX7_work_45 (by decide) (fun c45 => ?_) (fun c45 => ?_)
      · replace h := h.1 c45
        refine v_widen (k := 0) (n := 0) (Nat.le_of_ble_eq_true rfl) (Nat.le_of_ble_eq_true rfl) ?_
        refine v_sub [0, 1, 2, 3] (lv2 := [(0, .ref a), (1, .int x1), (2, .int x2), (3, .int x3)]) rfl ?_
        exact J86 x1 x2 x3 g42  h
      · replace h := h.2 c45
        refine v_iload_n o 2 dX7_work_48 rfl ?_
        refine v_if_ne o (tgt := 86) dX7_work_49 (by decide) (fun c49 => ?_) (fun c49 => ?_)
        · replace h := h.1 c49
          refine v_widen (k := 0) (n := 0) (Nat.le_of_ble_eq_true rfl) (Nat.le_of_ble_eq_true rfl) ?_
          refine v_sub [0, 1, 2, 3] (lv2 := [(0, .ref a), (1, .int x1), (2, .int x2), (3, .int x3)]) rfl ?_
          exact J86 x1 x2 x3 g42  h
        · replace h := h.2 c49
          refine v_aload_n o 0 dX7_work_52 rfl ?_
          refine v_iload_n o 3 dX7_work_53 rfl ?_
          refine v_cVi o [.int x3] [] (fun sz => metX7_tryPart l G P g42 sz a ha x3 _ h) (cwX7_169 o.1.2.2.2.2 (by decide)) ⟨_, _, rfl⟩ (by decide) (wfComp_o ha) rfl (Nat.le_of_ble_eq_true rfl) ⟨Nat.le_of_ble_eq_true rfl, Nat.le_of_ble_eq_true rfl⟩ dX7_work_54 rfl (fun r54 g54 h => ?_)
          refine v_istore_n o (lv' := [(2, .int r54), (0, .ref a), (1, .int x1), (3, .int x3)]) dX7_work_57 rfl (by decide) rfl ?_
          refine v_iload_n o 0 dX7_work_58 rfl ?_
          refine v_if_ne o (tgt := 70) dX7_work_59 (by decide) (fun c59 => ?_) (fun c59 => ?_)
          · replace h := h.1 c59
            refine v_widen (k := 0) (n := 0) (Nat.le_of_ble_eq_true rfl) (Nat.le_of_ble_eq_true rfl) ?_
            refine v_sub [1, 2, 0, 3] (lv2 := [(0, .ref a), (1, .int x1), (2, .int r54), (3, .int x3)]) rfl ?_
            exact J70 x1 r54 x3 g54  h
          · replace h := h.2 c59
            refine v_aload_n o 1 dX7_work_62 rfl ?_
            refine v_iload_n o 3 dX7_work_63 rfl ?_
            refine v_cVv o [.int x3] [] (fun sz => metX7_doTriedPart l G P g54 sz a ha x3 _ h) (cwX7_172 o.1.2.2.2.2 (by decide)) ⟨_, _, rfl⟩ (by decide) (wfComp_o ha) rfl (Nat.le_of_ble_eq_true rfl) ⟨Nat.le_of_ble_eq_true rfl, Nat.le_of_ble_eq_true rfl⟩ dX7_work_64 rfl (fun g64 h => ?_)
            obtain ⟨x1_67, ex1_67⟩ : ∃ y : Int32, y = x1 + 1 := ⟨_, rfl⟩
            replace h := h x1_67 ex1_67
            refine v_iinc o (v := x1_67) (lv' := [(1, .int x1_67), (2, .int r54), (0, .ref a), (3, .int x3)]) 2 dX7_work_67 rfl (by rw [ex1_67]; rfl) (by decide) rfl ?_
            refine v_widen (k := 0) (n := 0) (Nat.le_of_ble_eq_true rfl) (Nat.le_of_ble_eq_true rfl) ?_
            refine v_sub [2, 0, 1, 3] (lv2 := [(0, .ref a), (1, .int x1_67), (2, .int r54), (3, .int x3)]) rfl ?_
            exact J70 x1_67 r54 x3 g64  h
  unfold vX7_work at h
  refine v_aload_n o 0 dX7_work_0 rfl ?_
  refine v_gfR o lkX7_10 (by decide) (wfComp_o ha) (wfComp_r0 ha) dX7_work_1 ?_
  refine v_cVi o [] [] (fun sz => metX4_isWorks l G P f sz (a + 1) (wfComp_t0 ha) _ h) (cwX7_164 o.1.2.2.2.2 (by decide)) ⟨_, _, rfl⟩ (by decide) (wfText_o (wfComp_t0 ha)) rfl (Nat.le_of_ble_eq_true rfl) ⟨Nat.le_of_ble_eq_true rfl, Nat.le_of_ble_eq_true rfl⟩ dX7_work_4 rfl (fun r4 g4 h => ?_)
  refine v_if_ne o (tgt := 20) dX7_work_7 (by decide) (fun c7 => ?_) (fun c7 => ?_)
  · replace h := h.1 c7
    refine v_aload_n o 0 dX7_work_20 rfl ?_
    refine v_gfR o lkX7_26 (by decide) (wfComp_o ha) (wfComp_r2 ha) dX7_work_21 ?_
    refine v_aload_n o 0 dX7_work_24 rfl ?_
    refine v_gfR o lkX7_19 (by decide) (wfComp_o ha) (wfComp_r1 ha) dX7_work_25 ?_
    refine v_cVv o [.ref (a + 4)] [] (fun sz => metX1_save l G P g4 sz (a + 160) (wfComp_t2 ha) (a + 4) (wfComp_t1 ha) _ h) (cwX7_87 o.1.2.2.2.2 (by decide)) ⟨_, _, rfl⟩ (by decide) (wfHist_o (wfComp_t2 ha)) rfl (Nat.le_of_ble_eq_true rfl) ⟨Nat.le_of_ble_eq_true rfl, Nat.le_of_ble_eq_true rfl⟩ dX7_work_28 rfl (fun g28 h => ?_)
    refine v_iconst o (v := 0) dX7_work_31 (by decide) ?_
    refine v_istore_n o (lv' := [(1, .int 0), (0, .ref a)]) dX7_work_32 rfl (by decide) rfl ?_
    refine v_iconst o (v := 0) dX7_work_33 (by decide) ?_
    refine v_istore_n o (lv' := [(2, .int 0), (1, .int 0), (0, .ref a)]) dX7_work_34 rfl (by decide) rfl ?_
    refine v_iconst o (v := 0) dX7_work_35 (by decide) ?_
    refine v_istore_n o (lv' := [(3, .int 0), (2, .int 0), (1, .int 0), (0, .ref a)]) dX7_work_36 rfl (by decide) rfl ?_
    refine v_widen (k := 0) (n := 0) (Nat.le_of_ble_eq_true rfl) (Nat.le_of_ble_eq_true rfl) ?_
    refine v_sub [3, 2, 1, 0] (lv2 := [(0, .ref a), (1, .int 0), (2, .int 0), (3, .int 0)]) rfl ?_
    exact (main (μ37 g28 0 0 0 + 1)) g28 0 0 0  h (Nat.lt_succ_self _)
  · replace h := h.2 c7
    exact v_throwS o hT hl hno (text := "the buffer is not complete works") rfl thw_58 (by decide) dX7_work_10 dX7_work_13 dX7_work_14 dX7_work_16 dX7_work_19 ⟨by decide, Nat.le_of_ble_eq_true rfl, Nat.le_of_ble_eq_true rfl, Nat.le_of_ble_eq_true rfl⟩ ⟨Nat.le_of_ble_eq_true rfl, Nat.le_of_ble_eq_true rfl⟩ h
theorem cxL_40 {R : Room} {s : State} {args : Array Value} (ht : ∀ w ∈ lw_U, w.before args s = true) (hR : rxX7_work.frames + 1 ≤ R.frames ∧ 8 + (4 + 11) + rxX7_work.locals ≤ R.locals) : CallW R s args RL RX7 40 yX7_work cX7_work 4 (some .int) (wU yX7_work cX7_work 4 (some .int)) rxX7_work 1 6 0 := cwV 0 ht (gUV (mU 880 (by decide +kernel) rfl) (mU 881 (by decide +kernel) rfl) (mU 882 (by decide +kernel) rfl) (mU 82 (by decide +kernel) rfl) (mU 883 (by decide +kernel) rfl)) rfl rfl rfl ⟨rfl, by decide +kernel, by decide +kernel, by decide +kernel⟩ hR
def kX7_work (P : Sk) (f : St) (a : Nat) (K : Int32 → St → Prop) (X : String → St → Prop) : Prop := False
theorem metX7_work (l : Launch) (hl : l.stackTraces = false) (G : Gl) (P : Sk) (f : St) (sz : Nat) (a : Nat) (ha : IsComp P a) (K : Int32 → St → Prop) (X : String → St → Prop) (h : kX7_work P f a K X) : vx_Met l yX7_work (wU yX7_work cX7_work 4 (some .int)) rxX7_work (PcX G P f sz [.ref a]) (QcI G P sz K) (XX G P sz X) 1 6 (frA P sz) := sorry

def vX7_stopped (P : Sk) (f : St) (a : Nat) (p1 : Int32) (K : Int32 → St → Prop) (X : String → St → Prop) : Prop :=
  kX7_needUpTo P f p1 1 (fun g2 => (¬ p1 = 0 → kX0_stopReason P g2 (a + 4) (fun r23 g23 => K r23 g23)) ∧ (p1 = 0 → kX0_stopPart P g2 (a + 4) (fun r13 g13 => K r13 g13))) X
abbrev rxX7_stopped : Room := { frames := 7, cells := 1, slots := 6, locals := 111 }
set_option maxRecDepth 20000 in
set_option maxHeartbeats 4000000 in
theorem mX7_stopped (l : Launch) (hl : l.stackTraces = false) (G : Gl) (P : Sk) (f : St) (sz : Nat) (a : Nat) (ha : IsComp P a) (p1 : Int32) (K : Int32 → St → Prop) (X : String → St → Prop) (h : vX7_stopped P f a p1 K X)  :
  vx_Met l yX7_stopped (wU yX7_stopped cX7_stopped 2 (some .int)) rxX7_stopped (PcX G P f sz [.ref a, .int p1]) (QcI G P sz K) (XX G P sz X) 1 6 (frA P sz) := by
  refine v_metx (own := RX7) [.ref a, .int p1] (by decide) rfl (Nat.le_of_ble_eq_true rfl) (fun p e s m args below meth c hsz o hr hT hno => ?_)
  refine v_lv (lv2 := [(0, .ref a), (1, .int p1)]) rfl ?_
  unfold vX7_stopped at h
  refine v_iload_n o 1 dX7_stopped_0 rfl ?_
  refine v_iconst o (v := 1) dX7_stopped_1 (by decide) ?_
  refine v_cxSv o hT hno [.int p1, .int 1] [] rfl (fun sz => metX7_needUpTo l hl G P f sz p1 1 _ _ h) (cxX7_137 o.1.2.2.2.2 (by decide)) rfl (Nat.le_of_ble_eq_true rfl) ⟨Nat.le_of_ble_eq_true rfl, Nat.le_of_ble_eq_true rfl⟩ ⟨Nat.le_of_ble_eq_true rfl, Nat.le_of_ble_eq_true rfl⟩ dX7_stopped_2 rfl (fun g2 h => ?_)
  refine v_iload_n o 1 dX7_stopped_5 rfl ?_
  refine v_if_ne o (tgt := 19) dX7_stopped_6 (by decide) (fun c6 => ?_) (fun c6 => ?_)
  · replace h := h.1 c6
    refine v_aload_n o 0 dX7_stopped_19 rfl ?_
    refine v_gfR o lkX7_19 (by decide) (wfComp_o ha) (wfComp_r1 ha) dX7_stopped_20 ?_
    refine v_cVi o [] [] (fun sz => metX0_stopReason l G P g2 sz (a + 4) (wfComp_t1 ha) _ h) (cwX7_184 o.1.2.2.2.2 (by decide)) ⟨_, _, rfl⟩ (by decide) (wfBoard_o (wfComp_t1 ha)) rfl (Nat.le_of_ble_eq_true rfl) ⟨Nat.le_of_ble_eq_true rfl, Nat.le_of_ble_eq_true rfl⟩ dX7_stopped_23 rfl (fun r23 g23 h => ?_)
    exact v_xret (Nat.le_of_ble_eq_true rfl) (Nat.le_of_ble_eq_true rfl) (v_iret o rfl hr dX7_stopped_26 h)
  · replace h := h.2 c6
    refine v_aload_n o 0 dX7_stopped_9 rfl ?_
    refine v_gfR o lkX7_19 (by decide) (wfComp_o ha) (wfComp_r1 ha) dX7_stopped_10 ?_
    refine v_cVi o [] [] (fun sz => metX0_stopPart l G P g2 sz (a + 4) (wfComp_t1 ha) _ h) (cwX7_181 o.1.2.2.2.2 (by decide)) ⟨_, _, rfl⟩ (by decide) (wfBoard_o (wfComp_t1 ha)) rfl (Nat.le_of_ble_eq_true rfl) ⟨Nat.le_of_ble_eq_true rfl, Nat.le_of_ble_eq_true rfl⟩ dX7_stopped_13 rfl (fun r13 g13 h => ?_)
    refine v_goto o (tgt := 26) dX7_stopped_16 (by decide) ?_
    exact v_xret (Nat.le_of_ble_eq_true rfl) (Nat.le_of_ble_eq_true rfl) (v_iret o rfl hr dX7_stopped_26 h)
theorem cxL_43 {R : Room} {s : State} {args : Array Value} (ht : ∀ w ∈ lw_U, w.before args s = true) (hR : rxX7_stopped.frames + 1 ≤ R.frames ∧ 8 + (2 + 11) + rxX7_stopped.locals ≤ R.locals) : CallW R s args RL RX7 43 yX7_stopped cX7_stopped 2 (some .int) (wU yX7_stopped cX7_stopped 2 (some .int)) rxX7_stopped 1 6 1 := cwV 1 ht (gUV (mU 914 (by decide +kernel) rfl) (mU 915 (by decide +kernel) rfl) (mU 916 (by decide +kernel) rfl) (mU 82 (by decide +kernel) rfl) (mU 917 (by decide +kernel) rfl)) rfl rfl rfl ⟨rfl, by decide +kernel, by decide +kernel, by decide +kernel⟩ hR
abbrev kX7_stopped := @vX7_stopped
abbrev metX7_stopped := @mX7_stopped

def vX7_undo (P : Sk) (f : St) (a : Nat) (K : Int32 → St → Prop) (X : String → St → Prop) : Prop :=
  kX1_size P f (a + 160) (fun r4 g4 => (¬ r4 = 0 → kX1_takeBack P g4 (a + 160) (a + 4) (fun g28 => kX1_size P g28 (a + 160) (fun r35 g35 => K r35 g35))) ∧ (r4 = 0 → X "java/lang/IllegalStateException" g4))
abbrev rxX7_undo : Room := { frames := 6, cells := 1, slots := 6, locals := 175 }
set_option maxRecDepth 20000 in
set_option maxHeartbeats 4000000 in
theorem mX7_undo (l : Launch) (hl : l.stackTraces = false) (G : Gl) (P : Sk) (f : St) (sz : Nat) (a : Nat) (ha : IsComp P a) (K : Int32 → St → Prop) (X : String → St → Prop) (h : vX7_undo P f a K X)  :
  vx_Met l yX7_undo (wU yX7_undo cX7_undo 1 (some .int)) rxX7_undo (PcX G P f sz [.ref a]) (QcI G P sz K) (XX G P sz X) 1 6 (frA P sz) := by
  refine v_metx (own := RX7) [.ref a] (by decide) rfl (Nat.le_of_ble_eq_true rfl) (fun p e s m args below meth c hsz o hr hT hno => ?_)
  refine v_lv (lv2 := [(0, .ref a)]) rfl ?_
  unfold vX7_undo at h
  refine v_aload_n o 0 dX7_undo_0 rfl ?_
  refine v_gfR o lkX7_26 (by decide) (wfComp_o ha) (wfComp_r2 ha) dX7_undo_1 ?_
  refine v_cVi o [] [] (fun sz => metX1_size l G P f sz (a + 160) (wfComp_t2 ha) _ h) (cwX7_187 o.1.2.2.2.2 (by decide)) ⟨_, _, rfl⟩ (by decide) (wfHist_o (wfComp_t2 ha)) rfl (Nat.le_of_ble_eq_true rfl) ⟨Nat.le_of_ble_eq_true rfl, Nat.le_of_ble_eq_true rfl⟩ dX7_undo_4 rfl (fun r4 g4 h => ?_)
  refine v_if_ne o (tgt := 20) dX7_undo_7 (by decide) (fun c7 => ?_) (fun c7 => ?_)
  · replace h := h.1 c7
    refine v_aload_n o 0 dX7_undo_20 rfl ?_
    refine v_gfR o lkX7_26 (by decide) (wfComp_o ha) (wfComp_r2 ha) dX7_undo_21 ?_
    refine v_aload_n o 0 dX7_undo_24 rfl ?_
    refine v_gfR o lkX7_19 (by decide) (wfComp_o ha) (wfComp_r1 ha) dX7_undo_25 ?_
    refine v_cVv o [.ref (a + 4)] [] (fun sz => metX1_takeBack l G P g4 sz (a + 160) (wfComp_t2 ha) (a + 4) (wfComp_t1 ha) _ h) (cwX7_190 o.1.2.2.2.2 (by decide)) ⟨_, _, rfl⟩ (by decide) (wfHist_o (wfComp_t2 ha)) rfl (Nat.le_of_ble_eq_true rfl) ⟨Nat.le_of_ble_eq_true rfl, Nat.le_of_ble_eq_true rfl⟩ dX7_undo_28 rfl (fun g28 h => ?_)
    refine v_aload_n o 0 dX7_undo_31 rfl ?_
    refine v_gfR o lkX7_26 (by decide) (wfComp_o ha) (wfComp_r2 ha) dX7_undo_32 ?_
    refine v_cVi o [] [] (fun sz => metX1_size l G P g28 sz (a + 160) (wfComp_t2 ha) _ h) (cwX7_187 o.1.2.2.2.2 (by decide)) ⟨_, _, rfl⟩ (by decide) (wfHist_o (wfComp_t2 ha)) rfl (Nat.le_of_ble_eq_true rfl) ⟨Nat.le_of_ble_eq_true rfl, Nat.le_of_ble_eq_true rfl⟩ dX7_undo_35 rfl (fun r35 g35 h => ?_)
    exact v_xret (Nat.le_of_ble_eq_true rfl) (Nat.le_of_ble_eq_true rfl) (v_iret o rfl hr dX7_undo_38 h)
  · replace h := h.2 c7
    exact v_throwS o hT hl hno (text := "there is no saved state") rfl thw_69 (by decide) dX7_undo_10 dX7_undo_13 dX7_undo_14 dX7_undo_16 dX7_undo_19 ⟨by decide, Nat.le_of_ble_eq_true rfl, Nat.le_of_ble_eq_true rfl, Nat.le_of_ble_eq_true rfl⟩ ⟨Nat.le_of_ble_eq_true rfl, Nat.le_of_ble_eq_true rfl⟩ h
theorem cxL_46 {R : Room} {s : State} {args : Array Value} (ht : ∀ w ∈ lw_U, w.before args s = true) (hR : rxX7_undo.frames + 1 ≤ R.frames ∧ 8 + (1 + 11) + rxX7_undo.locals ≤ R.locals) : CallW R s args RL RX7 46 yX7_undo cX7_undo 1 (some .int) (wU yX7_undo cX7_undo 1 (some .int)) rxX7_undo 1 6 0 := cwV 0 ht (gUV (mU 921 (by decide +kernel) rfl) (mU 922 (by decide +kernel) rfl) (mU 923 (by decide +kernel) rfl) (mU 82 (by decide +kernel) rfl) (mU 924 (by decide +kernel) rfl)) rfl rfl rfl ⟨rfl, by decide +kernel, by decide +kernel, by decide +kernel⟩ hR
abbrev kX7_undo := @vX7_undo
abbrev metX7_undo := @mX7_undo

def vX7_keep (P : Sk) (f : St) (a : Nat) (K : Int32 → St → Prop) : Prop :=
  kX0_copyFrom P f (a + 1254) (a + 4) (fun g8 => ∀ g13 : St, g13 = setf g8 a 4 1 → kX0_size P g13 (a + 4) (fun r20 g20 => K r20 g20))
set_option maxRecDepth 20000 in
set_option maxHeartbeats 4000000 in
theorem mX7_keep (l : Launch) (G : Gl) (P : Sk) (f : St) (sz : Nat) (a : Nat) (ha : IsComp P a) (K : Int32 → St → Prop) (h : vX7_keep P f a K)  :
  Met l yX7_keep (wU yX7_keep cX7_keep 1 (some .int)) rmX7_keep (PcW G P f sz [.ref a]) (QcI G P sz K) 0 0 (frA P sz) := by
  refine v_met (own := RX7) [.ref a] (by decide +kernel) rfl (Nat.le_of_ble_eq_true rfl) (fun p e s m args below meth c hsz o hr hnm => ?_)
  refine v_lv (lv2 := [(0, .ref a)]) rfl ?_
  unfold vX7_keep at h
  refine v_aload_n o 0 dX7_keep_0 rfl ?_
  refine v_gfR o lkX7_30 (by decide) (wfComp_o ha) (wfComp_r3 ha) dX7_keep_1 ?_
  refine v_aload_n o 0 dX7_keep_4 rfl ?_
  refine v_gfR o lkX7_19 (by decide) (wfComp_o ha) (wfComp_r1 ha) dX7_keep_5 ?_
  refine v_cVv o [.ref (a + 4)] [] (fun sz => metX0_copyFrom l G P f sz (a + 1254) (wfComp_t3 ha) (a + 4) (wfComp_t1 ha) _ h) (cwX7_193 o.1.2.2.2.2 (by decide)) ⟨_, _, rfl⟩ (by decide) (wfBoard_o (wfComp_t3 ha)) rfl (Nat.le_of_ble_eq_true rfl) ⟨Nat.le_of_ble_eq_true rfl, Nat.le_of_ble_eq_true rfl⟩ dX7_keep_8 rfl (fun g8 h => ?_)
  refine v_aload_n o 0 dX7_keep_11 rfl ?_
  refine v_iconst o (v := 1) dX7_keep_12 (by decide) ?_
  refine v_pf o lpX7_33 (wfComp_o ha) bz1 dX7_keep_13 ?_
  refine v_nmf (fun g13 eg13 => ?_)
  replace h := h g13 eg13
  refine v_aload_n o 0 dX7_keep_16 rfl ?_
  refine v_gfR o lkX7_19 (by decide) (wfComp_o ha) (wfComp_r1 ha) dX7_keep_17 ?_
  refine v_cVi o [] [] (fun sz => metX0_size l G P g13 sz (a + 4) (wfComp_t1 ha) _ h) (cwX7_65 o.1.2.2.2.2 (by decide)) ⟨_, _, rfl⟩ (by decide) (wfBoard_o (wfComp_t1 ha)) rfl (Nat.le_of_ble_eq_true rfl) ⟨Nat.le_of_ble_eq_true rfl, Nat.le_of_ble_eq_true rfl⟩ dX7_keep_20 rfl (fun r20 g20 h => ?_)
  exact v_iret o rfl hr dX7_keep_23 h
abbrev kX7_keep := @vX7_keep
abbrev metX7_keep := @mX7_keep

def vX7_restore (P : Sk) (f : St) (a : Nat) (K : Int32 → St → Prop) (X : String → St → Prop) : Prop :=
  (¬ f a 4 = 0 → kX1_save P f (a + 160) (a + 4) (fun g25 => kX0_copyFrom P g25 (a + 4) (a + 1254) (fun g36 => kX0_size P g36 (a + 4) (fun r43 g43 => K r43 g43)))) ∧ (f a 4 = 0 → X "java/lang/IllegalStateException" f)
abbrev rxX7_restore : Room := { frames := 6, cells := 1, slots := 6, locals := 175 }
set_option maxRecDepth 20000 in
set_option maxHeartbeats 4000000 in
theorem mX7_restore (l : Launch) (hl : l.stackTraces = false) (G : Gl) (P : Sk) (f : St) (sz : Nat) (a : Nat) (ha : IsComp P a) (K : Int32 → St → Prop) (X : String → St → Prop) (h : vX7_restore P f a K X)  :
  vx_Met l yX7_restore (wU yX7_restore cX7_restore 1 (some .int)) rxX7_restore (PcX G P f sz [.ref a]) (QcI G P sz K) (XX G P sz X) 1 6 (frA P sz) := by
  refine v_metx (own := RX7) [.ref a] (by decide) rfl (Nat.le_of_ble_eq_true rfl) (fun p e s m args below meth c hsz o hr hT hno => ?_)
  refine v_lv (lv2 := [(0, .ref a)]) rfl ?_
  unfold vX7_restore at h
  refine v_aload_n o 0 dX7_restore_0 rfl ?_
  refine v_gfI o lkX7_33 (by decide) (wfComp_o ha) dX7_restore_1 ?_
  refine v_if_ne o (tgt := 17) dX7_restore_4 (by decide) (fun c4 => ?_) (fun c4 => ?_)
  · replace h := h.1 c4
    refine v_aload_n o 0 dX7_restore_17 rfl ?_
    refine v_gfR o lkX7_26 (by decide) (wfComp_o ha) (wfComp_r2 ha) dX7_restore_18 ?_
    refine v_aload_n o 0 dX7_restore_21 rfl ?_
    refine v_gfR o lkX7_19 (by decide) (wfComp_o ha) (wfComp_r1 ha) dX7_restore_22 ?_
    refine v_cVv o [.ref (a + 4)] [] (fun sz => metX1_save l G P f sz (a + 160) (wfComp_t2 ha) (a + 4) (wfComp_t1 ha) _ h) (cwX7_87 o.1.2.2.2.2 (by decide)) ⟨_, _, rfl⟩ (by decide) (wfHist_o (wfComp_t2 ha)) rfl (Nat.le_of_ble_eq_true rfl) ⟨Nat.le_of_ble_eq_true rfl, Nat.le_of_ble_eq_true rfl⟩ dX7_restore_25 rfl (fun g25 h => ?_)
    refine v_aload_n o 0 dX7_restore_28 rfl ?_
    refine v_gfR o lkX7_19 (by decide) (wfComp_o ha) (wfComp_r1 ha) dX7_restore_29 ?_
    refine v_aload_n o 0 dX7_restore_32 rfl ?_
    refine v_gfR o lkX7_30 (by decide) (wfComp_o ha) (wfComp_r3 ha) dX7_restore_33 ?_
    refine v_cVv o [.ref (a + 1254)] [] (fun sz => metX0_copyFrom l G P g25 sz (a + 4) (wfComp_t1 ha) (a + 1254) (wfComp_t3 ha) _ h) (cwX7_193 o.1.2.2.2.2 (by decide)) ⟨_, _, rfl⟩ (by decide) (wfBoard_o (wfComp_t1 ha)) rfl (Nat.le_of_ble_eq_true rfl) ⟨Nat.le_of_ble_eq_true rfl, Nat.le_of_ble_eq_true rfl⟩ dX7_restore_36 rfl (fun g36 h => ?_)
    refine v_aload_n o 0 dX7_restore_39 rfl ?_
    refine v_gfR o lkX7_19 (by decide) (wfComp_o ha) (wfComp_r1 ha) dX7_restore_40 ?_
    refine v_cVi o [] [] (fun sz => metX0_size l G P g36 sz (a + 4) (wfComp_t1 ha) _ h) (cwX7_65 o.1.2.2.2.2 (by decide)) ⟨_, _, rfl⟩ (by decide) (wfBoard_o (wfComp_t1 ha)) rfl (Nat.le_of_ble_eq_true rfl) ⟨Nat.le_of_ble_eq_true rfl, Nat.le_of_ble_eq_true rfl⟩ dX7_restore_43 rfl (fun r43 g43 h => ?_)
    exact v_xret (Nat.le_of_ble_eq_true rfl) (Nat.le_of_ble_eq_true rfl) (v_iret o rfl hr dX7_restore_46 h)
  · replace h := h.2 c4
    exact v_throwS o hT hl hno (text := "there is no snapshot") rfl thw_69 (by decide) dX7_restore_7 dX7_restore_10 dX7_restore_11 dX7_restore_13 dX7_restore_16 ⟨by decide, Nat.le_of_ble_eq_true rfl, Nat.le_of_ble_eq_true rfl, Nat.le_of_ble_eq_true rfl⟩ ⟨Nat.le_of_ble_eq_true rfl, Nat.le_of_ble_eq_true rfl⟩ h
theorem cxL_49 {R : Room} {s : State} {args : Array Value} (ht : ∀ w ∈ lw_U, w.before args s = true) (hR : rxX7_restore.frames + 1 ≤ R.frames ∧ 8 + (1 + 11) + rxX7_restore.locals ≤ R.locals) : CallW R s args RL RX7 49 yX7_restore cX7_restore 1 (some .int) (wU yX7_restore cX7_restore 1 (some .int)) rxX7_restore 1 6 0 := cwV 0 ht (gUV (mU 933 (by decide +kernel) rfl) (mU 934 (by decide +kernel) rfl) (mU 935 (by decide +kernel) rfl) (mU 82 (by decide +kernel) rfl) (mU 936 (by decide +kernel) rfl)) rfl rfl rfl ⟨rfl, by decide +kernel, by decide +kernel, by decide +kernel⟩ hR
abbrev kX7_restore := @vX7_restore
abbrev metX7_restore := @mX7_restore

def vX7_crossing (P : Sk) (f : St) (a : Nat) (p1 : Int32) (p2 : Int32) (p3 : Int32) (K : Int32 → St → Prop) (X : String → St → Prop) : Prop :=
  kX7_needLoaf P f a p1 (fun g2 => kX7_needUpTo P g2 p2 23 (fun g8 => kX7_needUpTo P g8 p3 3 (fun g13 => kX2_numberOfCrossing P g13 (atB (a + 4) p1) p2 p3 (fun r26 g26 => K r26 g26)) X) X) X
abbrev rxX7_crossing : Room := { frames := 7, cells := 3, slots := 18, locals := 111 }
set_option maxRecDepth 20000 in
set_option maxHeartbeats 4000000 in
theorem mX7_crossing (l : Launch) (hl : l.stackTraces = false) (G : Gl) (P : Sk) (f : St) (sz : Nat) (a : Nat) (ha : IsComp P a) (p1 : Int32) (p2 : Int32) (p3 : Int32) (K : Int32 → St → Prop) (X : String → St → Prop) (h : vX7_crossing P f a p1 p2 p3 K X)  :
  vx_Met l yX7_crossing (wU yX7_crossing cX7_crossing 4 (some .int)) rxX7_crossing (PcX G P f sz [.ref a, .int p1, .int p2, .int p3]) (QcI G P sz K) (XX G P sz X) 3 18 (frA P sz) := by
  refine v_metx (own := RX7) [.ref a, .int p1, .int p2, .int p3] (by decide) rfl (Nat.le_of_ble_eq_true rfl) (fun p e s m args below meth c hsz o hr hT hno => ?_)
  refine v_lv (lv2 := [(0, .ref a), (1, .int p1), (2, .int p2), (3, .int p3)]) rfl ?_
  unfold vX7_crossing at h
  refine v_aload_n o 0 dX7_crossing_0 rfl ?_
  refine v_iload_n o 1 dX7_crossing_1 rfl ?_
  refine v_cxVv o hT hno [.int p1] [] rfl (fun sz => metX7_needLoaf l hl G P f sz a ha p1 _ _ h) (cxX7_98 o.1.2.2.2.2 (by decide)) ⟨_, _, rfl⟩ (by decide) (wfComp_o ha) rfl (Nat.le_of_ble_eq_true rfl) ⟨Nat.le_of_ble_eq_true rfl, Nat.le_of_ble_eq_true rfl⟩ ⟨Nat.le_of_ble_eq_true rfl, Nat.le_of_ble_eq_true rfl⟩ dX7_crossing_2 rfl (fun g2 h => ?_)
  refine v_iload_n o 2 dX7_crossing_5 rfl ?_
  refine v_bipush o (v := 23) dX7_crossing_6 (by decide) ?_
  refine v_cxSv o hT hno [.int p2, .int 23] [] rfl (fun sz => metX7_needUpTo l hl G P g2 sz p2 23 _ _ h) (cxX7_137 o.1.2.2.2.2 (by decide)) rfl (Nat.le_of_ble_eq_true rfl) ⟨Nat.le_of_ble_eq_true rfl, Nat.le_of_ble_eq_true rfl⟩ ⟨Nat.le_of_ble_eq_true rfl, Nat.le_of_ble_eq_true rfl⟩ dX7_crossing_8 rfl (fun g8 h => ?_)
  refine v_iload_n o 3 dX7_crossing_11 rfl ?_
  refine v_iconst o (v := 3) dX7_crossing_12 (by decide) ?_
  refine v_cxSv o hT hno [.int p3, .int 3] [] rfl (fun sz => metX7_needUpTo l hl G P g8 sz p3 3 _ _ h) (cxX7_137 o.1.2.2.2.2 (by decide)) rfl (Nat.le_of_ble_eq_true rfl) ⟨Nat.le_of_ble_eq_true rfl, Nat.le_of_ble_eq_true rfl⟩ ⟨Nat.le_of_ble_eq_true rfl, Nat.le_of_ble_eq_true rfl⟩ dX7_crossing_13 rfl (fun g13 h => ?_)
  refine v_aload_n o 0 dX7_crossing_16 rfl ?_
  refine v_gfR o lkX7_19 (by decide) (wfComp_o ha) (wfComp_r1 ha) dX7_crossing_17 ?_
  refine v_iload_n o 1 dX7_crossing_20 rfl ?_
  refine v_cVr o [.int p1] [] (fun sz => metX0_at l G P g13 sz (a + 4) (wfComp_t1 ha) p1) (cwX7_102 o.1.2.2.2.2 (by decide)) ⟨_, _, rfl⟩ (by decide) (wfBoard_o (wfComp_t1 ha)) rfl (Nat.le_of_ble_eq_true rfl) ⟨Nat.le_of_ble_eq_true rfl, Nat.le_of_ble_eq_true rfl⟩ dX7_crossing_21 rfl (fun r21 g21 h21 => ?_)
  obtain ⟨rfl, rfl⟩ := h21
  refine v_iload_n o 2 dX7_crossing_24 rfl ?_
  refine v_iload_n o 3 dX7_crossing_25 rfl ?_
  refine v_cVi o [.int p2, .int p3] [] (fun sz => metX2_numberOfCrossing l G P g13 sz (atB (a + 4) p1) (is_atB (wfComp_t1 ha) p1) p2 p3 _ h) (cwX7_197 o.1.2.2.2.2 (by decide)) ⟨_, _, rfl⟩ (by decide) (wfLoaf_o (is_atB (wfComp_t1 ha) p1)) rfl (Nat.le_of_ble_eq_true rfl) ⟨Nat.le_of_ble_eq_true rfl, Nat.le_of_ble_eq_true rfl⟩ dX7_crossing_26 rfl (fun r26 g26 h => ?_)
  exact v_xret (Nat.le_of_ble_eq_true rfl) (Nat.le_of_ble_eq_true rfl) (v_iret o rfl hr dX7_crossing_29 h)
theorem cxL_52 {R : Room} {s : State} {args : Array Value} (ht : ∀ w ∈ lw_U, w.before args s = true) (hR : rxX7_crossing.frames + 1 ≤ R.frames ∧ 8 + (4 + 11) + rxX7_crossing.locals ≤ R.locals) : CallW R s args RL RX7 52 yX7_crossing cX7_crossing 4 (some .int) (wU yX7_crossing cX7_crossing 4 (some .int)) rxX7_crossing 3 18 3 := cwV 3 ht (gUV (mU 941 (by decide +kernel) rfl) (mU 942 (by decide +kernel) rfl) (mU 943 (by decide +kernel) rfl) (mU 82 (by decide +kernel) rfl) (mU 944 (by decide +kernel) rfl)) rfl rfl rfl ⟨rfl, by decide +kernel, by decide +kernel, by decide +kernel⟩ hR
abbrev kX7_crossing := @vX7_crossing
abbrev metX7_crossing := @mX7_crossing

def vX7_strand (P : Sk) (f : St) (a : Nat) (p1 : Int32) (p2 : Int32) (p3 : Int32) (K : Int32 → St → Prop) (X : String → St → Prop) : Prop :=
  kX7_needLoaf P f a p1 (fun g2 => kX7_needUpTo P g2 p2 6 (fun g8 => kX7_needUpTo P g8 p3 4 (fun g13 => kX5_numberOfStrand P g13 ((atB (a + 4) p1) + 7) p2 p3 (fun r29 g29 => K r29 g29)) X) X) X
abbrev rxX7_strand : Room := { frames := 7, cells := 3, slots := 18, locals := 111 }
set_option maxRecDepth 20000 in
set_option maxHeartbeats 4000000 in
theorem mX7_strand (l : Launch) (hl : l.stackTraces = false) (G : Gl) (P : Sk) (f : St) (sz : Nat) (a : Nat) (ha : IsComp P a) (p1 : Int32) (p2 : Int32) (p3 : Int32) (K : Int32 → St → Prop) (X : String → St → Prop) (h : vX7_strand P f a p1 p2 p3 K X)  :
  vx_Met l yX7_strand (wU yX7_strand cX7_strand 4 (some .int)) rxX7_strand (PcX G P f sz [.ref a, .int p1, .int p2, .int p3]) (QcI G P sz K) (XX G P sz X) 3 18 (frA P sz) := by
  refine v_metx (own := RX7) [.ref a, .int p1, .int p2, .int p3] (by decide) rfl (Nat.le_of_ble_eq_true rfl) (fun p e s m args below meth c hsz o hr hT hno => ?_)
  refine v_lv (lv2 := [(0, .ref a), (1, .int p1), (2, .int p2), (3, .int p3)]) rfl ?_
  unfold vX7_strand at h
  refine v_aload_n o 0 dX7_strand_0 rfl ?_
  refine v_iload_n o 1 dX7_strand_1 rfl ?_
  refine v_cxVv o hT hno [.int p1] [] rfl (fun sz => metX7_needLoaf l hl G P f sz a ha p1 _ _ h) (cxX7_98 o.1.2.2.2.2 (by decide)) ⟨_, _, rfl⟩ (by decide) (wfComp_o ha) rfl (Nat.le_of_ble_eq_true rfl) ⟨Nat.le_of_ble_eq_true rfl, Nat.le_of_ble_eq_true rfl⟩ ⟨Nat.le_of_ble_eq_true rfl, Nat.le_of_ble_eq_true rfl⟩ dX7_strand_2 rfl (fun g2 h => ?_)
  refine v_iload_n o 2 dX7_strand_5 rfl ?_
  refine v_bipush o (v := 6) dX7_strand_6 (by decide) ?_
  refine v_cxSv o hT hno [.int p2, .int 6] [] rfl (fun sz => metX7_needUpTo l hl G P g2 sz p2 6 _ _ h) (cxX7_137 o.1.2.2.2.2 (by decide)) rfl (Nat.le_of_ble_eq_true rfl) ⟨Nat.le_of_ble_eq_true rfl, Nat.le_of_ble_eq_true rfl⟩ ⟨Nat.le_of_ble_eq_true rfl, Nat.le_of_ble_eq_true rfl⟩ dX7_strand_8 rfl (fun g8 h => ?_)
  refine v_iload_n o 3 dX7_strand_11 rfl ?_
  refine v_iconst o (v := 4) dX7_strand_12 (by decide) ?_
  refine v_cxSv o hT hno [.int p3, .int 4] [] rfl (fun sz => metX7_needUpTo l hl G P g8 sz p3 4 _ _ h) (cxX7_137 o.1.2.2.2.2 (by decide)) rfl (Nat.le_of_ble_eq_true rfl) ⟨Nat.le_of_ble_eq_true rfl, Nat.le_of_ble_eq_true rfl⟩ ⟨Nat.le_of_ble_eq_true rfl, Nat.le_of_ble_eq_true rfl⟩ dX7_strand_13 rfl (fun g13 h => ?_)
  refine v_aload_n o 0 dX7_strand_16 rfl ?_
  refine v_gfR o lkX7_19 (by decide) (wfComp_o ha) (wfComp_r1 ha) dX7_strand_17 ?_
  refine v_iload_n o 1 dX7_strand_20 rfl ?_
  refine v_cVr o [.int p1] [] (fun sz => metX0_at l G P g13 sz (a + 4) (wfComp_t1 ha) p1) (cwX7_102 o.1.2.2.2.2 (by decide)) ⟨_, _, rfl⟩ (by decide) (wfBoard_o (wfComp_t1 ha)) rfl (Nat.le_of_ble_eq_true rfl) ⟨Nat.le_of_ble_eq_true rfl, Nat.le_of_ble_eq_true rfl⟩ dX7_strand_21 rfl (fun r21 g21 h21 => ?_)
  obtain ⟨rfl, rfl⟩ := h21
  refine v_cVr o [] [] (fun sz => metX2_trace l G P g13 sz (atB (a + 4) p1) (is_atB (wfComp_t1 ha) p1)) (cwX7_124 o.1.2.2.2.2 (by decide)) ⟨_, _, rfl⟩ (by decide) (wfLoaf_o (is_atB (wfComp_t1 ha) p1)) rfl (Nat.le_of_ble_eq_true rfl) ⟨Nat.le_of_ble_eq_true rfl, Nat.le_of_ble_eq_true rfl⟩ dX7_strand_24 rfl (fun r24 g24 h24 => ?_)
  obtain ⟨rfl, rfl⟩ := h24
  refine v_iload_n o 2 dX7_strand_27 rfl ?_
  refine v_iload_n o 3 dX7_strand_28 rfl ?_
  refine v_cVi o [.int p2, .int p3] [] (fun sz => metX5_numberOfStrand l G P g13 sz ((atB (a + 4) p1) + 7) (wfLoaf_t2 (is_atB (wfComp_t1 ha) p1)) p2 p3 _ h) (cwX7_200 o.1.2.2.2.2 (by decide)) ⟨_, _, rfl⟩ (by decide) (wfTrace_o (wfLoaf_t2 (is_atB (wfComp_t1 ha) p1))) rfl (Nat.le_of_ble_eq_true rfl) ⟨Nat.le_of_ble_eq_true rfl, Nat.le_of_ble_eq_true rfl⟩ dX7_strand_29 rfl (fun r29 g29 h => ?_)
  exact v_xret (Nat.le_of_ble_eq_true rfl) (Nat.le_of_ble_eq_true rfl) (v_iret o rfl hr dX7_strand_32 h)
theorem cxL_56 {R : Room} {s : State} {args : Array Value} (ht : ∀ w ∈ lw_U, w.before args s = true) (hR : rxX7_strand.frames + 1 ≤ R.frames ∧ 8 + (4 + 11) + rxX7_strand.locals ≤ R.locals) : CallW R s args RL RX7 56 yX7_strand cX7_strand 4 (some .int) (wU yX7_strand cX7_strand 4 (some .int)) rxX7_strand 3 18 3 := cwV 3 ht (gUV (mU 949 (by decide +kernel) rfl) (mU 950 (by decide +kernel) rfl) (mU 951 (by decide +kernel) rfl) (mU 82 (by decide +kernel) rfl) (mU 952 (by decide +kernel) rfl)) rfl rfl rfl ⟨rfl, by decide +kernel, by decide +kernel, by decide +kernel⟩ hR
abbrev kX7_strand := @vX7_strand
abbrev metX7_strand := @mX7_strand

def bX7_firstAlike_14 (P : Sk) (a : Nat) (p1 : Int32) (L14 : St → Nat → Int32 → Prop) (K : Int32 → St → Prop) (f : St) (x2 : Nat) (x3 : Int32) : Prop :=
  (p1 ≤ x3 → K p1 f) ∧ (¬ p1 ≤ x3 → kX6_isSame P f ((atB (a + 4) x3) + 4) x2 (fun r31 g31 => (r31 = 0 → ∀ x3_39 : Int32, x3_39 = x3 + 1 → L14 g31 x2 x3_39) ∧ (¬ r31 = 0 → K x3 g31)))
def vX7_firstAlike (P : Sk) (f : St) (a : Nat) (p1 : Int32) (L14 : St → Nat → Int32 → Prop) (K : Int32 → St → Prop) : Prop :=
  L14 f ((atB (a + 4) p1) + 4) 0
set_option maxRecDepth 20000 in
set_option maxHeartbeats 4000000 in
theorem mX7_firstAlike (l : Launch) (G : Gl) (P : Sk) (f : St) (sz : Nat) (a : Nat) (ha : IsComp P a) (p1 : Int32) (K : Int32 → St → Prop) (I14 : St → Nat → Int32 → Prop) (μ14 : St → Nat → Int32 → Nat) 
  (h : vX7_firstAlike P f a p1 I14 K)
  (h14 : ∀ (g : St) (x2 : Nat) (x3 : Int32) , I14 g x2 x3 → bX7_firstAlike_14 P a p1 (fun g' z0 z1 => I14 g' z0 z1 ∧ μ14 g' z0 z1 < μ14 g x2 x3) K g x2 x3) :
  Met l yX7_firstAlike (wU yX7_firstAlike cX7_firstAlike 4 (some .int)) rmX7_firstAlike (PcW G P f sz [.ref a, .int p1]) (QcI G P sz K) 0 0 (frA P sz) := by
  refine v_met (own := RX7) [.ref a, .int p1] (by decide +kernel) rfl (Nat.le_of_ble_eq_true rfl) (fun p e s m args below meth c hsz o hr hnm => ?_)
  refine v_lv (lv2 := [(0, .ref a), (1, .int p1)]) rfl ?_
  have main : ∀ n : Nat, (∀ (g : St) (x2 : Nat) (x3 : Int32) , IsWord P x2 → I14 g x2 x3 → μ14 g x2 x3 < n → V p l e rmX7_firstAlike s m args below meth c 4 G (frA P sz) (MQ below (QcI G P sz K) args s 0 0 (frA P sz)) 0 0 P [(0, .ref a), (1, .int p1), (2, .ref x2), (3, .int x3)] [] 14 g) := by
    intro n
    induction n with
    | zero => exact fun g x2 x3 hx2 hI hm => absurd hm (Nat.not_lt_zero _)
    | succ n ih =>
      intro g x2 x3 hx2 hI hm
      have h := h14 g x2 x3 hI
      clear hI
      unfold bX7_firstAlike_14 at h
      refine v_iload_n o 3 dX7_firstAlike_14 rfl ?_
      refine v_iload_n o 1 dX7_firstAlike_15 rfl ?_
      refine v_icmp_ge o (tgt := 45) dX7_firstAlike_16 (by decide) (fun c16 => ?_) (fun c16 => ?_)
      · replace h := h.1 c16
        refine v_iload_n o 1 dX7_firstAlike_45 rfl ?_
        exact v_iret o rfl hr dX7_firstAlike_46 h
      · replace h := h.2 c16
        refine v_aload_n o 0 dX7_firstAlike_19 rfl ?_
        refine v_gfR o lkX7_19 (by decide) (wfComp_o ha) (wfComp_r1 ha) dX7_firstAlike_20 ?_
        refine v_iload_n o 3 dX7_firstAlike_23 rfl ?_
        refine v_cVr o [.int x3] [] (fun sz => metX0_at l G P g sz (a + 4) (wfComp_t1 ha) x3) (cwX7_102 o.1.2.2.2.2 (by decide)) ⟨_, _, rfl⟩ (by decide) (wfBoard_o (wfComp_t1 ha)) rfl (Nat.le_of_ble_eq_true rfl) ⟨Nat.le_of_ble_eq_true rfl, Nat.le_of_ble_eq_true rfl⟩ dX7_firstAlike_24 rfl (fun r24 g24 h24 => ?_)
        obtain ⟨rfl, rfl⟩ := h24
        refine v_cVr o [] [] (fun sz => metX2_looseWord l G P g sz (atB (a + 4) x3) (is_atB (wfComp_t1 ha) x3)) (cwX7_206 o.1.2.2.2.2 (by decide)) ⟨_, _, rfl⟩ (by decide) (wfLoaf_o (is_atB (wfComp_t1 ha) x3)) rfl (Nat.le_of_ble_eq_true rfl) ⟨Nat.le_of_ble_eq_true rfl, Nat.le_of_ble_eq_true rfl⟩ dX7_firstAlike_27 rfl (fun r27 g27 h27 => ?_)
        obtain ⟨rfl, rfl⟩ := h27
        refine v_aload_n o 2 dX7_firstAlike_30 rfl ?_
        refine v_cVi o [.ref x2] [] (fun sz => metX6_isSame l G P g sz ((atB (a + 4) x3) + 4) (wfLoaf_t1 (is_atB (wfComp_t1 ha) x3)) x2 hx2 _ h) (cwX7_331 o.1.2.2.2.2 (by decide)) ⟨_, _, rfl⟩ (by decide) (wfWord_o (wfLoaf_t1 (is_atB (wfComp_t1 ha) x3))) rfl (Nat.le_of_ble_eq_true rfl) ⟨Nat.le_of_ble_eq_true rfl, Nat.le_of_ble_eq_true rfl⟩ dX7_firstAlike_31 rfl (fun r31 g31 h => ?_)
        refine v_if_eq o (tgt := 39) dX7_firstAlike_34 (by decide) (fun c34 => ?_) (fun c34 => ?_)
        · replace h := h.1 c34
          obtain ⟨x3_39, ex3_39⟩ : ∃ y : Int32, y = x3 + 1 := ⟨_, rfl⟩
          replace h := h x3_39 ex3_39
          refine v_iinc o (v := x3_39) (lv' := [(3, .int x3_39), (0, .ref a), (1, .int p1), (2, .ref x2)]) 3 dX7_firstAlike_39 rfl (by rw [ex3_39]; rfl) (by decide) rfl ?_
          refine v_goto o (tgt := 14) dX7_firstAlike_42 (by decide) ?_
          refine v_sub [1, 2, 3, 0] (lv2 := [(0, .ref a), (1, .int p1), (2, .ref x2), (3, .int x3_39)]) rfl ?_
          exact ih g31 x2 x3_39 hx2 h.1 (by have := h.2; omega)
        · replace h := h.2 c34
          refine v_iload_n o 3 dX7_firstAlike_37 rfl ?_
          exact v_iret o rfl hr dX7_firstAlike_38 h
  unfold vX7_firstAlike at h
  refine v_aload_n o 0 dX7_firstAlike_0 rfl ?_
  refine v_gfR o lkX7_19 (by decide) (wfComp_o ha) (wfComp_r1 ha) dX7_firstAlike_1 ?_
  refine v_iload_n o 1 dX7_firstAlike_4 rfl ?_
  refine v_cVr o [.int p1] [] (fun sz => metX0_at l G P f sz (a + 4) (wfComp_t1 ha) p1) (cwX7_102 o.1.2.2.2.2 (by decide)) ⟨_, _, rfl⟩ (by decide) (wfBoard_o (wfComp_t1 ha)) rfl (Nat.le_of_ble_eq_true rfl) ⟨Nat.le_of_ble_eq_true rfl, Nat.le_of_ble_eq_true rfl⟩ dX7_firstAlike_5 rfl (fun r5 g5 h5 => ?_)
  obtain ⟨rfl, rfl⟩ := h5
  refine v_cVr o [] [] (fun sz => metX2_looseWord l G P f sz (atB (a + 4) p1) (is_atB (wfComp_t1 ha) p1)) (cwX7_206 o.1.2.2.2.2 (by decide)) ⟨_, _, rfl⟩ (by decide) (wfLoaf_o (is_atB (wfComp_t1 ha) p1)) rfl (Nat.le_of_ble_eq_true rfl) ⟨Nat.le_of_ble_eq_true rfl, Nat.le_of_ble_eq_true rfl⟩ dX7_firstAlike_8 rfl (fun r8 g8 h8 => ?_)
  obtain ⟨rfl, rfl⟩ := h8
  refine v_astore_n o (lv' := [(2, .ref ((atB (a + 4) p1) + 4)), (0, .ref a), (1, .int p1)]) dX7_firstAlike_11 rfl (by decide) rfl ?_
  refine v_iconst o (v := 0) dX7_firstAlike_12 (by decide) ?_
  refine v_istore_n o (lv' := [(3, .int 0), (2, .ref ((atB (a + 4) p1) + 4)), (0, .ref a), (1, .int p1)]) dX7_firstAlike_13 rfl (by decide) rfl ?_
  refine v_sub [2, 3, 1, 0] (lv2 := [(0, .ref a), (1, .int p1), (2, .ref ((atB (a + 4) p1) + 4)), (3, .int 0)]) rfl ?_
  exact (main (μ14 f ((atB (a + 4) p1) + 4) 0 + 1)) f ((atB (a + 4) p1) + 4) 0 (wfLoaf_t1 (is_atB (wfComp_t1 ha) p1)) h (Nat.lt_succ_self _)
def kX7_firstAlike (P : Sk) (f : St) (a : Nat) (p1 : Int32) (K : Int32 → St → Prop) : Prop := False
theorem metX7_firstAlike (l : Launch) (G : Gl) (P : Sk) (f : St) (sz : Nat) (a : Nat) (ha : IsComp P a) (p1 : Int32) (K : Int32 → St → Prop) (h : kX7_firstAlike P f a p1 K) : Met l yX7_firstAlike (wU yX7_firstAlike cX7_firstAlike 4 (some .int)) rmX7_firstAlike (PcW G P f sz [.ref a, .int p1]) (QcI G P sz K) 0 0 (frA P sz) := sorry

def vX7_numberOfLoaf (P : Sk) (f : St) (a : Nat) (p1 : Int32) (p2 : Int32) (K : Int32 → St → Prop) : Prop :=
  (p2 = 0 → kX6_strands P f ((atB (a + 4) p1) + 1) (fun r68 g68 => K r68 g68)) ∧ (¬ p2 = 0 → (p2 = 1 → kX6_size P f ((atB (a + 4) p1) + 1) (fun r76 g76 => K r76 g76)) ∧ (¬ p2 = 1 → (p2 = 2 → kX6_rightLessLeft P f ((atB (a + 4) p1) + 1) (fun r86 g86 => K (100 + r86) g86)) ∧ (¬ p2 = 2 → (p2 = 3 → kX5_ringsByGoingRound P f ((atB (a + 4) p1) + 7) (fun r95 g95 => K r95 g95)) ∧ (¬ p2 = 3 → (p2 = 4 → kX5_ringsByJoining P f ((atB (a + 4) p1) + 7) (fun r103 g103 => K r103 g103)) ∧ (¬ p2 = 4 → (p2 = 5 → kX6_makeShortAtOnce P f (a + 1435) ((atB (a + 4) p1) + 1) (fun g115 => kX6_size P g115 (a + 1435) (fun r122 g122 => K r122 g122))) ∧ (¬ p2 = 5 → (p2 = 6 → kX6_makeShortByLooking P f (a + 1435) ((atB (a + 4) p1) + 1) (fun g134 => kX6_size P g134 (a + 1435) (fun r141 g141 => K r141 g141))) ∧ (¬ p2 = 6 → (p2 = 7 → kX6_size P f ((atB (a + 4) p1) + 4) (fun r149 g149 => K r149 g149)) ∧ (¬ p2 = 7 → (p2 = 8 → kX5_areAllHome P f ((atB (a + 4) p1) + 7) (fun r157 g157 => (r157 = 0 → K 0 g157) ∧ (¬ r157 = 0 → K 1 g157))) ∧ (¬ p2 = 8 → (p2 = 9 → kX5_mostHidden P f ((atB (a + 4) p1) + 7) (fun r173 g173 => K r173 g173)) ∧ (¬ p2 = 9 → kX7_firstAlike P f a p1 (fun r179 g179 => K r179 g179)))))))))))
set_option maxRecDepth 20000 in
set_option maxHeartbeats 4000000 in
theorem mX7_numberOfLoaf (l : Launch) (G : Gl) (P : Sk) (f : St) (sz : Nat) (a : Nat) (ha : IsComp P a) (p1 : Int32) (p2 : Int32) (K : Int32 → St → Prop) (h : vX7_numberOfLoaf P f a p1 p2 K)  :
  Met l yX7_numberOfLoaf (wU yX7_numberOfLoaf cX7_numberOfLoaf 4 (some .int)) rmX7_numberOfLoaf (PcW G P f sz [.ref a, .int p1, .int p2]) (QcI G P sz K) 0 0 (frA P sz) := by
  refine v_met (own := RX7) [.ref a, .int p1, .int p2] (by decide +kernel) rfl (Nat.le_of_ble_eq_true rfl) (fun p e s m args below meth c hsz o hr hnm => ?_)
  refine v_lv (lv2 := [(0, .ref a), (1, .int p1), (2, .int p2)]) rfl ?_
  unfold vX7_numberOfLoaf at h
  refine v_aload_n o 0 dX7_numberOfLoaf_0 rfl ?_
  refine v_gfR o lkX7_19 (by decide) (wfComp_o ha) (wfComp_r1 ha) dX7_numberOfLoaf_1 ?_
  refine v_iload_n o 1 dX7_numberOfLoaf_4 rfl ?_
  refine v_cVr o [.int p1] [] (fun sz => metX0_at l G P f sz (a + 4) (wfComp_t1 ha) p1) (cwX7_102 o.1.2.2.2.2 (by decide)) ⟨_, _, rfl⟩ (by decide) (wfBoard_o (wfComp_t1 ha)) rfl (Nat.le_of_ble_eq_true rfl) ⟨Nat.le_of_ble_eq_true rfl, Nat.le_of_ble_eq_true rfl⟩ dX7_numberOfLoaf_5 rfl (fun r5 g5 h5 => ?_)
  obtain ⟨rfl, rfl⟩ := h5
  refine v_astore_n o (lv' := [(3, .ref (atB (a + 4) p1)), (0, .ref a), (1, .int p1), (2, .int p2)]) dX7_numberOfLoaf_8 rfl (by decide) rfl ?_
  refine v_iload_n o 3 dX7_numberOfLoaf_9 rfl ?_
  by_cases c10_0 : p2 = 0
  · replace h := h.1 c10_0
    refine v_tableIn o (off := 54) (tgt := 64) dX7_numberOfLoaf_10 (by rw [c10_0]; decide) (by rw [c10_0]; decide) (by rw [c10_0]; decide) (by decide) ?_
    refine v_aload_n o 0 dX7_numberOfLoaf_64 rfl ?_
    refine v_cVr o [] [] (fun sz => metX2_word l G P f sz (atB (a + 4) p1) (is_atB (wfComp_t1 ha) p1)) (cwX7_74 o.1.2.2.2.2 (by decide)) ⟨_, _, rfl⟩ (by decide) (wfLoaf_o (is_atB (wfComp_t1 ha) p1)) rfl (Nat.le_of_ble_eq_true rfl) ⟨Nat.le_of_ble_eq_true rfl, Nat.le_of_ble_eq_true rfl⟩ dX7_numberOfLoaf_65 rfl (fun r65 g65 h65 => ?_)
    obtain ⟨rfl, rfl⟩ := h65
    refine v_cVi o [] [] (fun sz => metX6_strands l G P f sz ((atB (a + 4) p1) + 1) (wfLoaf_t0 (is_atB (wfComp_t1 ha) p1)) _ h) (cwX7_280 o.1.2.2.2.2 (by decide)) ⟨_, _, rfl⟩ (by decide) (wfWord_o (wfLoaf_t0 (is_atB (wfComp_t1 ha) p1))) rfl (Nat.le_of_ble_eq_true rfl) ⟨Nat.le_of_ble_eq_true rfl, Nat.le_of_ble_eq_true rfl⟩ dX7_numberOfLoaf_68 rfl (fun r68 g68 h => ?_)
    exact v_iret o rfl hr dX7_numberOfLoaf_71 h
  · replace h := h.2 c10_0
    by_cases c10_1 : p2 = 1
    · replace h := h.1 c10_1
      refine v_tableIn o (off := 62) (tgt := 72) dX7_numberOfLoaf_10 (by rw [c10_1]; decide) (by rw [c10_1]; decide) (by rw [c10_1]; decide) (by decide) ?_
      refine v_aload_n o 0 dX7_numberOfLoaf_72 rfl ?_
      refine v_cVr o [] [] (fun sz => metX2_word l G P f sz (atB (a + 4) p1) (is_atB (wfComp_t1 ha) p1)) (cwX7_74 o.1.2.2.2.2 (by decide)) ⟨_, _, rfl⟩ (by decide) (wfLoaf_o (is_atB (wfComp_t1 ha) p1)) rfl (Nat.le_of_ble_eq_true rfl) ⟨Nat.le_of_ble_eq_true rfl, Nat.le_of_ble_eq_true rfl⟩ dX7_numberOfLoaf_73 rfl (fun r73 g73 h73 => ?_)
      obtain ⟨rfl, rfl⟩ := h73
      refine v_cVi o [] [] (fun sz => metX6_size l G P f sz ((atB (a + 4) p1) + 1) (wfLoaf_t0 (is_atB (wfComp_t1 ha) p1)) _ h) (cwX7_106 o.1.2.2.2.2 (by decide)) ⟨_, _, rfl⟩ (by decide) (wfWord_o (wfLoaf_t0 (is_atB (wfComp_t1 ha) p1))) rfl (Nat.le_of_ble_eq_true rfl) ⟨Nat.le_of_ble_eq_true rfl, Nat.le_of_ble_eq_true rfl⟩ dX7_numberOfLoaf_76 rfl (fun r76 g76 h => ?_)
      exact v_iret o rfl hr dX7_numberOfLoaf_79 h
    · replace h := h.2 c10_1
      by_cases c10_2 : p2 = 2
      · replace h := h.1 c10_2
        refine v_tableIn o (off := 70) (tgt := 80) dX7_numberOfLoaf_10 (by rw [c10_2]; decide) (by rw [c10_2]; decide) (by rw [c10_2]; decide) (by decide) ?_
        refine v_bipush o (v := 100) dX7_numberOfLoaf_80 (by decide) ?_
        refine v_aload_n o 0 dX7_numberOfLoaf_82 rfl ?_
        refine v_cVr o [] [.int 100] (fun sz => metX2_word l G P f sz (atB (a + 4) p1) (is_atB (wfComp_t1 ha) p1)) (cwX7_74 o.1.2.2.2.2 (by decide)) ⟨_, _, rfl⟩ (by decide) (wfLoaf_o (is_atB (wfComp_t1 ha) p1)) rfl (Nat.le_of_ble_eq_true rfl) ⟨Nat.le_of_ble_eq_true rfl, Nat.le_of_ble_eq_true rfl⟩ dX7_numberOfLoaf_83 rfl (fun r83 g83 h83 => ?_)
        obtain ⟨rfl, rfl⟩ := h83
        refine v_cVi o [] [.int 100] (fun sz => metX6_rightLessLeft l G P f sz ((atB (a + 4) p1) + 1) (wfLoaf_t0 (is_atB (wfComp_t1 ha) p1)) _ h) (cwX7_295 o.1.2.2.2.2 (by decide)) ⟨_, _, rfl⟩ (by decide) (wfWord_o (wfLoaf_t0 (is_atB (wfComp_t1 ha) p1))) rfl (Nat.le_of_ble_eq_true rfl) ⟨Nat.le_of_ble_eq_true rfl, Nat.le_of_ble_eq_true rfl⟩ dX7_numberOfLoaf_86 rfl (fun r86 g86 h => ?_)
        refine v_iadd o dX7_numberOfLoaf_89 ?_
        exact v_iret o rfl hr dX7_numberOfLoaf_90 h
      · replace h := h.2 c10_2
        by_cases c10_3 : p2 = 3
        · replace h := h.1 c10_3
          refine v_tableIn o (off := 81) (tgt := 91) dX7_numberOfLoaf_10 (by rw [c10_3]; decide) (by rw [c10_3]; decide) (by rw [c10_3]; decide) (by decide) ?_
          refine v_aload_n o 0 dX7_numberOfLoaf_91 rfl ?_
          refine v_cVr o [] [] (fun sz => metX2_trace l G P f sz (atB (a + 4) p1) (is_atB (wfComp_t1 ha) p1)) (cwX7_124 o.1.2.2.2.2 (by decide)) ⟨_, _, rfl⟩ (by decide) (wfLoaf_o (is_atB (wfComp_t1 ha) p1)) rfl (Nat.le_of_ble_eq_true rfl) ⟨Nat.le_of_ble_eq_true rfl, Nat.le_of_ble_eq_true rfl⟩ dX7_numberOfLoaf_92 rfl (fun r92 g92 h92 => ?_)
          obtain ⟨rfl, rfl⟩ := h92
          refine v_cVi o [] [] (fun sz => metX5_ringsByGoingRound l G P f sz ((atB (a + 4) p1) + 7) (wfLoaf_t2 (is_atB (wfComp_t1 ha) p1)) _ h) (cwX7_298 o.1.2.2.2.2 (by decide)) ⟨_, _, rfl⟩ (by decide) (wfTrace_o (wfLoaf_t2 (is_atB (wfComp_t1 ha) p1))) rfl (Nat.le_of_ble_eq_true rfl) ⟨Nat.le_of_ble_eq_true rfl, Nat.le_of_ble_eq_true rfl⟩ dX7_numberOfLoaf_95 rfl (fun r95 g95 h => ?_)
          exact v_iret o rfl hr dX7_numberOfLoaf_98 h
        · replace h := h.2 c10_3
          by_cases c10_4 : p2 = 4
          · replace h := h.1 c10_4
            refine v_tableIn o (off := 89) (tgt := 99) dX7_numberOfLoaf_10 (by rw [c10_4]; decide) (by rw [c10_4]; decide) (by rw [c10_4]; decide) (by decide) ?_
            refine v_aload_n o 0 dX7_numberOfLoaf_99 rfl ?_
            refine v_cVr o [] [] (fun sz => metX2_trace l G P f sz (atB (a + 4) p1) (is_atB (wfComp_t1 ha) p1)) (cwX7_124 o.1.2.2.2.2 (by decide)) ⟨_, _, rfl⟩ (by decide) (wfLoaf_o (is_atB (wfComp_t1 ha) p1)) rfl (Nat.le_of_ble_eq_true rfl) ⟨Nat.le_of_ble_eq_true rfl, Nat.le_of_ble_eq_true rfl⟩ dX7_numberOfLoaf_100 rfl (fun r100 g100 h100 => ?_)
            obtain ⟨rfl, rfl⟩ := h100
            refine v_cVi o [] [] (fun sz => metX5_ringsByJoining l G P f sz ((atB (a + 4) p1) + 7) (wfLoaf_t2 (is_atB (wfComp_t1 ha) p1)) _ h) (cwX7_301 o.1.2.2.2.2 (by decide)) ⟨_, _, rfl⟩ (by decide) (wfTrace_o (wfLoaf_t2 (is_atB (wfComp_t1 ha) p1))) rfl (Nat.le_of_ble_eq_true rfl) ⟨Nat.le_of_ble_eq_true rfl, Nat.le_of_ble_eq_true rfl⟩ dX7_numberOfLoaf_103 rfl (fun r103 g103 h => ?_)
            exact v_iret o rfl hr dX7_numberOfLoaf_106 h
          · replace h := h.2 c10_4
            by_cases c10_5 : p2 = 5
            · replace h := h.1 c10_5
              refine v_tableIn o (off := 97) (tgt := 107) dX7_numberOfLoaf_10 (by rw [c10_5]; decide) (by rw [c10_5]; decide) (by rw [c10_5]; decide) (by decide) ?_
              refine v_aload_n o 1 dX7_numberOfLoaf_107 rfl ?_
              refine v_gfR o lkX7_51 (by decide) (wfComp_o ha) (wfComp_r7 ha) dX7_numberOfLoaf_108 ?_
              refine v_aload_n o 0 dX7_numberOfLoaf_111 rfl ?_
              refine v_cVr o [] [.ref (a + 1435)] (fun sz => metX2_word l G P f sz (atB (a + 4) p1) (is_atB (wfComp_t1 ha) p1)) (cwX7_74 o.1.2.2.2.2 (by decide)) ⟨_, _, rfl⟩ (by decide) (wfLoaf_o (is_atB (wfComp_t1 ha) p1)) rfl (Nat.le_of_ble_eq_true rfl) ⟨Nat.le_of_ble_eq_true rfl, Nat.le_of_ble_eq_true rfl⟩ dX7_numberOfLoaf_112 rfl (fun r112 g112 h112 => ?_)
              obtain ⟨rfl, rfl⟩ := h112
              refine v_cVv o [.ref ((atB (a + 4) p1) + 1)] [] (fun sz => metX6_makeShortAtOnce l G P f sz (a + 1435) (wfComp_t7 ha) ((atB (a + 4) p1) + 1) (wfLoaf_t0 (is_atB (wfComp_t1 ha) p1)) _ h) (cwX7_304 o.1.2.2.2.2 (by decide)) ⟨_, _, rfl⟩ (by decide) (wfWord_o (wfComp_t7 ha)) rfl (Nat.le_of_ble_eq_true rfl) ⟨Nat.le_of_ble_eq_true rfl, Nat.le_of_ble_eq_true rfl⟩ dX7_numberOfLoaf_115 rfl (fun g115 h => ?_)
              refine v_aload_n o 1 dX7_numberOfLoaf_118 rfl ?_
              refine v_gfR o lkX7_51 (by decide) (wfComp_o ha) (wfComp_r7 ha) dX7_numberOfLoaf_119 ?_
              refine v_cVi o [] [] (fun sz => metX6_size l G P g115 sz (a + 1435) (wfComp_t7 ha) _ h) (cwX7_106 o.1.2.2.2.2 (by decide)) ⟨_, _, rfl⟩ (by decide) (wfWord_o (wfComp_t7 ha)) rfl (Nat.le_of_ble_eq_true rfl) ⟨Nat.le_of_ble_eq_true rfl, Nat.le_of_ble_eq_true rfl⟩ dX7_numberOfLoaf_122 rfl (fun r122 g122 h => ?_)
              exact v_iret o rfl hr dX7_numberOfLoaf_125 h
            · replace h := h.2 c10_5
              by_cases c10_6 : p2 = 6
              · replace h := h.1 c10_6
                refine v_tableIn o (off := 116) (tgt := 126) dX7_numberOfLoaf_10 (by rw [c10_6]; decide) (by rw [c10_6]; decide) (by rw [c10_6]; decide) (by decide) ?_
                refine v_aload_n o 1 dX7_numberOfLoaf_126 rfl ?_
                refine v_gfR o lkX7_51 (by decide) (wfComp_o ha) (wfComp_r7 ha) dX7_numberOfLoaf_127 ?_
                refine v_aload_n o 0 dX7_numberOfLoaf_130 rfl ?_
                refine v_cVr o [] [.ref (a + 1435)] (fun sz => metX2_word l G P f sz (atB (a + 4) p1) (is_atB (wfComp_t1 ha) p1)) (cwX7_74 o.1.2.2.2.2 (by decide)) ⟨_, _, rfl⟩ (by decide) (wfLoaf_o (is_atB (wfComp_t1 ha) p1)) rfl (Nat.le_of_ble_eq_true rfl) ⟨Nat.le_of_ble_eq_true rfl, Nat.le_of_ble_eq_true rfl⟩ dX7_numberOfLoaf_131 rfl (fun r131 g131 h131 => ?_)
                obtain ⟨rfl, rfl⟩ := h131
                refine v_cVv o [.ref ((atB (a + 4) p1) + 1)] [] (fun sz => metX6_makeShortByLooking l G P f sz (a + 1435) (wfComp_t7 ha) ((atB (a + 4) p1) + 1) (wfLoaf_t0 (is_atB (wfComp_t1 ha) p1)) _ h) (cwX7_307 o.1.2.2.2.2 (by decide)) ⟨_, _, rfl⟩ (by decide) (wfWord_o (wfComp_t7 ha)) rfl (Nat.le_of_ble_eq_true rfl) ⟨Nat.le_of_ble_eq_true rfl, Nat.le_of_ble_eq_true rfl⟩ dX7_numberOfLoaf_134 rfl (fun g134 h => ?_)
                refine v_aload_n o 1 dX7_numberOfLoaf_137 rfl ?_
                refine v_gfR o lkX7_51 (by decide) (wfComp_o ha) (wfComp_r7 ha) dX7_numberOfLoaf_138 ?_
                refine v_cVi o [] [] (fun sz => metX6_size l G P g134 sz (a + 1435) (wfComp_t7 ha) _ h) (cwX7_106 o.1.2.2.2.2 (by decide)) ⟨_, _, rfl⟩ (by decide) (wfWord_o (wfComp_t7 ha)) rfl (Nat.le_of_ble_eq_true rfl) ⟨Nat.le_of_ble_eq_true rfl, Nat.le_of_ble_eq_true rfl⟩ dX7_numberOfLoaf_141 rfl (fun r141 g141 h => ?_)
                exact v_iret o rfl hr dX7_numberOfLoaf_144 h
              · replace h := h.2 c10_6
                by_cases c10_7 : p2 = 7
                · replace h := h.1 c10_7
                  refine v_tableIn o (off := 135) (tgt := 145) dX7_numberOfLoaf_10 (by rw [c10_7]; decide) (by rw [c10_7]; decide) (by rw [c10_7]; decide) (by decide) ?_
                  refine v_aload_n o 0 dX7_numberOfLoaf_145 rfl ?_
                  refine v_cVr o [] [] (fun sz => metX2_looseWord l G P f sz (atB (a + 4) p1) (is_atB (wfComp_t1 ha) p1)) (cwX7_206 o.1.2.2.2.2 (by decide)) ⟨_, _, rfl⟩ (by decide) (wfLoaf_o (is_atB (wfComp_t1 ha) p1)) rfl (Nat.le_of_ble_eq_true rfl) ⟨Nat.le_of_ble_eq_true rfl, Nat.le_of_ble_eq_true rfl⟩ dX7_numberOfLoaf_146 rfl (fun r146 g146 h146 => ?_)
                  obtain ⟨rfl, rfl⟩ := h146
                  refine v_cVi o [] [] (fun sz => metX6_size l G P f sz ((atB (a + 4) p1) + 4) (wfLoaf_t1 (is_atB (wfComp_t1 ha) p1)) _ h) (cwX7_106 o.1.2.2.2.2 (by decide)) ⟨_, _, rfl⟩ (by decide) (wfWord_o (wfLoaf_t1 (is_atB (wfComp_t1 ha) p1))) rfl (Nat.le_of_ble_eq_true rfl) ⟨Nat.le_of_ble_eq_true rfl, Nat.le_of_ble_eq_true rfl⟩ dX7_numberOfLoaf_149 rfl (fun r149 g149 h => ?_)
                  exact v_iret o rfl hr dX7_numberOfLoaf_152 h
                · replace h := h.2 c10_7
                  by_cases c10_8 : p2 = 8
                  · replace h := h.1 c10_8
                    refine v_tableIn o (off := 143) (tgt := 153) dX7_numberOfLoaf_10 (by rw [c10_8]; decide) (by rw [c10_8]; decide) (by rw [c10_8]; decide) (by decide) ?_
                    refine v_aload_n o 0 dX7_numberOfLoaf_153 rfl ?_
                    refine v_cVr o [] [] (fun sz => metX2_trace l G P f sz (atB (a + 4) p1) (is_atB (wfComp_t1 ha) p1)) (cwX7_124 o.1.2.2.2.2 (by decide)) ⟨_, _, rfl⟩ (by decide) (wfLoaf_o (is_atB (wfComp_t1 ha) p1)) rfl (Nat.le_of_ble_eq_true rfl) ⟨Nat.le_of_ble_eq_true rfl, Nat.le_of_ble_eq_true rfl⟩ dX7_numberOfLoaf_154 rfl (fun r154 g154 h154 => ?_)
                    obtain ⟨rfl, rfl⟩ := h154
                    refine v_cVi o [] [] (fun sz => metX5_areAllHome l G P f sz ((atB (a + 4) p1) + 7) (wfLoaf_t2 (is_atB (wfComp_t1 ha) p1)) _ h) (cwX7_310 o.1.2.2.2.2 (by decide)) ⟨_, _, rfl⟩ (by decide) (wfTrace_o (wfLoaf_t2 (is_atB (wfComp_t1 ha) p1))) rfl (Nat.le_of_ble_eq_true rfl) ⟨Nat.le_of_ble_eq_true rfl, Nat.le_of_ble_eq_true rfl⟩ dX7_numberOfLoaf_157 rfl (fun r157 g157 h => ?_)
                    refine v_if_eq o (tgt := 167) dX7_numberOfLoaf_160 (by decide) (fun c160 => ?_) (fun c160 => ?_)
                    · replace h := h.1 c160
                      refine v_iconst o (v := 0) dX7_numberOfLoaf_167 (by decide) ?_
                      exact v_iret o rfl hr dX7_numberOfLoaf_168 h
                    · replace h := h.2 c160
                      refine v_iconst o (v := 1) dX7_numberOfLoaf_163 (by decide) ?_
                      refine v_goto o (tgt := 168) dX7_numberOfLoaf_164 (by decide) ?_
                      exact v_iret o rfl hr dX7_numberOfLoaf_168 h
                  · replace h := h.2 c10_8
                    by_cases c10_9 : p2 = 9
                    · replace h := h.1 c10_9
                      refine v_tableIn o (off := 159) (tgt := 169) dX7_numberOfLoaf_10 (by rw [c10_9]; decide) (by rw [c10_9]; decide) (by rw [c10_9]; decide) (by decide) ?_
                      refine v_aload_n o 0 dX7_numberOfLoaf_169 rfl ?_
                      refine v_cVr o [] [] (fun sz => metX2_trace l G P f sz (atB (a + 4) p1) (is_atB (wfComp_t1 ha) p1)) (cwX7_124 o.1.2.2.2.2 (by decide)) ⟨_, _, rfl⟩ (by decide) (wfLoaf_o (is_atB (wfComp_t1 ha) p1)) rfl (Nat.le_of_ble_eq_true rfl) ⟨Nat.le_of_ble_eq_true rfl, Nat.le_of_ble_eq_true rfl⟩ dX7_numberOfLoaf_170 rfl (fun r170 g170 h170 => ?_)
                      obtain ⟨rfl, rfl⟩ := h170
                      refine v_cVi o [] [] (fun sz => metX5_mostHidden l G P f sz ((atB (a + 4) p1) + 7) (wfLoaf_t2 (is_atB (wfComp_t1 ha) p1)) _ h) (cwX7_313 o.1.2.2.2.2 (by decide)) ⟨_, _, rfl⟩ (by decide) (wfTrace_o (wfLoaf_t2 (is_atB (wfComp_t1 ha) p1))) rfl (Nat.le_of_ble_eq_true rfl) ⟨Nat.le_of_ble_eq_true rfl, Nat.le_of_ble_eq_true rfl⟩ dX7_numberOfLoaf_173 rfl (fun r173 g173 h => ?_)
                      exact v_iret o rfl hr dX7_numberOfLoaf_176 h
                    · replace h := h.2 c10_9
                      refine v_tableOut o (tgt := 177) dX7_numberOfLoaf_10 (by have q0 := lv_neT c10_0 (a := 0) (by decide); have q1 := lv_neT c10_1 (a := 1) (by decide); have q2 := lv_neT c10_2 (a := 2) (by decide); have q3 := lv_neT c10_3 (a := 3) (by decide); have q4 := lv_neT c10_4 (a := 4) (by decide); have q5 := lv_neT c10_5 (a := 5) (by decide); have q6 := lv_neT c10_6 (a := 6) (by decide); have q7 := lv_neT c10_7 (a := 7) (by decide); have q8 := lv_neT c10_8 (a := 8) (by decide); have q9 := lv_neT c10_9 (a := 9) (by decide); omega) (by decide) ?_
                      refine v_aload_n o 1 dX7_numberOfLoaf_177 rfl ?_
                      refine v_iload_n o 2 dX7_numberOfLoaf_178 rfl ?_
                      refine v_cVi o [.int p1] [] (fun sz => metX7_firstAlike l G P f sz a ha p1 _ h) (cwX7_316 o.1.2.2.2.2 (by decide)) ⟨_, _, rfl⟩ (by decide) (wfComp_o ha) rfl (Nat.le_of_ble_eq_true rfl) ⟨Nat.le_of_ble_eq_true rfl, Nat.le_of_ble_eq_true rfl⟩ dX7_numberOfLoaf_179 rfl (fun r179 g179 h => ?_)
                      exact v_iret o rfl hr dX7_numberOfLoaf_182 h
abbrev kX7_numberOfLoaf := @vX7_numberOfLoaf
abbrev metX7_numberOfLoaf := @mX7_numberOfLoaf

def vX7_loaf (P : Sk) (f : St) (a : Nat) (p1 : Int32) (p2 : Int32) (K : Int32 → St → Prop) (X : String → St → Prop) : Prop :=
  kX7_needLoaf P f a p1 (fun g2 => kX7_needUpTo P g2 p2 10 (fun g8 => kX7_numberOfLoaf P g8 a p1 p2 (fun r14 g14 => K r14 g14)) X) X
abbrev rxX7_loaf : Room := { frames := 7, cells := 2, slots := 12, locals := 157 }
set_option maxRecDepth 20000 in
set_option maxHeartbeats 4000000 in
theorem mX7_loaf (l : Launch) (hl : l.stackTraces = false) (G : Gl) (P : Sk) (f : St) (sz : Nat) (a : Nat) (ha : IsComp P a) (p1 : Int32) (p2 : Int32) (K : Int32 → St → Prop) (X : String → St → Prop) (h : vX7_loaf P f a p1 p2 K X)  :
  vx_Met l yX7_loaf (wU yX7_loaf cX7_loaf 3 (some .int)) rxX7_loaf (PcX G P f sz [.ref a, .int p1, .int p2]) (QcI G P sz K) (XX G P sz X) 2 12 (frA P sz) := by
  refine v_metx (own := RX7) [.ref a, .int p1, .int p2] (by decide) rfl (Nat.le_of_ble_eq_true rfl) (fun p e s m args below meth c hsz o hr hT hno => ?_)
  refine v_lv (lv2 := [(0, .ref a), (1, .int p1), (2, .int p2)]) rfl ?_
  unfold vX7_loaf at h
  refine v_aload_n o 0 dX7_loaf_0 rfl ?_
  refine v_iload_n o 1 dX7_loaf_1 rfl ?_
  refine v_cxVv o hT hno [.int p1] [] rfl (fun sz => metX7_needLoaf l hl G P f sz a ha p1 _ _ h) (cxX7_98 o.1.2.2.2.2 (by decide)) ⟨_, _, rfl⟩ (by decide) (wfComp_o ha) rfl (Nat.le_of_ble_eq_true rfl) ⟨Nat.le_of_ble_eq_true rfl, Nat.le_of_ble_eq_true rfl⟩ ⟨Nat.le_of_ble_eq_true rfl, Nat.le_of_ble_eq_true rfl⟩ dX7_loaf_2 rfl (fun g2 h => ?_)
  refine v_iload_n o 2 dX7_loaf_5 rfl ?_
  refine v_bipush o (v := 10) dX7_loaf_6 (by decide) ?_
  refine v_cxSv o hT hno [.int p2, .int 10] [] rfl (fun sz => metX7_needUpTo l hl G P g2 sz p2 10 _ _ h) (cxX7_137 o.1.2.2.2.2 (by decide)) rfl (Nat.le_of_ble_eq_true rfl) ⟨Nat.le_of_ble_eq_true rfl, Nat.le_of_ble_eq_true rfl⟩ ⟨Nat.le_of_ble_eq_true rfl, Nat.le_of_ble_eq_true rfl⟩ dX7_loaf_8 rfl (fun g8 h => ?_)
  refine v_aload_n o 0 dX7_loaf_11 rfl ?_
  refine v_iload_n o 1 dX7_loaf_12 rfl ?_
  refine v_iload_n o 2 dX7_loaf_13 rfl ?_
  refine v_cVi o [.int p1, .int p2] [] (fun sz => metX7_numberOfLoaf l G P g8 sz a ha p1 p2 _ h) (cwX7_203 o.1.2.2.2.2 (by decide)) ⟨_, _, rfl⟩ (by decide) (wfComp_o ha) rfl (Nat.le_of_ble_eq_true rfl) ⟨Nat.le_of_ble_eq_true rfl, Nat.le_of_ble_eq_true rfl⟩ dX7_loaf_14 rfl (fun r14 g14 h => ?_)
  exact v_xret (Nat.le_of_ble_eq_true rfl) (Nat.le_of_ble_eq_true rfl) (v_iret o rfl hr dX7_loaf_17 h)
theorem cxL_59 {R : Room} {s : State} {args : Array Value} (ht : ∀ w ∈ lw_U, w.before args s = true) (hR : rxX7_loaf.frames + 1 ≤ R.frames ∧ 8 + (3 + 11) + rxX7_loaf.locals ≤ R.locals) : CallW R s args RL RX7 59 yX7_loaf cX7_loaf 3 (some .int) (wU yX7_loaf cX7_loaf 3 (some .int)) rxX7_loaf 2 12 2 := cwV 2 ht (gUV (mU 957 (by decide +kernel) rfl) (mU 958 (by decide +kernel) rfl) (mU 959 (by decide +kernel) rfl) (mU 82 (by decide +kernel) rfl) (mU 960 (by decide +kernel) rfl)) rfl rfl rfl ⟨rfl, by decide +kernel, by decide +kernel, by decide +kernel⟩ hR
abbrev kX7_loaf := @vX7_loaf
abbrev metX7_loaf := @mX7_loaf

def vX7_loose (P : Sk) (f : St) (a : Nat) (p1 : Int32) (p2 : Int32) (K : Int32 → St → Prop) (X : String → St → Prop) : Prop :=
  kX7_needLoaf P f a p1 (fun g2 => kX7_needUpTo P g2 p2 23 (fun g8 => kX6_size P g8 ((atB (a + 4) p1) + 4) (fun r25 g25 => (r25 ≤ p2 → K (-1) g25) ∧ (¬ r25 ≤ p2 → kX6_codeAt P g25 ((atB (a + 4) p1) + 4) p2 (fun r33 g33 => K r33 g33)))) X) X
abbrev rxX7_loose : Room := { frames := 7, cells := 2, slots := 12, locals := 111 }
set_option maxRecDepth 20000 in
set_option maxHeartbeats 4000000 in
theorem mX7_loose (l : Launch) (hl : l.stackTraces = false) (G : Gl) (P : Sk) (f : St) (sz : Nat) (a : Nat) (ha : IsComp P a) (p1 : Int32) (p2 : Int32) (K : Int32 → St → Prop) (X : String → St → Prop) (h : vX7_loose P f a p1 p2 K X)  :
  vx_Met l yX7_loose (wU yX7_loose cX7_loose 4 (some .int)) rxX7_loose (PcX G P f sz [.ref a, .int p1, .int p2]) (QcI G P sz K) (XX G P sz X) 2 12 (frA P sz) := by
  refine v_metx (own := RX7) [.ref a, .int p1, .int p2] (by decide) rfl (Nat.le_of_ble_eq_true rfl) (fun p e s m args below meth c hsz o hr hT hno => ?_)
  refine v_lv (lv2 := [(0, .ref a), (1, .int p1), (2, .int p2)]) rfl ?_
  unfold vX7_loose at h
  refine v_aload_n o 0 dX7_loose_0 rfl ?_
  refine v_iload_n o 1 dX7_loose_1 rfl ?_
  refine v_cxVv o hT hno [.int p1] [] rfl (fun sz => metX7_needLoaf l hl G P f sz a ha p1 _ _ h) (cxX7_98 o.1.2.2.2.2 (by decide)) ⟨_, _, rfl⟩ (by decide) (wfComp_o ha) rfl (Nat.le_of_ble_eq_true rfl) ⟨Nat.le_of_ble_eq_true rfl, Nat.le_of_ble_eq_true rfl⟩ ⟨Nat.le_of_ble_eq_true rfl, Nat.le_of_ble_eq_true rfl⟩ dX7_loose_2 rfl (fun g2 h => ?_)
  refine v_iload_n o 2 dX7_loose_5 rfl ?_
  refine v_bipush o (v := 23) dX7_loose_6 (by decide) ?_
  refine v_cxSv o hT hno [.int p2, .int 23] [] rfl (fun sz => metX7_needUpTo l hl G P g2 sz p2 23 _ _ h) (cxX7_137 o.1.2.2.2.2 (by decide)) rfl (Nat.le_of_ble_eq_true rfl) ⟨Nat.le_of_ble_eq_true rfl, Nat.le_of_ble_eq_true rfl⟩ ⟨Nat.le_of_ble_eq_true rfl, Nat.le_of_ble_eq_true rfl⟩ dX7_loose_8 rfl (fun g8 h => ?_)
  refine v_aload_n o 0 dX7_loose_11 rfl ?_
  refine v_gfR o lkX7_19 (by decide) (wfComp_o ha) (wfComp_r1 ha) dX7_loose_12 ?_
  refine v_iload_n o 1 dX7_loose_15 rfl ?_
  refine v_cVr o [.int p1] [] (fun sz => metX0_at l G P g8 sz (a + 4) (wfComp_t1 ha) p1) (cwX7_102 o.1.2.2.2.2 (by decide)) ⟨_, _, rfl⟩ (by decide) (wfBoard_o (wfComp_t1 ha)) rfl (Nat.le_of_ble_eq_true rfl) ⟨Nat.le_of_ble_eq_true rfl, Nat.le_of_ble_eq_true rfl⟩ dX7_loose_16 rfl (fun r16 g16 h16 => ?_)
  obtain ⟨rfl, rfl⟩ := h16
  refine v_cVr o [] [] (fun sz => metX2_looseWord l G P g8 sz (atB (a + 4) p1) (is_atB (wfComp_t1 ha) p1)) (cwX7_206 o.1.2.2.2.2 (by decide)) ⟨_, _, rfl⟩ (by decide) (wfLoaf_o (is_atB (wfComp_t1 ha) p1)) rfl (Nat.le_of_ble_eq_true rfl) ⟨Nat.le_of_ble_eq_true rfl, Nat.le_of_ble_eq_true rfl⟩ dX7_loose_19 rfl (fun r19 g19 h19 => ?_)
  obtain ⟨rfl, rfl⟩ := h19
  refine v_astore_n o (lv' := [(3, .ref ((atB (a + 4) p1) + 4)), (0, .ref a), (1, .int p1), (2, .int p2)]) dX7_loose_22 rfl (by decide) rfl ?_
  refine v_iload_n o 3 dX7_loose_23 rfl ?_
  refine v_aload_n o 0 dX7_loose_24 rfl ?_
  refine v_cVi o [] [.int p2] (fun sz => metX6_size l G P g8 sz ((atB (a + 4) p1) + 4) (wfLoaf_t1 (is_atB (wfComp_t1 ha) p1)) _ h) (cwX7_106 o.1.2.2.2.2 (by decide)) ⟨_, _, rfl⟩ (by decide) (wfWord_o (wfLoaf_t1 (is_atB (wfComp_t1 ha) p1))) rfl (Nat.le_of_ble_eq_true rfl) ⟨Nat.le_of_ble_eq_true rfl, Nat.le_of_ble_eq_true rfl⟩ dX7_loose_25 rfl (fun r25 g25 h => ?_)
  refine v_icmp_ge o (tgt := 39) dX7_loose_28 (by decide) (fun c28 => ?_) (fun c28 => ?_)
  · replace h := h.1 c28
    refine v_iconst o (v := (-1)) dX7_loose_39 (by decide) ?_
    exact v_xret (Nat.le_of_ble_eq_true rfl) (Nat.le_of_ble_eq_true rfl) (v_iret o rfl hr dX7_loose_40 h)
  · replace h := h.2 c28
    refine v_aload_n o 0 dX7_loose_31 rfl ?_
    refine v_iload_n o 3 dX7_loose_32 rfl ?_
    refine v_cVi o [.int p2] [] (fun sz => metX6_codeAt l G P g25 sz ((atB (a + 4) p1) + 4) (wfLoaf_t1 (is_atB (wfComp_t1 ha) p1)) p2 _ h) (cwX7_209 o.1.2.2.2.2 (by decide)) ⟨_, _, rfl⟩ (by decide) (wfWord_o (wfLoaf_t1 (is_atB (wfComp_t1 ha) p1))) rfl (Nat.le_of_ble_eq_true rfl) ⟨Nat.le_of_ble_eq_true rfl, Nat.le_of_ble_eq_true rfl⟩ dX7_loose_33 rfl (fun r33 g33 h => ?_)
    refine v_goto o (tgt := 40) dX7_loose_36 (by decide) ?_
    exact v_xret (Nat.le_of_ble_eq_true rfl) (Nat.le_of_ble_eq_true rfl) (v_iret o rfl hr dX7_loose_40 h)
theorem cxL_62 {R : Room} {s : State} {args : Array Value} (ht : ∀ w ∈ lw_U, w.before args s = true) (hR : rxX7_loose.frames + 1 ≤ R.frames ∧ 8 + (4 + 11) + rxX7_loose.locals ≤ R.locals) : CallW R s args RL RX7 62 yX7_loose cX7_loose 4 (some .int) (wU yX7_loose cX7_loose 4 (some .int)) rxX7_loose 2 12 2 := cwV 2 ht (gUV (mU 964 (by decide +kernel) rfl) (mU 965 (by decide +kernel) rfl) (mU 966 (by decide +kernel) rfl) (mU 82 (by decide +kernel) rfl) (mU 967 (by decide +kernel) rfl)) rfl rfl rfl ⟨rfl, by decide +kernel, by decide +kernel, by decide +kernel⟩ hR
abbrev kX7_loose := @vX7_loose
abbrev metX7_loose := @mX7_loose

def bX7_crossingsOfAll_4 (P : Sk) (a : Nat) (L4 : St → Int32 → Int32 → Prop) (K : Int32 → St → Prop) (f : St) (x1 : Int32) (x2 : Int32) : Prop :=
  kX0_size P f (a + 4) (fun r9 g9 => (r9 ≤ x2 → K x1 g9) ∧ (¬ r9 ≤ x2 → kX6_size P g9 ((atB (a + 4) x2) + 1) (fun r27 g27 => ∀ x1_31 : Int32, x1_31 = x1 + r27 → ∀ x2_32 : Int32, x2_32 = x2 + 1 → L4 g27 x1_31 x2_32)))
def vX7_crossingsOfAll (P : Sk) (f : St) (a : Nat) (L4 : St → Int32 → Int32 → Prop) (K : Int32 → St → Prop) : Prop :=
  L4 f 0 0
set_option maxRecDepth 20000 in
set_option maxHeartbeats 4000000 in
theorem mX7_crossingsOfAll (l : Launch) (G : Gl) (P : Sk) (f : St) (sz : Nat) (a : Nat) (ha : IsComp P a) (K : Int32 → St → Prop) (I4 : St → Int32 → Int32 → Prop) (μ4 : St → Int32 → Int32 → Nat) 
  (h : vX7_crossingsOfAll P f a I4 K)
  (h4 : ∀ (g : St) (x1 : Int32) (x2 : Int32) , I4 g x1 x2 → bX7_crossingsOfAll_4 P a (fun g' z0 z1 => I4 g' z0 z1 ∧ μ4 g' z0 z1 < μ4 g x1 x2) K g x1 x2) :
  Met l yX7_crossingsOfAll (wU yX7_crossingsOfAll cX7_crossingsOfAll 3 (some .int)) rmX7_crossingsOfAll (PcW G P f sz [.ref a]) (QcI G P sz K) 0 0 (frA P sz) := by
  refine v_met (own := RX7) [.ref a] (by decide +kernel) rfl (Nat.le_of_ble_eq_true rfl) (fun p e s m args below meth c hsz o hr hnm => ?_)
  refine v_lv (lv2 := [(0, .ref a)]) rfl ?_
  have main : ∀ n : Nat, (∀ (g : St) (x1 : Int32) (x2 : Int32) , I4 g x1 x2 → μ4 g x1 x2 < n → V p l e rmX7_crossingsOfAll s m args below meth c 3 G (frA P sz) (MQ below (QcI G P sz K) args s 0 0 (frA P sz)) 0 0 P [(0, .ref a), (1, .int x1), (2, .int x2)] [] 4 g) := by
    intro n
    induction n with
    | zero => exact fun g x1 x2 hI hm => absurd hm (Nat.not_lt_zero _)
    | succ n ih =>
      intro g x1 x2 hI hm
      have h := h4 g x1 x2 hI
      clear hI
      unfold bX7_crossingsOfAll_4 at h
      refine v_iload_n o 2 dX7_crossingsOfAll_4 rfl ?_
      refine v_aload_n o 0 dX7_crossingsOfAll_5 rfl ?_
      refine v_gfR o lkX7_19 (by decide) (wfComp_o ha) (wfComp_r1 ha) dX7_crossingsOfAll_6 ?_
      refine v_cVi o [] [.int x2] (fun sz => metX0_size l G P g sz (a + 4) (wfComp_t1 ha) _ h) (cwX7_65 o.1.2.2.2.2 (by decide)) ⟨_, _, rfl⟩ (by decide) (wfBoard_o (wfComp_t1 ha)) rfl (Nat.le_of_ble_eq_true rfl) ⟨Nat.le_of_ble_eq_true rfl, Nat.le_of_ble_eq_true rfl⟩ dX7_crossingsOfAll_9 rfl (fun r9 g9 h => ?_)
      refine v_icmp_ge o (tgt := 38) dX7_crossingsOfAll_12 (by decide) (fun c12 => ?_) (fun c12 => ?_)
      · replace h := h.1 c12
        refine v_iload_n o 1 dX7_crossingsOfAll_38 rfl ?_
        exact v_iret o rfl hr dX7_crossingsOfAll_39 h
      · replace h := h.2 c12
        refine v_iload_n o 1 dX7_crossingsOfAll_15 rfl ?_
        refine v_aload_n o 0 dX7_crossingsOfAll_16 rfl ?_
        refine v_gfR o lkX7_19 (by decide) (wfComp_o ha) (wfComp_r1 ha) dX7_crossingsOfAll_17 ?_
        refine v_iload_n o 2 dX7_crossingsOfAll_20 rfl ?_
        refine v_cVr o [.int x2] [.int x1] (fun sz => metX0_at l G P g9 sz (a + 4) (wfComp_t1 ha) x2) (cwX7_102 o.1.2.2.2.2 (by decide)) ⟨_, _, rfl⟩ (by decide) (wfBoard_o (wfComp_t1 ha)) rfl (Nat.le_of_ble_eq_true rfl) ⟨Nat.le_of_ble_eq_true rfl, Nat.le_of_ble_eq_true rfl⟩ dX7_crossingsOfAll_21 rfl (fun r21 g21 h21 => ?_)
        obtain ⟨rfl, rfl⟩ := h21
        refine v_cVr o [] [.int x1] (fun sz => metX2_word l G P g9 sz (atB (a + 4) x2) (is_atB (wfComp_t1 ha) x2)) (cwX7_74 o.1.2.2.2.2 (by decide)) ⟨_, _, rfl⟩ (by decide) (wfLoaf_o (is_atB (wfComp_t1 ha) x2)) rfl (Nat.le_of_ble_eq_true rfl) ⟨Nat.le_of_ble_eq_true rfl, Nat.le_of_ble_eq_true rfl⟩ dX7_crossingsOfAll_24 rfl (fun r24 g24 h24 => ?_)
        obtain ⟨rfl, rfl⟩ := h24
        refine v_cVi o [] [.int x1] (fun sz => metX6_size l G P g9 sz ((atB (a + 4) x2) + 1) (wfLoaf_t0 (is_atB (wfComp_t1 ha) x2)) _ h) (cwX7_106 o.1.2.2.2.2 (by decide)) ⟨_, _, rfl⟩ (by decide) (wfWord_o (wfLoaf_t0 (is_atB (wfComp_t1 ha) x2))) rfl (Nat.le_of_ble_eq_true rfl) ⟨Nat.le_of_ble_eq_true rfl, Nat.le_of_ble_eq_true rfl⟩ dX7_crossingsOfAll_27 rfl (fun r27 g27 h => ?_)
        refine v_iadd o dX7_crossingsOfAll_30 ?_
        refine v_topi (fun x1_31 ex1_31 => ?_)
        replace h := h x1_31 ex1_31
        refine v_istore_n o (lv' := [(1, .int x1_31), (0, .ref a), (2, .int x2)]) dX7_crossingsOfAll_31 rfl (by decide) rfl ?_
        obtain ⟨x2_32, ex2_32⟩ : ∃ y : Int32, y = x2 + 1 := ⟨_, rfl⟩
        replace h := h x2_32 ex2_32
        refine v_iinc o (v := x2_32) (lv' := [(2, .int x2_32), (1, .int x1_31), (0, .ref a)]) 2 dX7_crossingsOfAll_32 rfl (by rw [ex2_32]; rfl) (by decide) rfl ?_
        refine v_goto o (tgt := 4) dX7_crossingsOfAll_35 (by decide) ?_
        refine v_sub [2, 1, 0] (lv2 := [(0, .ref a), (1, .int x1_31), (2, .int x2_32)]) rfl ?_
        exact ih g27 x1_31 x2_32  h.1 (by have := h.2; omega)
  unfold vX7_crossingsOfAll at h
  refine v_iconst o (v := 0) dX7_crossingsOfAll_0 (by decide) ?_
  refine v_istore_n o (lv' := [(1, .int 0), (0, .ref a)]) dX7_crossingsOfAll_1 rfl (by decide) rfl ?_
  refine v_iconst o (v := 0) dX7_crossingsOfAll_2 (by decide) ?_
  refine v_istore_n o (lv' := [(2, .int 0), (1, .int 0), (0, .ref a)]) dX7_crossingsOfAll_3 rfl (by decide) rfl ?_
  refine v_sub [2, 1, 0] (lv2 := [(0, .ref a), (1, .int 0), (2, .int 0)]) rfl ?_
  exact (main (μ4 f 0 0 + 1)) f 0 0  h (Nat.lt_succ_self _)
def kX7_crossingsOfAll (P : Sk) (f : St) (a : Nat) (K : Int32 → St → Prop) : Prop := False
theorem metX7_crossingsOfAll (l : Launch) (G : Gl) (P : Sk) (f : St) (sz : Nat) (a : Nat) (ha : IsComp P a) (K : Int32 → St → Prop) (h : kX7_crossingsOfAll P f a K) : Met l yX7_crossingsOfAll (wU yX7_crossingsOfAll cX7_crossingsOfAll 3 (some .int)) rmX7_crossingsOfAll (PcW G P f sz [.ref a]) (QcI G P sz K) 0 0 (frA P sz) := sorry

def bX7_doughUsedByStrands_4 (P : Sk) (a : Nat) (L4 : St → Int32 → Int32 → Prop) (K : Int32 → St → Prop) (f : St) (x1 : Int32) (x2 : Int32) : Prop :=
  kX0_size P f (a + 4) (fun r9 g9 => (r9 ≤ x2 → K x1 g9) ∧ (¬ r9 ≤ x2 → kX5_doughUsedByAll P g9 ((atB (a + 4) x2) + 7) (fun r27 g27 => ∀ x1_31 : Int32, x1_31 = x1 + r27 → ∀ x2_32 : Int32, x2_32 = x2 + 1 → L4 g27 x1_31 x2_32)))
def vX7_doughUsedByStrands (P : Sk) (f : St) (a : Nat) (L4 : St → Int32 → Int32 → Prop) (K : Int32 → St → Prop) : Prop :=
  L4 f 0 0
set_option maxRecDepth 20000 in
set_option maxHeartbeats 4000000 in
theorem mX7_doughUsedByStrands (l : Launch) (G : Gl) (P : Sk) (f : St) (sz : Nat) (a : Nat) (ha : IsComp P a) (K : Int32 → St → Prop) (I4 : St → Int32 → Int32 → Prop) (μ4 : St → Int32 → Int32 → Nat) 
  (h : vX7_doughUsedByStrands P f a I4 K)
  (h4 : ∀ (g : St) (x1 : Int32) (x2 : Int32) , I4 g x1 x2 → bX7_doughUsedByStrands_4 P a (fun g' z0 z1 => I4 g' z0 z1 ∧ μ4 g' z0 z1 < μ4 g x1 x2) K g x1 x2) :
  Met l yX7_doughUsedByStrands (wU yX7_doughUsedByStrands cX7_doughUsedByStrands 3 (some .int)) rmX7_doughUsedByStrands (PcW G P f sz [.ref a]) (QcI G P sz K) 0 0 (frA P sz) := by
  refine v_met (own := RX7) [.ref a] (by decide +kernel) rfl (Nat.le_of_ble_eq_true rfl) (fun p e s m args below meth c hsz o hr hnm => ?_)
  refine v_lv (lv2 := [(0, .ref a)]) rfl ?_
  have main : ∀ n : Nat, (∀ (g : St) (x1 : Int32) (x2 : Int32) , I4 g x1 x2 → μ4 g x1 x2 < n → V p l e rmX7_doughUsedByStrands s m args below meth c 3 G (frA P sz) (MQ below (QcI G P sz K) args s 0 0 (frA P sz)) 0 0 P [(0, .ref a), (1, .int x1), (2, .int x2)] [] 4 g) := by
    intro n
    induction n with
    | zero => exact fun g x1 x2 hI hm => absurd hm (Nat.not_lt_zero _)
    | succ n ih =>
      intro g x1 x2 hI hm
      have h := h4 g x1 x2 hI
      clear hI
      unfold bX7_doughUsedByStrands_4 at h
      refine v_iload_n o 2 dX7_doughUsedByStrands_4 rfl ?_
      refine v_aload_n o 0 dX7_doughUsedByStrands_5 rfl ?_
      refine v_gfR o lkX7_19 (by decide) (wfComp_o ha) (wfComp_r1 ha) dX7_doughUsedByStrands_6 ?_
      refine v_cVi o [] [.int x2] (fun sz => metX0_size l G P g sz (a + 4) (wfComp_t1 ha) _ h) (cwX7_65 o.1.2.2.2.2 (by decide)) ⟨_, _, rfl⟩ (by decide) (wfBoard_o (wfComp_t1 ha)) rfl (Nat.le_of_ble_eq_true rfl) ⟨Nat.le_of_ble_eq_true rfl, Nat.le_of_ble_eq_true rfl⟩ dX7_doughUsedByStrands_9 rfl (fun r9 g9 h => ?_)
      refine v_icmp_ge o (tgt := 38) dX7_doughUsedByStrands_12 (by decide) (fun c12 => ?_) (fun c12 => ?_)
      · replace h := h.1 c12
        refine v_iload_n o 1 dX7_doughUsedByStrands_38 rfl ?_
        exact v_iret o rfl hr dX7_doughUsedByStrands_39 h
      · replace h := h.2 c12
        refine v_iload_n o 1 dX7_doughUsedByStrands_15 rfl ?_
        refine v_aload_n o 0 dX7_doughUsedByStrands_16 rfl ?_
        refine v_gfR o lkX7_19 (by decide) (wfComp_o ha) (wfComp_r1 ha) dX7_doughUsedByStrands_17 ?_
        refine v_iload_n o 2 dX7_doughUsedByStrands_20 rfl ?_
        refine v_cVr o [.int x2] [.int x1] (fun sz => metX0_at l G P g9 sz (a + 4) (wfComp_t1 ha) x2) (cwX7_102 o.1.2.2.2.2 (by decide)) ⟨_, _, rfl⟩ (by decide) (wfBoard_o (wfComp_t1 ha)) rfl (Nat.le_of_ble_eq_true rfl) ⟨Nat.le_of_ble_eq_true rfl, Nat.le_of_ble_eq_true rfl⟩ dX7_doughUsedByStrands_21 rfl (fun r21 g21 h21 => ?_)
        obtain ⟨rfl, rfl⟩ := h21
        refine v_cVr o [] [.int x1] (fun sz => metX2_trace l G P g9 sz (atB (a + 4) x2) (is_atB (wfComp_t1 ha) x2)) (cwX7_124 o.1.2.2.2.2 (by decide)) ⟨_, _, rfl⟩ (by decide) (wfLoaf_o (is_atB (wfComp_t1 ha) x2)) rfl (Nat.le_of_ble_eq_true rfl) ⟨Nat.le_of_ble_eq_true rfl, Nat.le_of_ble_eq_true rfl⟩ dX7_doughUsedByStrands_24 rfl (fun r24 g24 h24 => ?_)
        obtain ⟨rfl, rfl⟩ := h24
        refine v_cVi o [] [.int x1] (fun sz => metX5_doughUsedByAll l G P g9 sz ((atB (a + 4) x2) + 7) (wfLoaf_t2 (is_atB (wfComp_t1 ha) x2)) _ h) (cwX7_328 o.1.2.2.2.2 (by decide)) ⟨_, _, rfl⟩ (by decide) (wfTrace_o (wfLoaf_t2 (is_atB (wfComp_t1 ha) x2))) rfl (Nat.le_of_ble_eq_true rfl) ⟨Nat.le_of_ble_eq_true rfl, Nat.le_of_ble_eq_true rfl⟩ dX7_doughUsedByStrands_27 rfl (fun r27 g27 h => ?_)
        refine v_iadd o dX7_doughUsedByStrands_30 ?_
        refine v_topi (fun x1_31 ex1_31 => ?_)
        replace h := h x1_31 ex1_31
        refine v_istore_n o (lv' := [(1, .int x1_31), (0, .ref a), (2, .int x2)]) dX7_doughUsedByStrands_31 rfl (by decide) rfl ?_
        obtain ⟨x2_32, ex2_32⟩ : ∃ y : Int32, y = x2 + 1 := ⟨_, rfl⟩
        replace h := h x2_32 ex2_32
        refine v_iinc o (v := x2_32) (lv' := [(2, .int x2_32), (1, .int x1_31), (0, .ref a)]) 2 dX7_doughUsedByStrands_32 rfl (by rw [ex2_32]; rfl) (by decide) rfl ?_
        refine v_goto o (tgt := 4) dX7_doughUsedByStrands_35 (by decide) ?_
        refine v_sub [2, 1, 0] (lv2 := [(0, .ref a), (1, .int x1_31), (2, .int x2_32)]) rfl ?_
        exact ih g27 x1_31 x2_32  h.1 (by have := h.2; omega)
  unfold vX7_doughUsedByStrands at h
  refine v_iconst o (v := 0) dX7_doughUsedByStrands_0 (by decide) ?_
  refine v_istore_n o (lv' := [(1, .int 0), (0, .ref a)]) dX7_doughUsedByStrands_1 rfl (by decide) rfl ?_
  refine v_iconst o (v := 0) dX7_doughUsedByStrands_2 (by decide) ?_
  refine v_istore_n o (lv' := [(2, .int 0), (1, .int 0), (0, .ref a)]) dX7_doughUsedByStrands_3 rfl (by decide) rfl ?_
  refine v_sub [2, 1, 0] (lv2 := [(0, .ref a), (1, .int 0), (2, .int 0)]) rfl ?_
  exact (main (μ4 f 0 0 + 1)) f 0 0  h (Nat.lt_succ_self _)
def kX7_doughUsedByStrands (P : Sk) (f : St) (a : Nat) (K : Int32 → St → Prop) : Prop := False
theorem metX7_doughUsedByStrands (l : Launch) (G : Gl) (P : Sk) (f : St) (sz : Nat) (a : Nat) (ha : IsComp P a) (K : Int32 → St → Prop) (h : kX7_doughUsedByStrands P f a K) : Met l yX7_doughUsedByStrands (wU yX7_doughUsedByStrands cX7_doughUsedByStrands 3 (some .int)) rmX7_doughUsedByStrands (PcW G P f sz [.ref a]) (QcI G P sz K) 0 0 (frA P sz) := sorry

def jX7_kinds_27 (P : Sk) (a : Nat) (L4 : St → Int32 → Int32 → Prop) (K : Int32 → St → Prop) (x1 : Int32) (x2 : Int32) (f : St) : Prop :=
  ∀ x2_27 : Int32, x2_27 = x2 + 1 → L4 f x1 x2_27
def bX7_kinds_4 (P : Sk) (a : Nat) (L4 : St → Int32 → Int32 → Prop) (K : Int32 → St → Prop) (f : St) (x1 : Int32) (x2 : Int32) : Prop :=
  kX0_size P f (a + 4) (fun r9 g9 => (r9 ≤ x2 → K x1 g9) ∧ (¬ r9 ≤ x2 → kX7_firstAlike P g9 a x2 (fun r17 g17 => (¬ r17 = x2 → jX7_kinds_27 P a L4 K x1 x2 g17) ∧ (r17 = x2 → ∀ x1_24 : Int32, x1_24 = x1 + 1 → jX7_kinds_27 P a L4 K x1_24 x2 g17))))
def vX7_kinds (P : Sk) (f : St) (a : Nat) (L4 : St → Int32 → Int32 → Prop) (K : Int32 → St → Prop) : Prop :=
  L4 f 0 0
set_option maxRecDepth 20000 in
set_option maxHeartbeats 4000000 in
theorem mX7_kinds (l : Launch) (G : Gl) (P : Sk) (f : St) (sz : Nat) (a : Nat) (ha : IsComp P a) (K : Int32 → St → Prop) (I4 : St → Int32 → Int32 → Prop) (μ4 : St → Int32 → Int32 → Nat) 
  (h : vX7_kinds P f a I4 K)
  (h4 : ∀ (g : St) (x1 : Int32) (x2 : Int32) , I4 g x1 x2 → bX7_kinds_4 P a (fun g' z0 z1 => I4 g' z0 z1 ∧ μ4 g' z0 z1 < μ4 g x1 x2) K g x1 x2) :
  Met l yX7_kinds (wU yX7_kinds cX7_kinds 3 (some .int)) rmX7_kinds (PcW G P f sz [.ref a]) (QcI G P sz K) 0 0 (frA P sz) := by
  refine v_met (own := RX7) [.ref a] (by decide +kernel) rfl (Nat.le_of_ble_eq_true rfl) (fun p e s m args below meth c hsz o hr hnm => ?_)
  refine v_lv (lv2 := [(0, .ref a)]) rfl ?_
  have main : ∀ n : Nat, (∀ (g : St) (x1 : Int32) (x2 : Int32) , I4 g x1 x2 → μ4 g x1 x2 < n → V p l e rmX7_kinds s m args below meth c 3 G (frA P sz) (MQ below (QcI G P sz K) args s 0 0 (frA P sz)) 0 0 P [(0, .ref a), (1, .int x1), (2, .int x2)] [] 4 g) := by
    intro n
    induction n with
    | zero => exact fun g x1 x2 hI hm => absurd hm (Nat.not_lt_zero _)
    | succ n ih =>
      intro g x1 x2 hI hm
      have h := h4 g x1 x2 hI
      clear hI
      have J27 : ∀ (x1_27 : Int32) (x2_27 : Int32) (g27 : St), jX7_kinds_27 P a (fun g' z0 z1 => I4 g' z0 z1 ∧ μ4 g' z0 z1 < μ4 g x1 x2) K x1_27 x2_27 g27 → V p l e rmX7_kinds s m args below meth c 3 G (frA P sz) (MQ below (QcI G P sz K) args s 0 0 (frA P sz)) 0 0 P [(0, .ref a), (1, .int x1_27), (2, .int x2_27)] [] 27 g27 := by
        intro x1_27 x2_27 g27  h
        unfold jX7_kinds_27 at h
        obtain ⟨x2_27, ex2_27⟩ : ∃ y : Int32, y = x2_27 + 1 := ⟨_, rfl⟩
        replace h := h x2_27 ex2_27
        refine v_iinc o (v := x2_27) (lv' := [(2, .int x2_27), (0, .ref a), (1, .int x1_27)]) 2 dX7_kinds_27 rfl (by rw [ex2_27]; rfl) (by decide) rfl ?_
        refine v_goto o (tgt := 4) dX7_kinds_30 (by decide) ?_
        refine v_sub [1, 2, 0] (lv2 := [(0, .ref a), (1, .int x1_27), (2, .int x2_27)]) rfl ?_
        exact ih g27 x1_27 x2_27  h.1 (by have := h.2; omega)
      unfold bX7_kinds_4 at h
      refine v_iload_n o 2 dX7_kinds_4 rfl ?_
      refine v_aload_n o 0 dX7_kinds_5 rfl ?_
      refine v_gfR o lkX7_19 (by decide) (wfComp_o ha) (wfComp_r1 ha) dX7_kinds_6 ?_
      refine v_cVi o [] [.int x2] (fun sz => metX0_size l G P g sz (a + 4) (wfComp_t1 ha) _ h) (cwX7_65 o.1.2.2.2.2 (by decide)) ⟨_, _, rfl⟩ (by decide) (wfBoard_o (wfComp_t1 ha)) rfl (Nat.le_of_ble_eq_true rfl) ⟨Nat.le_of_ble_eq_true rfl, Nat.le_of_ble_eq_true rfl⟩ dX7_kinds_9 rfl (fun r9 g9 h => ?_)
      refine v_icmp_ge o (tgt := 33) dX7_kinds_12 (by decide) (fun c12 => ?_) (fun c12 => ?_)
      · replace h := h.1 c12
        refine v_iload_n o 1 dX7_kinds_33 rfl ?_
        exact v_iret o rfl hr dX7_kinds_34 h
      · replace h := h.2 c12
        refine v_aload_n o 0 dX7_kinds_15 rfl ?_
        refine v_iload_n o 2 dX7_kinds_16 rfl ?_
        refine v_cVi o [.int x2] [] (fun sz => metX7_firstAlike l G P g9 sz a ha x2 _ h) (cwX7_316 o.1.2.2.2.2 (by decide)) ⟨_, _, rfl⟩ (by decide) (wfComp_o ha) rfl (Nat.le_of_ble_eq_true rfl) ⟨Nat.le_of_ble_eq_true rfl, Nat.le_of_ble_eq_true rfl⟩ dX7_kinds_17 rfl (fun r17 g17 h => ?_)
        refine v_iload_n o 2 dX7_kinds_20 rfl ?_
        refine v_icmp_ne o (tgt := 27) dX7_kinds_21 (by decide) (fun c21 => ?_) (fun c21 => ?_)
        · replace h := h.1 c21
          refine v_sub [0, 1, 2] (lv2 := [(0, .ref a), (1, .int x1), (2, .int x2)]) rfl ?_
          exact J27 x1 x2 g17  h
        · replace h := h.2 c21
          obtain ⟨x1_24, ex1_24⟩ : ∃ y : Int32, y = x1 + 1 := ⟨_, rfl⟩
          replace h := h x1_24 ex1_24
          refine v_iinc o (v := x1_24) (lv' := [(1, .int x1_24), (0, .ref a), (2, .int x2)]) 1 dX7_kinds_24 rfl (by rw [ex1_24]; rfl) (by decide) rfl ?_
          refine v_sub [1, 0, 2] (lv2 := [(0, .ref a), (1, .int x1_24), (2, .int x2)]) rfl ?_
          exact J27 x1_24 x2 g17  h
  unfold vX7_kinds at h
  refine v_iconst o (v := 0) dX7_kinds_0 (by decide) ?_
  refine v_istore_n o (lv' := [(1, .int 0), (0, .ref a)]) dX7_kinds_1 rfl (by decide) rfl ?_
  refine v_iconst o (v := 0) dX7_kinds_2 (by decide) ?_
  refine v_istore_n o (lv' := [(2, .int 0), (1, .int 0), (0, .ref a)]) dX7_kinds_3 rfl (by decide) rfl ?_
  refine v_sub [2, 1, 0] (lv2 := [(0, .ref a), (1, .int 0), (2, .int 0)]) rfl ?_
  exact (main (μ4 f 0 0 + 1)) f 0 0  h (Nat.lt_succ_self _)
def kX7_kinds (P : Sk) (f : St) (a : Nat) (K : Int32 → St → Prop) : Prop := False
theorem metX7_kinds (l : Launch) (G : Gl) (P : Sk) (f : St) (sz : Nat) (a : Nat) (ha : IsComp P a) (K : Int32 → St → Prop) (h : kX7_kinds P f a K) : Met l yX7_kinds (wU yX7_kinds cX7_kinds 3 (some .int)) rmX7_kinds (PcW G P f sz [.ref a]) (QcI G P sz K) 0 0 (frA P sz) := sorry

def vX7_numberOfBoard (P : Sk) (f : St) (a : Nat) (p1 : Int32) (K : Int32 → St → Prop) : Prop :=
  (p1 = 0 → kX0_size P f (a + 4) (fun r44 g44 => K r44 g44)) ∧ (¬ p1 = 0 → (p1 = 1 → kX7_crossingsOfAll P f a (fun r49 g49 => K r49 g49)) ∧ (¬ p1 = 1 → (p1 = 2 → kX7_doughUsedByStrands P f a (fun r54 g54 => K r54 g54)) ∧ (¬ p1 = 2 → (p1 = 3 → kX7_crossingsOfAll P f a (fun r60 g60 => K (3 * r60) g60)) ∧ (¬ p1 = 3 → (p1 = 4 → kX7_kinds P f a (fun r66 g66 => K r66 g66)) ∧ (¬ p1 = 4 → (p1 = 5 → kX0_changes P f (a + 4) (fun r74 g74 => K r74 g74)) ∧ (¬ p1 = 5 → kX1_size P f (a + 160) (fun r82 g82 => K r82 g82)))))))
set_option maxRecDepth 20000 in
set_option maxHeartbeats 4000000 in
theorem mX7_numberOfBoard (l : Launch) (G : Gl) (P : Sk) (f : St) (sz : Nat) (a : Nat) (ha : IsComp P a) (p1 : Int32) (K : Int32 → St → Prop) (h : vX7_numberOfBoard P f a p1 K)  :
  Met l yX7_numberOfBoard (wU yX7_numberOfBoard cX7_numberOfBoard 2 (some .int)) rmX7_numberOfBoard (PcW G P f sz [.ref a, .int p1]) (QcI G P sz K) 0 0 (frA P sz) := by
  refine v_met (own := RX7) [.ref a, .int p1] (by decide +kernel) rfl (Nat.le_of_ble_eq_true rfl) (fun p e s m args below meth c hsz o hr hnm => ?_)
  refine v_lv (lv2 := [(0, .ref a), (1, .int p1)]) rfl ?_
  unfold vX7_numberOfBoard at h
  refine v_iload_n o 1 dX7_numberOfBoard_0 rfl ?_
  by_cases c1_0 : p1 = 0
  · replace h := h.1 c1_0
    refine v_tableIn o (off := 39) (tgt := 40) dX7_numberOfBoard_1 (by rw [c1_0]; decide) (by rw [c1_0]; decide) (by rw [c1_0]; decide) (by decide) ?_
    refine v_aload_n o 0 dX7_numberOfBoard_40 rfl ?_
    refine v_gfR o lkX7_19 (by decide) (wfComp_o ha) (wfComp_r1 ha) dX7_numberOfBoard_41 ?_
    refine v_cVi o [] [] (fun sz => metX0_size l G P f sz (a + 4) (wfComp_t1 ha) _ h) (cwX7_65 o.1.2.2.2.2 (by decide)) ⟨_, _, rfl⟩ (by decide) (wfBoard_o (wfComp_t1 ha)) rfl (Nat.le_of_ble_eq_true rfl) ⟨Nat.le_of_ble_eq_true rfl, Nat.le_of_ble_eq_true rfl⟩ dX7_numberOfBoard_44 rfl (fun r44 g44 h => ?_)
    exact v_iret o rfl hr dX7_numberOfBoard_47 h
  · replace h := h.2 c1_0
    by_cases c1_1 : p1 = 1
    · replace h := h.1 c1_1
      refine v_tableIn o (off := 47) (tgt := 48) dX7_numberOfBoard_1 (by rw [c1_1]; decide) (by rw [c1_1]; decide) (by rw [c1_1]; decide) (by decide) ?_
      refine v_aload_n o 0 dX7_numberOfBoard_48 rfl ?_
      refine v_cVi o [] [] (fun sz => metX7_crossingsOfAll l G P f sz a ha _ h) (cwX7_224 o.1.2.2.2.2 (by decide)) ⟨_, _, rfl⟩ (by decide) (wfComp_o ha) rfl (Nat.le_of_ble_eq_true rfl) ⟨Nat.le_of_ble_eq_true rfl, Nat.le_of_ble_eq_true rfl⟩ dX7_numberOfBoard_49 rfl (fun r49 g49 h => ?_)
      exact v_iret o rfl hr dX7_numberOfBoard_52 h
    · replace h := h.2 c1_1
      by_cases c1_2 : p1 = 2
      · replace h := h.1 c1_2
        refine v_tableIn o (off := 52) (tgt := 53) dX7_numberOfBoard_1 (by rw [c1_2]; decide) (by rw [c1_2]; decide) (by rw [c1_2]; decide) (by decide) ?_
        refine v_aload_n o 0 dX7_numberOfBoard_53 rfl ?_
        refine v_cVi o [] [] (fun sz => metX7_doughUsedByStrands l G P f sz a ha _ h) (cwX7_319 o.1.2.2.2.2 (by decide)) ⟨_, _, rfl⟩ (by decide) (wfComp_o ha) rfl (Nat.le_of_ble_eq_true rfl) ⟨Nat.le_of_ble_eq_true rfl, Nat.le_of_ble_eq_true rfl⟩ dX7_numberOfBoard_54 rfl (fun r54 g54 h => ?_)
        exact v_iret o rfl hr dX7_numberOfBoard_57 h
      · replace h := h.2 c1_2
        by_cases c1_3 : p1 = 3
        · replace h := h.1 c1_3
          refine v_tableIn o (off := 57) (tgt := 58) dX7_numberOfBoard_1 (by rw [c1_3]; decide) (by rw [c1_3]; decide) (by rw [c1_3]; decide) (by decide) ?_
          refine v_iconst o (v := 3) dX7_numberOfBoard_58 (by decide) ?_
          refine v_aload_n o 0 dX7_numberOfBoard_59 rfl ?_
          refine v_cVi o [] [.int 3] (fun sz => metX7_crossingsOfAll l G P f sz a ha _ h) (cwX7_224 o.1.2.2.2.2 (by decide)) ⟨_, _, rfl⟩ (by decide) (wfComp_o ha) rfl (Nat.le_of_ble_eq_true rfl) ⟨Nat.le_of_ble_eq_true rfl, Nat.le_of_ble_eq_true rfl⟩ dX7_numberOfBoard_60 rfl (fun r60 g60 h => ?_)
          refine v_imul o dX7_numberOfBoard_63 ?_
          exact v_iret o rfl hr dX7_numberOfBoard_64 h
        · replace h := h.2 c1_3
          by_cases c1_4 : p1 = 4
          · replace h := h.1 c1_4
            refine v_tableIn o (off := 64) (tgt := 65) dX7_numberOfBoard_1 (by rw [c1_4]; decide) (by rw [c1_4]; decide) (by rw [c1_4]; decide) (by decide) ?_
            refine v_aload_n o 0 dX7_numberOfBoard_65 rfl ?_
            refine v_cVi o [] [] (fun sz => metX7_kinds l G P f sz a ha _ h) (cwX7_322 o.1.2.2.2.2 (by decide)) ⟨_, _, rfl⟩ (by decide) (wfComp_o ha) rfl (Nat.le_of_ble_eq_true rfl) ⟨Nat.le_of_ble_eq_true rfl, Nat.le_of_ble_eq_true rfl⟩ dX7_numberOfBoard_66 rfl (fun r66 g66 h => ?_)
            exact v_iret o rfl hr dX7_numberOfBoard_69 h
          · replace h := h.2 c1_4
            by_cases c1_5 : p1 = 5
            · replace h := h.1 c1_5
              refine v_tableIn o (off := 69) (tgt := 70) dX7_numberOfBoard_1 (by rw [c1_5]; decide) (by rw [c1_5]; decide) (by rw [c1_5]; decide) (by decide) ?_
              refine v_aload_n o 0 dX7_numberOfBoard_70 rfl ?_
              refine v_gfR o lkX7_19 (by decide) (wfComp_o ha) (wfComp_r1 ha) dX7_numberOfBoard_71 ?_
              refine v_cVi o [] [] (fun sz => metX0_changes l G P f sz (a + 4) (wfComp_t1 ha) _ h) (cwX7_325 o.1.2.2.2.2 (by decide)) ⟨_, _, rfl⟩ (by decide) (wfBoard_o (wfComp_t1 ha)) rfl (Nat.le_of_ble_eq_true rfl) ⟨Nat.le_of_ble_eq_true rfl, Nat.le_of_ble_eq_true rfl⟩ dX7_numberOfBoard_74 rfl (fun r74 g74 h => ?_)
              exact v_iret o rfl hr dX7_numberOfBoard_77 h
            · replace h := h.2 c1_5
              refine v_tableOut o (tgt := 78) dX7_numberOfBoard_1 (by have q0 := lv_neT c1_0 (a := 0) (by decide); have q1 := lv_neT c1_1 (a := 1) (by decide); have q2 := lv_neT c1_2 (a := 2) (by decide); have q3 := lv_neT c1_3 (a := 3) (by decide); have q4 := lv_neT c1_4 (a := 4) (by decide); have q5 := lv_neT c1_5 (a := 5) (by decide); omega) (by decide) ?_
              refine v_aload_n o 0 dX7_numberOfBoard_78 rfl ?_
              refine v_gfR o lkX7_26 (by decide) (wfComp_o ha) (wfComp_r2 ha) dX7_numberOfBoard_79 ?_
              refine v_cVi o [] [] (fun sz => metX1_size l G P f sz (a + 160) (wfComp_t2 ha) _ h) (cwX7_187 o.1.2.2.2.2 (by decide)) ⟨_, _, rfl⟩ (by decide) (wfHist_o (wfComp_t2 ha)) rfl (Nat.le_of_ble_eq_true rfl) ⟨Nat.le_of_ble_eq_true rfl, Nat.le_of_ble_eq_true rfl⟩ dX7_numberOfBoard_82 rfl (fun r82 g82 h => ?_)
              exact v_iret o rfl hr dX7_numberOfBoard_85 h
abbrev kX7_numberOfBoard := @vX7_numberOfBoard
abbrev metX7_numberOfBoard := @mX7_numberOfBoard

def vX7_count (P : Sk) (f : St) (a : Nat) (p1 : Int32) (K : Int32 → St → Prop) (X : String → St → Prop) : Prop :=
  kX7_needUpTo P f p1 6 (fun g3 => kX7_numberOfBoard P g3 a p1 (fun r8 g8 => K r8 g8)) X
abbrev rxX7_count : Room := { frames := 7, cells := 1, slots := 6, locals := 130 }
set_option maxRecDepth 20000 in
set_option maxHeartbeats 4000000 in
theorem mX7_count (l : Launch) (hl : l.stackTraces = false) (G : Gl) (P : Sk) (f : St) (sz : Nat) (a : Nat) (ha : IsComp P a) (p1 : Int32) (K : Int32 → St → Prop) (X : String → St → Prop) (h : vX7_count P f a p1 K X)  :
  vx_Met l yX7_count (wU yX7_count cX7_count 2 (some .int)) rxX7_count (PcX G P f sz [.ref a, .int p1]) (QcI G P sz K) (XX G P sz X) 1 6 (frA P sz) := by
  refine v_metx (own := RX7) [.ref a, .int p1] (by decide) rfl (Nat.le_of_ble_eq_true rfl) (fun p e s m args below meth c hsz o hr hT hno => ?_)
  refine v_lv (lv2 := [(0, .ref a), (1, .int p1)]) rfl ?_
  unfold vX7_count at h
  refine v_iload_n o 1 dX7_count_0 rfl ?_
  refine v_bipush o (v := 6) dX7_count_1 (by decide) ?_
  refine v_cxSv o hT hno [.int p1, .int 6] [] rfl (fun sz => metX7_needUpTo l hl G P f sz p1 6 _ _ h) (cxX7_137 o.1.2.2.2.2 (by decide)) rfl (Nat.le_of_ble_eq_true rfl) ⟨Nat.le_of_ble_eq_true rfl, Nat.le_of_ble_eq_true rfl⟩ ⟨Nat.le_of_ble_eq_true rfl, Nat.le_of_ble_eq_true rfl⟩ dX7_count_3 rfl (fun g3 h => ?_)
  refine v_aload_n o 0 dX7_count_6 rfl ?_
  refine v_iload_n o 1 dX7_count_7 rfl ?_
  refine v_cVi o [.int p1] [] (fun sz => metX7_numberOfBoard l G P g3 sz a ha p1 _ h) (cwX7_212 o.1.2.2.2.2 (by decide)) ⟨_, _, rfl⟩ (by decide) (wfComp_o ha) rfl (Nat.le_of_ble_eq_true rfl) ⟨Nat.le_of_ble_eq_true rfl, Nat.le_of_ble_eq_true rfl⟩ dX7_count_8 rfl (fun r8 g8 h => ?_)
  exact v_xret (Nat.le_of_ble_eq_true rfl) (Nat.le_of_ble_eq_true rfl) (v_iret o rfl hr dX7_count_11 h)
theorem cxL_65 {R : Room} {s : State} {args : Array Value} (ht : ∀ w ∈ lw_U, w.before args s = true) (hR : rxX7_count.frames + 1 ≤ R.frames ∧ 8 + (2 + 11) + rxX7_count.locals ≤ R.locals) : CallW R s args RL RX7 65 yX7_count cX7_count 2 (some .int) (wU yX7_count cX7_count 2 (some .int)) rxX7_count 1 6 1 := cwV 1 ht (gUV (mU 972 (by decide +kernel) rfl) (mU 973 (by decide +kernel) rfl) (mU 974 (by decide +kernel) rfl) (mU 82 (by decide +kernel) rfl) (mU 975 (by decide +kernel) rfl)) rfl rfl rfl ⟨rfl, by decide +kernel, by decide +kernel, by decide +kernel⟩ hR
abbrev kX7_count := @vX7_count
abbrev metX7_count := @mX7_count

def vX7_whyNot (P : Sk) (f : St) (a : Nat) (p1 : Int32) (p2 : Int32) (p3 : Int32) (K : Int32 → St → Prop) (X : String → St → Prop) : Prop :=
  kX7_needPlace P f a p1 p2 (fun g3 => kX7_tryCrossing P g3 a p1 p2 p3 (fun r10 g10 => K r10 g10)) X
abbrev rxX7_whyNot : Room := { frames := 8, cells := 2, slots := 12, locals := 135 }
set_option maxRecDepth 20000 in
set_option maxHeartbeats 4000000 in
theorem mX7_whyNot (l : Launch) (hl : l.stackTraces = false) (G : Gl) (P : Sk) (f : St) (sz : Nat) (a : Nat) (ha : IsComp P a) (p1 : Int32) (p2 : Int32) (p3 : Int32) (K : Int32 → St → Prop) (X : String → St → Prop) (h : vX7_whyNot P f a p1 p2 p3 K X)  :
  vx_Met l yX7_whyNot (wU yX7_whyNot cX7_whyNot 4 (some .int)) rxX7_whyNot (PcX G P f sz [.ref a, .int p1, .int p2, .int p3]) (QcI G P sz K) (XX G P sz X) 2 12 (frA P sz) := by
  refine v_metx (own := RX7) [.ref a, .int p1, .int p2, .int p3] (by decide) rfl (Nat.le_of_ble_eq_true rfl) (fun p e s m args below meth c hsz o hr hT hno => ?_)
  refine v_lv (lv2 := [(0, .ref a), (1, .int p1), (2, .int p2), (3, .int p3)]) rfl ?_
  unfold vX7_whyNot at h
  refine v_aload_n o 0 dX7_whyNot_0 rfl ?_
  refine v_iload_n o 1 dX7_whyNot_1 rfl ?_
  refine v_iload_n o 2 dX7_whyNot_2 rfl ?_
  refine v_cxVv o hT hno [.int p1, .int p2] [] rfl (fun sz => metX7_needPlace l hl G P f sz a ha p1 p2 _ _ h) (cxX7_110 o.1.2.2.2.2 (by decide)) ⟨_, _, rfl⟩ (by decide) (wfComp_o ha) rfl (Nat.le_of_ble_eq_true rfl) ⟨Nat.le_of_ble_eq_true rfl, Nat.le_of_ble_eq_true rfl⟩ ⟨Nat.le_of_ble_eq_true rfl, Nat.le_of_ble_eq_true rfl⟩ dX7_whyNot_3 rfl (fun g3 h => ?_)
  refine v_aload_n o 0 dX7_whyNot_6 rfl ?_
  refine v_iload_n o 1 dX7_whyNot_7 rfl ?_
  refine v_iload_n o 2 dX7_whyNot_8 rfl ?_
  refine v_iload_n o 3 dX7_whyNot_9 rfl ?_
  refine v_cVi o [.int p1, .int p2, .int p3] [] (fun sz => metX7_tryCrossing l G P g3 sz a ha p1 p2 p3 _ h) (cwX7_114 o.1.2.2.2.2 (by decide)) ⟨_, _, rfl⟩ (by decide) (wfComp_o ha) rfl (Nat.le_of_ble_eq_true rfl) ⟨Nat.le_of_ble_eq_true rfl, Nat.le_of_ble_eq_true rfl⟩ dX7_whyNot_10 rfl (fun r10 g10 h => ?_)
  exact v_xret (Nat.le_of_ble_eq_true rfl) (Nat.le_of_ble_eq_true rfl) (v_iret o rfl hr dX7_whyNot_13 h)
theorem cxL_68 {R : Room} {s : State} {args : Array Value} (ht : ∀ w ∈ lw_U, w.before args s = true) (hR : rxX7_whyNot.frames + 1 ≤ R.frames ∧ 8 + (4 + 11) + rxX7_whyNot.locals ≤ R.locals) : CallW R s args RL RX7 68 yX7_whyNot cX7_whyNot 4 (some .int) (wU yX7_whyNot cX7_whyNot 4 (some .int)) rxX7_whyNot 2 12 3 := cwV 3 ht (gUV (mU 979 (by decide +kernel) rfl) (mU 980 (by decide +kernel) rfl) (mU 981 (by decide +kernel) rfl) (mU 82 (by decide +kernel) rfl) (mU 982 (by decide +kernel) rfl)) rfl rfl rfl ⟨rfl, by decide +kernel, by decide +kernel, by decide +kernel⟩ hR
abbrev kX7_whyNot := @vX7_whyNot
abbrev metX7_whyNot := @mX7_whyNot

def vX7_looseSizeIfChanged (P : Sk) (f : St) (a : Nat) (p1 : Int32) (p2 : Int32) (K : Int32 → St → Prop) : Prop :=
  kX6_makeChanged P f (a + 1432) ((atB (a + 4) p1) + 1) p2 (fun g16 => kX6_makeLoose P g16 (a + 1435) (a + 1432) (fun g27 => kX6_size P g27 (a + 1435) (fun r34 g34 => K r34 g34)))
set_option maxRecDepth 20000 in
set_option maxHeartbeats 4000000 in
theorem mX7_looseSizeIfChanged (l : Launch) (G : Gl) (P : Sk) (f : St) (sz : Nat) (a : Nat) (ha : IsComp P a) (p1 : Int32) (p2 : Int32) (K : Int32 → St → Prop) (h : vX7_looseSizeIfChanged P f a p1 p2 K)  :
  Met l yX7_looseSizeIfChanged (wU yX7_looseSizeIfChanged cX7_looseSizeIfChanged 3 (some .int)) rmX7_looseSizeIfChanged (PcW G P f sz [.ref a, .int p1, .int p2]) (QcI G P sz K) 0 0 (frA P sz) := by
  refine v_met (own := RX7) [.ref a, .int p1, .int p2] (by decide +kernel) rfl (Nat.le_of_ble_eq_true rfl) (fun p e s m args below meth c hsz o hr hnm => ?_)
  refine v_lv (lv2 := [(0, .ref a), (1, .int p1), (2, .int p2)]) rfl ?_
  unfold vX7_looseSizeIfChanged at h
  refine v_aload_n o 0 dX7_looseSizeIfChanged_0 rfl ?_
  refine v_gfR o lkX7_47 (by decide) (wfComp_o ha) (wfComp_r6 ha) dX7_looseSizeIfChanged_1 ?_
  refine v_aload_n o 0 dX7_looseSizeIfChanged_4 rfl ?_
  refine v_gfR o lkX7_19 (by decide) (wfComp_o ha) (wfComp_r1 ha) dX7_looseSizeIfChanged_5 ?_
  refine v_iload_n o 1 dX7_looseSizeIfChanged_8 rfl ?_
  refine v_cVr o [.int p1] [.ref (a + 1432)] (fun sz => metX0_at l G P f sz (a + 4) (wfComp_t1 ha) p1) (cwX7_102 o.1.2.2.2.2 (by decide)) ⟨_, _, rfl⟩ (by decide) (wfBoard_o (wfComp_t1 ha)) rfl (Nat.le_of_ble_eq_true rfl) ⟨Nat.le_of_ble_eq_true rfl, Nat.le_of_ble_eq_true rfl⟩ dX7_looseSizeIfChanged_9 rfl (fun r9 g9 h9 => ?_)
  obtain ⟨rfl, rfl⟩ := h9
  refine v_cVr o [] [.ref (a + 1432)] (fun sz => metX2_word l G P f sz (atB (a + 4) p1) (is_atB (wfComp_t1 ha) p1)) (cwX7_74 o.1.2.2.2.2 (by decide)) ⟨_, _, rfl⟩ (by decide) (wfLoaf_o (is_atB (wfComp_t1 ha) p1)) rfl (Nat.le_of_ble_eq_true rfl) ⟨Nat.le_of_ble_eq_true rfl, Nat.le_of_ble_eq_true rfl⟩ dX7_looseSizeIfChanged_12 rfl (fun r12 g12 h12 => ?_)
  obtain ⟨rfl, rfl⟩ := h12
  refine v_iload_n o 2 dX7_looseSizeIfChanged_15 rfl ?_
  refine v_cVv o [.ref ((atB (a + 4) p1) + 1), .int p2] [] (fun sz => metX6_makeChanged l G P f sz (a + 1432) (wfComp_t6 ha) ((atB (a + 4) p1) + 1) (wfLoaf_t0 (is_atB (wfComp_t1 ha) p1)) p2 _ h) (cwX7_276 o.1.2.2.2.2 (by decide)) ⟨_, _, rfl⟩ (by decide) (wfWord_o (wfComp_t6 ha)) rfl (Nat.le_of_ble_eq_true rfl) ⟨Nat.le_of_ble_eq_true rfl, Nat.le_of_ble_eq_true rfl⟩ dX7_looseSizeIfChanged_16 rfl (fun g16 h => ?_)
  refine v_aload_n o 0 dX7_looseSizeIfChanged_19 rfl ?_
  refine v_gfR o lkX7_51 (by decide) (wfComp_o ha) (wfComp_r7 ha) dX7_looseSizeIfChanged_20 ?_
  refine v_aload_n o 0 dX7_looseSizeIfChanged_23 rfl ?_
  refine v_gfR o lkX7_47 (by decide) (wfComp_o ha) (wfComp_r6 ha) dX7_looseSizeIfChanged_24 ?_
  refine v_cVv o [.ref (a + 1432)] [] (fun sz => metX6_makeLoose l G P g16 sz (a + 1435) (wfComp_t7 ha) (a + 1432) (wfComp_t6 ha) _ h) (cwX7_335 o.1.2.2.2.2 (by decide)) ⟨_, _, rfl⟩ (by decide) (wfWord_o (wfComp_t7 ha)) rfl (Nat.le_of_ble_eq_true rfl) ⟨Nat.le_of_ble_eq_true rfl, Nat.le_of_ble_eq_true rfl⟩ dX7_looseSizeIfChanged_27 rfl (fun g27 h => ?_)
  refine v_aload_n o 0 dX7_looseSizeIfChanged_30 rfl ?_
  refine v_gfR o lkX7_51 (by decide) (wfComp_o ha) (wfComp_r7 ha) dX7_looseSizeIfChanged_31 ?_
  refine v_cVi o [] [] (fun sz => metX6_size l G P g27 sz (a + 1435) (wfComp_t7 ha) _ h) (cwX7_106 o.1.2.2.2.2 (by decide)) ⟨_, _, rfl⟩ (by decide) (wfWord_o (wfComp_t7 ha)) rfl (Nat.le_of_ble_eq_true rfl) ⟨Nat.le_of_ble_eq_true rfl, Nat.le_of_ble_eq_true rfl⟩ dX7_looseSizeIfChanged_34 rfl (fun r34 g34 h => ?_)
  exact v_iret o rfl hr dX7_looseSizeIfChanged_37 h
abbrev kX7_looseSizeIfChanged := @vX7_looseSizeIfChanged
abbrev metX7_looseSizeIfChanged := @mX7_looseSizeIfChanged

def vX7_ifChanged (P : Sk) (f : St) (a : Nat) (p1 : Int32) (p2 : Int32) (K : Int32 → St → Prop) (X : String → St → Prop) : Prop :=
  kX7_needLoaf P f a p1 (fun g2 => kX7_needUpTo P g2 p2 3 (fun g7 => kX7_looseSizeIfChanged P g7 a p1 p2 (fun r13 g13 => K r13 g13)) X) X
abbrev rxX7_ifChanged : Room := { frames := 7, cells := 2, slots := 12, locals := 114 }
set_option maxRecDepth 20000 in
set_option maxHeartbeats 4000000 in
theorem mX7_ifChanged (l : Launch) (hl : l.stackTraces = false) (G : Gl) (P : Sk) (f : St) (sz : Nat) (a : Nat) (ha : IsComp P a) (p1 : Int32) (p2 : Int32) (K : Int32 → St → Prop) (X : String → St → Prop) (h : vX7_ifChanged P f a p1 p2 K X)  :
  vx_Met l yX7_ifChanged (wU yX7_ifChanged cX7_ifChanged 3 (some .int)) rxX7_ifChanged (PcX G P f sz [.ref a, .int p1, .int p2]) (QcI G P sz K) (XX G P sz X) 2 12 (frA P sz) := by
  refine v_metx (own := RX7) [.ref a, .int p1, .int p2] (by decide) rfl (Nat.le_of_ble_eq_true rfl) (fun p e s m args below meth c hsz o hr hT hno => ?_)
  refine v_lv (lv2 := [(0, .ref a), (1, .int p1), (2, .int p2)]) rfl ?_
  unfold vX7_ifChanged at h
  refine v_aload_n o 0 dX7_ifChanged_0 rfl ?_
  refine v_iload_n o 1 dX7_ifChanged_1 rfl ?_
  refine v_cxVv o hT hno [.int p1] [] rfl (fun sz => metX7_needLoaf l hl G P f sz a ha p1 _ _ h) (cxX7_98 o.1.2.2.2.2 (by decide)) ⟨_, _, rfl⟩ (by decide) (wfComp_o ha) rfl (Nat.le_of_ble_eq_true rfl) ⟨Nat.le_of_ble_eq_true rfl, Nat.le_of_ble_eq_true rfl⟩ ⟨Nat.le_of_ble_eq_true rfl, Nat.le_of_ble_eq_true rfl⟩ dX7_ifChanged_2 rfl (fun g2 h => ?_)
  refine v_iload_n o 2 dX7_ifChanged_5 rfl ?_
  refine v_iconst o (v := 3) dX7_ifChanged_6 (by decide) ?_
  refine v_cxSv o hT hno [.int p2, .int 3] [] rfl (fun sz => metX7_needUpTo l hl G P g2 sz p2 3 _ _ h) (cxX7_137 o.1.2.2.2.2 (by decide)) rfl (Nat.le_of_ble_eq_true rfl) ⟨Nat.le_of_ble_eq_true rfl, Nat.le_of_ble_eq_true rfl⟩ ⟨Nat.le_of_ble_eq_true rfl, Nat.le_of_ble_eq_true rfl⟩ dX7_ifChanged_7 rfl (fun g7 h => ?_)
  refine v_aload_n o 0 dX7_ifChanged_10 rfl ?_
  refine v_iload_n o 1 dX7_ifChanged_11 rfl ?_
  refine v_iload_n o 2 dX7_ifChanged_12 rfl ?_
  refine v_cVi o [.int p1, .int p2] [] (fun sz => metX7_looseSizeIfChanged l G P g7 sz a ha p1 p2 _ h) (cwX7_215 o.1.2.2.2.2 (by decide)) ⟨_, _, rfl⟩ (by decide) (wfComp_o ha) rfl (Nat.le_of_ble_eq_true rfl) ⟨Nat.le_of_ble_eq_true rfl, Nat.le_of_ble_eq_true rfl⟩ dX7_ifChanged_13 rfl (fun r13 g13 h => ?_)
  exact v_xret (Nat.le_of_ble_eq_true rfl) (Nat.le_of_ble_eq_true rfl) (v_iret o rfl hr dX7_ifChanged_16 h)
theorem cxL_71 {R : Room} {s : State} {args : Array Value} (ht : ∀ w ∈ lw_U, w.before args s = true) (hR : rxX7_ifChanged.frames + 1 ≤ R.frames ∧ 8 + (3 + 11) + rxX7_ifChanged.locals ≤ R.locals) : CallW R s args RL RX7 71 yX7_ifChanged cX7_ifChanged 3 (some .int) (wU yX7_ifChanged cX7_ifChanged 3 (some .int)) rxX7_ifChanged 2 12 2 := cwV 2 ht (gUV (mU 986 (by decide +kernel) rfl) (mU 987 (by decide +kernel) rfl) (mU 988 (by decide +kernel) rfl) (mU 82 (by decide +kernel) rfl) (mU 989 (by decide +kernel) rfl)) rfl rfl rfl ⟨rfl, by decide +kernel, by decide +kernel, by decide +kernel⟩ hR
abbrev kX7_ifChanged := @vX7_ifChanged
abbrev metX7_ifChanged := @mX7_ifChanged

def bX7_likeness_35 (P : Sk) (a : Nat) (p1 : Int32) (p2 : Int32) (L35 : St → Nat → Int32 → Prop) (K : Int32 → St → Prop) (f : St) (x3 : Nat) (x4 : Int32) : Prop :=
  (2 < x4 → K 0 f) ∧ (¬ 2 < x4 → kX6_makeChanged P f (a + 1432) ((atB (a + 4) p1) + 1) x4 (fun g58 => kX6_makeLoose P g58 (a + 1435) (a + 1432) (fun g69 => kX6_isSame P g69 (a + 1435) x3 (fun r77 g77 => (r77 = 0 → ∀ x4_88 : Int32, x4_88 = x4 + 1 → L35 g77 x3 x4_88) ∧ (¬ r77 = 0 → K (2 + x4) g77)))))
def vX7_likeness (P : Sk) (f : St) (a : Nat) (p1 : Int32) (p2 : Int32) (L35 : St → Nat → Int32 → Prop) (K : Int32 → St → Prop) : Prop :=
  kX6_isSame P f ((atB (a + 4) p1) + 4) ((atB (a + 4) p2) + 4) (fun r24 g24 => (r24 = 0 → L35 g24 ((atB (a + 4) p2) + 4) 0) ∧ (¬ r24 = 0 → K 1 g24))
set_option maxRecDepth 20000 in
set_option maxHeartbeats 4000000 in
theorem mX7_likeness (l : Launch) (G : Gl) (P : Sk) (f : St) (sz : Nat) (a : Nat) (ha : IsComp P a) (p1 : Int32) (p2 : Int32) (K : Int32 → St → Prop) (I35 : St → Nat → Int32 → Prop) (μ35 : St → Nat → Int32 → Nat) 
  (h : vX7_likeness P f a p1 p2 I35 K)
  (h35 : ∀ (g : St) (x3 : Nat) (x4 : Int32) , I35 g x3 x4 → bX7_likeness_35 P a p1 p2 (fun g' z0 z1 => I35 g' z0 z1 ∧ μ35 g' z0 z1 < μ35 g x3 x4) K g x3 x4) :
  Met l yX7_likeness (wU yX7_likeness cX7_likeness 5 (some .int)) rmX7_likeness (PcW G P f sz [.ref a, .int p1, .int p2]) (QcI G P sz K) 0 0 (frA P sz) := by
  refine v_met (own := RX7) [.ref a, .int p1, .int p2] (by decide +kernel) rfl (Nat.le_of_ble_eq_true rfl) (fun p e s m args below meth c hsz o hr hnm => ?_)
  refine v_lv (lv2 := [(0, .ref a), (1, .int p1), (2, .int p2)]) rfl ?_
  have main : ∀ n : Nat, (∀ (g : St) (x3 : Nat) (x4 : Int32) , IsWord P x3 → I35 g x3 x4 → μ35 g x3 x4 < n → V p l e rmX7_likeness s m args below meth c 5 G (frA P sz) (MQ below (QcI G P sz K) args s 0 0 (frA P sz)) 0 0 P [(0, .ref a), (1, .int p1), (2, .int p2), (3, .ref x3), (4, .int x4)] [] 35 g) := by
    intro n
    induction n with
    | zero => exact fun g x3 x4 hx3 hI hm => absurd hm (Nat.not_lt_zero _)
    | succ n ih =>
      intro g x3 x4 hx3 hI hm
      have h := h35 g x3 x4 hI
      clear hI
      unfold bX7_likeness_35 at h
      refine v_iload o 4 dX7_likeness_35 rfl ?_
      refine v_iconst o (v := 2) dX7_likeness_37 (by decide) ?_
      refine v_icmp_gt o (tgt := 94) dX7_likeness_38 (by decide) (fun c38 => ?_) (fun c38 => ?_)
      · replace h := h.1 c38
        refine v_iconst o (v := 0) dX7_likeness_94 (by decide) ?_
        exact v_iret o rfl hr dX7_likeness_95 h
      · replace h := h.2 c38
        refine v_aload_n o 0 dX7_likeness_41 rfl ?_
        refine v_gfR o lkX7_47 (by decide) (wfComp_o ha) (wfComp_r6 ha) dX7_likeness_42 ?_
        refine v_aload_n o 0 dX7_likeness_45 rfl ?_
        refine v_gfR o lkX7_19 (by decide) (wfComp_o ha) (wfComp_r1 ha) dX7_likeness_46 ?_
        refine v_iload_n o 1 dX7_likeness_49 rfl ?_
        refine v_cVr o [.int p1] [.ref (a + 1432)] (fun sz => metX0_at l G P g sz (a + 4) (wfComp_t1 ha) p1) (cwX7_102 o.1.2.2.2.2 (by decide)) ⟨_, _, rfl⟩ (by decide) (wfBoard_o (wfComp_t1 ha)) rfl (Nat.le_of_ble_eq_true rfl) ⟨Nat.le_of_ble_eq_true rfl, Nat.le_of_ble_eq_true rfl⟩ dX7_likeness_50 rfl (fun r50 g50 h50 => ?_)
        obtain ⟨rfl, rfl⟩ := h50
        refine v_cVr o [] [.ref (a + 1432)] (fun sz => metX2_word l G P g sz (atB (a + 4) p1) (is_atB (wfComp_t1 ha) p1)) (cwX7_74 o.1.2.2.2.2 (by decide)) ⟨_, _, rfl⟩ (by decide) (wfLoaf_o (is_atB (wfComp_t1 ha) p1)) rfl (Nat.le_of_ble_eq_true rfl) ⟨Nat.le_of_ble_eq_true rfl, Nat.le_of_ble_eq_true rfl⟩ dX7_likeness_53 rfl (fun r53 g53 h53 => ?_)
        obtain ⟨rfl, rfl⟩ := h53
        refine v_iload o 4 dX7_likeness_56 rfl ?_
        refine v_cVv o [.ref ((atB (a + 4) p1) + 1), .int x4] [] (fun sz => metX6_makeChanged l G P g sz (a + 1432) (wfComp_t6 ha) ((atB (a + 4) p1) + 1) (wfLoaf_t0 (is_atB (wfComp_t1 ha) p1)) x4 _ h) (cwX7_276 o.1.2.2.2.2 (by decide)) ⟨_, _, rfl⟩ (by decide) (wfWord_o (wfComp_t6 ha)) rfl (Nat.le_of_ble_eq_true rfl) ⟨Nat.le_of_ble_eq_true rfl, Nat.le_of_ble_eq_true rfl⟩ dX7_likeness_58 rfl (fun g58 h => ?_)
        refine v_aload_n o 0 dX7_likeness_61 rfl ?_
        refine v_gfR o lkX7_51 (by decide) (wfComp_o ha) (wfComp_r7 ha) dX7_likeness_62 ?_
        refine v_aload_n o 0 dX7_likeness_65 rfl ?_
        refine v_gfR o lkX7_47 (by decide) (wfComp_o ha) (wfComp_r6 ha) dX7_likeness_66 ?_
        refine v_cVv o [.ref (a + 1432)] [] (fun sz => metX6_makeLoose l G P g58 sz (a + 1435) (wfComp_t7 ha) (a + 1432) (wfComp_t6 ha) _ h) (cwX7_335 o.1.2.2.2.2 (by decide)) ⟨_, _, rfl⟩ (by decide) (wfWord_o (wfComp_t7 ha)) rfl (Nat.le_of_ble_eq_true rfl) ⟨Nat.le_of_ble_eq_true rfl, Nat.le_of_ble_eq_true rfl⟩ dX7_likeness_69 rfl (fun g69 h => ?_)
        refine v_aload_n o 0 dX7_likeness_72 rfl ?_
        refine v_gfR o lkX7_51 (by decide) (wfComp_o ha) (wfComp_r7 ha) dX7_likeness_73 ?_
        refine v_aload_n o 3 dX7_likeness_76 rfl ?_
        refine v_cVi o [.ref x3] [] (fun sz => metX6_isSame l G P g69 sz (a + 1435) (wfComp_t7 ha) x3 hx3 _ h) (cwX7_331 o.1.2.2.2.2 (by decide)) ⟨_, _, rfl⟩ (by decide) (wfWord_o (wfComp_t7 ha)) rfl (Nat.le_of_ble_eq_true rfl) ⟨Nat.le_of_ble_eq_true rfl, Nat.le_of_ble_eq_true rfl⟩ dX7_likeness_77 rfl (fun r77 g77 h => ?_)
        refine v_if_eq o (tgt := 88) dX7_likeness_80 (by decide) (fun c80 => ?_) (fun c80 => ?_)
        · replace h := h.1 c80
          obtain ⟨x4_88, ex4_88⟩ : ∃ y : Int32, y = x4 + 1 := ⟨_, rfl⟩
          replace h := h x4_88 ex4_88
          refine v_iinc o (v := x4_88) (lv' := [(4, .int x4_88), (0, .ref a), (1, .int p1), (2, .int p2), (3, .ref x3)]) 4 dX7_likeness_88 rfl (by rw [ex4_88]; rfl) (by decide) rfl ?_
          refine v_goto o (tgt := 35) dX7_likeness_91 (by decide) ?_
          refine v_sub [1, 2, 3, 4, 0] (lv2 := [(0, .ref a), (1, .int p1), (2, .int p2), (3, .ref x3), (4, .int x4_88)]) rfl ?_
          exact ih g77 x3 x4_88 hx3 h.1 (by have := h.2; omega)
        · replace h := h.2 c80
          refine v_iconst o (v := 2) dX7_likeness_83 (by decide) ?_
          refine v_iload o 4 dX7_likeness_84 rfl ?_
          refine v_iadd o dX7_likeness_86 ?_
          exact v_iret o rfl hr dX7_likeness_87 h
  unfold vX7_likeness at h
  refine v_aload_n o 0 dX7_likeness_0 rfl ?_
  refine v_gfR o lkX7_19 (by decide) (wfComp_o ha) (wfComp_r1 ha) dX7_likeness_1 ?_
  refine v_iload_n o 2 dX7_likeness_4 rfl ?_
  refine v_cVr o [.int p2] [] (fun sz => metX0_at l G P f sz (a + 4) (wfComp_t1 ha) p2) (cwX7_102 o.1.2.2.2.2 (by decide)) ⟨_, _, rfl⟩ (by decide) (wfBoard_o (wfComp_t1 ha)) rfl (Nat.le_of_ble_eq_true rfl) ⟨Nat.le_of_ble_eq_true rfl, Nat.le_of_ble_eq_true rfl⟩ dX7_likeness_5 rfl (fun r5 g5 h5 => ?_)
  obtain ⟨rfl, rfl⟩ := h5
  refine v_cVr o [] [] (fun sz => metX2_looseWord l G P f sz (atB (a + 4) p2) (is_atB (wfComp_t1 ha) p2)) (cwX7_206 o.1.2.2.2.2 (by decide)) ⟨_, _, rfl⟩ (by decide) (wfLoaf_o (is_atB (wfComp_t1 ha) p2)) rfl (Nat.le_of_ble_eq_true rfl) ⟨Nat.le_of_ble_eq_true rfl, Nat.le_of_ble_eq_true rfl⟩ dX7_likeness_8 rfl (fun r8 g8 h8 => ?_)
  obtain ⟨rfl, rfl⟩ := h8
  refine v_astore_n o (lv' := [(3, .ref ((atB (a + 4) p2) + 4)), (0, .ref a), (1, .int p1), (2, .int p2)]) dX7_likeness_11 rfl (by decide) rfl ?_
  refine v_aload_n o 1 dX7_likeness_12 rfl ?_
  refine v_gfR o lkX7_19 (by decide) (wfComp_o ha) (wfComp_r1 ha) dX7_likeness_13 ?_
  refine v_iload_n o 2 dX7_likeness_16 rfl ?_
  refine v_cVr o [.int p1] [] (fun sz => metX0_at l G P f sz (a + 4) (wfComp_t1 ha) p1) (cwX7_102 o.1.2.2.2.2 (by decide)) ⟨_, _, rfl⟩ (by decide) (wfBoard_o (wfComp_t1 ha)) rfl (Nat.le_of_ble_eq_true rfl) ⟨Nat.le_of_ble_eq_true rfl, Nat.le_of_ble_eq_true rfl⟩ dX7_likeness_17 rfl (fun r17 g17 h17 => ?_)
  obtain ⟨rfl, rfl⟩ := h17
  refine v_cVr o [] [] (fun sz => metX2_looseWord l G P f sz (atB (a + 4) p1) (is_atB (wfComp_t1 ha) p1)) (cwX7_206 o.1.2.2.2.2 (by decide)) ⟨_, _, rfl⟩ (by decide) (wfLoaf_o (is_atB (wfComp_t1 ha) p1)) rfl (Nat.le_of_ble_eq_true rfl) ⟨Nat.le_of_ble_eq_true rfl, Nat.le_of_ble_eq_true rfl⟩ dX7_likeness_20 rfl (fun r20 g20 h20 => ?_)
  obtain ⟨rfl, rfl⟩ := h20
  refine v_aload_n o 0 dX7_likeness_23 rfl ?_
  refine v_cVi o [.ref ((atB (a + 4) p2) + 4)] [] (fun sz => metX6_isSame l G P f sz ((atB (a + 4) p1) + 4) (wfLoaf_t1 (is_atB (wfComp_t1 ha) p1)) ((atB (a + 4) p2) + 4) (wfLoaf_t1 (is_atB (wfComp_t1 ha) p2)) _ h) (cwX7_331 o.1.2.2.2.2 (by decide)) ⟨_, _, rfl⟩ (by decide) (wfWord_o (wfLoaf_t1 (is_atB (wfComp_t1 ha) p1))) rfl (Nat.le_of_ble_eq_true rfl) ⟨Nat.le_of_ble_eq_true rfl, Nat.le_of_ble_eq_true rfl⟩ dX7_likeness_24 rfl (fun r24 g24 h => ?_)
  refine v_if_eq o (tgt := 32) dX7_likeness_27 (by decide) (fun c27 => ?_) (fun c27 => ?_)
  · replace h := h.1 c27
    refine v_iconst o (v := 0) dX7_likeness_32 (by decide) ?_
    refine v_istore o (lv' := [(4, .int 0), (3, .ref ((atB (a + 4) p2) + 4)), (0, .ref a), (1, .int p1), (2, .int p2)]) dX7_likeness_33 (by decide) rfl ?_
    refine v_sub [2, 3, 4, 1, 0] (lv2 := [(0, .ref a), (1, .int p1), (2, .int p2), (3, .ref ((atB (a + 4) p2) + 4)), (4, .int 0)]) rfl ?_
    exact (main (μ35 g24 ((atB (a + 4) p2) + 4) 0 + 1)) g24 ((atB (a + 4) p2) + 4) 0 (wfLoaf_t1 (is_atB (wfComp_t1 ha) p2)) h (Nat.lt_succ_self _)
  · replace h := h.2 c27
    refine v_iconst o (v := 1) dX7_likeness_30 (by decide) ?_
    exact v_iret o rfl hr dX7_likeness_31 h
def kX7_likeness (P : Sk) (f : St) (a : Nat) (p1 : Int32) (p2 : Int32) (K : Int32 → St → Prop) : Prop := False
theorem metX7_likeness (l : Launch) (G : Gl) (P : Sk) (f : St) (sz : Nat) (a : Nat) (ha : IsComp P a) (p1 : Int32) (p2 : Int32) (K : Int32 → St → Prop) (h : kX7_likeness P f a p1 p2 K) : Met l yX7_likeness (wU yX7_likeness cX7_likeness 5 (some .int)) rmX7_likeness (PcW G P f sz [.ref a, .int p1, .int p2]) (QcI G P sz K) 0 0 (frA P sz) := sorry

def vX7_alike (P : Sk) (f : St) (a : Nat) (p1 : Int32) (p2 : Int32) (K : Int32 → St → Prop) (X : String → St → Prop) : Prop :=
  kX7_needLoaf P f a p1 (fun g2 => kX7_needLoaf P g2 a p2 (fun g7 => kX7_likeness P g7 a p1 p2 (fun r13 g13 => K r13 g13)) X) X
abbrev rxX7_alike : Room := { frames := 7, cells := 2, slots := 12, locals := 116 }
set_option maxRecDepth 20000 in
set_option maxHeartbeats 4000000 in
theorem mX7_alike (l : Launch) (hl : l.stackTraces = false) (G : Gl) (P : Sk) (f : St) (sz : Nat) (a : Nat) (ha : IsComp P a) (p1 : Int32) (p2 : Int32) (K : Int32 → St → Prop) (X : String → St → Prop) (h : vX7_alike P f a p1 p2 K X)  :
  vx_Met l yX7_alike (wU yX7_alike cX7_alike 3 (some .int)) rxX7_alike (PcX G P f sz [.ref a, .int p1, .int p2]) (QcI G P sz K) (XX G P sz X) 2 12 (frA P sz) := by
  refine v_metx (own := RX7) [.ref a, .int p1, .int p2] (by decide) rfl (Nat.le_of_ble_eq_true rfl) (fun p e s m args below meth c hsz o hr hT hno => ?_)
  refine v_lv (lv2 := [(0, .ref a), (1, .int p1), (2, .int p2)]) rfl ?_
  unfold vX7_alike at h
  refine v_aload_n o 0 dX7_alike_0 rfl ?_
  refine v_iload_n o 1 dX7_alike_1 rfl ?_
  refine v_cxVv o hT hno [.int p1] [] rfl (fun sz => metX7_needLoaf l hl G P f sz a ha p1 _ _ h) (cxX7_98 o.1.2.2.2.2 (by decide)) ⟨_, _, rfl⟩ (by decide) (wfComp_o ha) rfl (Nat.le_of_ble_eq_true rfl) ⟨Nat.le_of_ble_eq_true rfl, Nat.le_of_ble_eq_true rfl⟩ ⟨Nat.le_of_ble_eq_true rfl, Nat.le_of_ble_eq_true rfl⟩ dX7_alike_2 rfl (fun g2 h => ?_)
  refine v_aload_n o 0 dX7_alike_5 rfl ?_
  refine v_iload_n o 2 dX7_alike_6 rfl ?_
  refine v_cxVv o hT hno [.int p2] [] rfl (fun sz => metX7_needLoaf l hl G P g2 sz a ha p2 _ _ h) (cxX7_98 o.1.2.2.2.2 (by decide)) ⟨_, _, rfl⟩ (by decide) (wfComp_o ha) rfl (Nat.le_of_ble_eq_true rfl) ⟨Nat.le_of_ble_eq_true rfl, Nat.le_of_ble_eq_true rfl⟩ ⟨Nat.le_of_ble_eq_true rfl, Nat.le_of_ble_eq_true rfl⟩ dX7_alike_7 rfl (fun g7 h => ?_)
  refine v_aload_n o 0 dX7_alike_10 rfl ?_
  refine v_iload_n o 1 dX7_alike_11 rfl ?_
  refine v_iload_n o 2 dX7_alike_12 rfl ?_
  refine v_cVi o [.int p1, .int p2] [] (fun sz => metX7_likeness l G P g7 sz a ha p1 p2 _ h) (cwX7_218 o.1.2.2.2.2 (by decide)) ⟨_, _, rfl⟩ (by decide) (wfComp_o ha) rfl (Nat.le_of_ble_eq_true rfl) ⟨Nat.le_of_ble_eq_true rfl, Nat.le_of_ble_eq_true rfl⟩ dX7_alike_13 rfl (fun r13 g13 h => ?_)
  exact v_xret (Nat.le_of_ble_eq_true rfl) (Nat.le_of_ble_eq_true rfl) (v_iret o rfl hr dX7_alike_16 h)
theorem cxL_74 {R : Room} {s : State} {args : Array Value} (ht : ∀ w ∈ lw_U, w.before args s = true) (hR : rxX7_alike.frames + 1 ≤ R.frames ∧ 8 + (3 + 11) + rxX7_alike.locals ≤ R.locals) : CallW R s args RL RX7 74 yX7_alike cX7_alike 3 (some .int) (wU yX7_alike cX7_alike 3 (some .int)) rxX7_alike 2 12 2 := cwV 2 ht (gUV (mU 993 (by decide +kernel) rfl) (mU 994 (by decide +kernel) rfl) (mU 995 (by decide +kernel) rfl) (mU 82 (by decide +kernel) rfl) (mU 996 (by decide +kernel) rfl)) rfl rfl rfl ⟨rfl, by decide +kernel, by decide +kernel, by decide +kernel⟩ hR
abbrev kX7_alike := @vX7_alike
abbrev metX7_alike := @mX7_alike

def vX7_period (P : Sk) (f : St) (a : Nat) (p1 : Int32) (K : Int32 → St → Prop) (X : String → St → Prop) : Prop :=
  kX7_needLoaf P f a p1 (fun g2 => kX5_timesUntilHome P g2 ((atB (a + 4) p1) + 7) (fun r16 g16 => K r16 g16)) X
abbrev rxX7_period : Room := { frames := 7, cells := 1, slots := 6, locals := 111 }
set_option maxRecDepth 20000 in
set_option maxHeartbeats 4000000 in
theorem mX7_period (l : Launch) (hl : l.stackTraces = false) (G : Gl) (P : Sk) (f : St) (sz : Nat) (a : Nat) (ha : IsComp P a) (p1 : Int32) (K : Int32 → St → Prop) (X : String → St → Prop) (h : vX7_period P f a p1 K X)  :
  vx_Met l yX7_period (wU yX7_period cX7_period 2 (some .int)) rxX7_period (PcX G P f sz [.ref a, .int p1]) (QcI G P sz K) (XX G P sz X) 1 6 (frA P sz) := by
  refine v_metx (own := RX7) [.ref a, .int p1] (by decide) rfl (Nat.le_of_ble_eq_true rfl) (fun p e s m args below meth c hsz o hr hT hno => ?_)
  refine v_lv (lv2 := [(0, .ref a), (1, .int p1)]) rfl ?_
  unfold vX7_period at h
  refine v_aload_n o 0 dX7_period_0 rfl ?_
  refine v_iload_n o 1 dX7_period_1 rfl ?_
  refine v_cxVv o hT hno [.int p1] [] rfl (fun sz => metX7_needLoaf l hl G P f sz a ha p1 _ _ h) (cxX7_98 o.1.2.2.2.2 (by decide)) ⟨_, _, rfl⟩ (by decide) (wfComp_o ha) rfl (Nat.le_of_ble_eq_true rfl) ⟨Nat.le_of_ble_eq_true rfl, Nat.le_of_ble_eq_true rfl⟩ ⟨Nat.le_of_ble_eq_true rfl, Nat.le_of_ble_eq_true rfl⟩ dX7_period_2 rfl (fun g2 h => ?_)
  refine v_aload_n o 0 dX7_period_5 rfl ?_
  refine v_gfR o lkX7_19 (by decide) (wfComp_o ha) (wfComp_r1 ha) dX7_period_6 ?_
  refine v_iload_n o 1 dX7_period_9 rfl ?_
  refine v_cVr o [.int p1] [] (fun sz => metX0_at l G P g2 sz (a + 4) (wfComp_t1 ha) p1) (cwX7_102 o.1.2.2.2.2 (by decide)) ⟨_, _, rfl⟩ (by decide) (wfBoard_o (wfComp_t1 ha)) rfl (Nat.le_of_ble_eq_true rfl) ⟨Nat.le_of_ble_eq_true rfl, Nat.le_of_ble_eq_true rfl⟩ dX7_period_10 rfl (fun r10 g10 h10 => ?_)
  obtain ⟨rfl, rfl⟩ := h10
  refine v_cVr o [] [] (fun sz => metX2_trace l G P g2 sz (atB (a + 4) p1) (is_atB (wfComp_t1 ha) p1)) (cwX7_124 o.1.2.2.2.2 (by decide)) ⟨_, _, rfl⟩ (by decide) (wfLoaf_o (is_atB (wfComp_t1 ha) p1)) rfl (Nat.le_of_ble_eq_true rfl) ⟨Nat.le_of_ble_eq_true rfl, Nat.le_of_ble_eq_true rfl⟩ dX7_period_13 rfl (fun r13 g13 h13 => ?_)
  obtain ⟨rfl, rfl⟩ := h13
  refine v_cVi o [] [] (fun sz => metX5_timesUntilHome l G P g2 sz ((atB (a + 4) p1) + 7) (wfLoaf_t2 (is_atB (wfComp_t1 ha) p1)) _ h) (cwX7_221 o.1.2.2.2.2 (by decide)) ⟨_, _, rfl⟩ (by decide) (wfTrace_o (wfLoaf_t2 (is_atB (wfComp_t1 ha) p1))) rfl (Nat.le_of_ble_eq_true rfl) ⟨Nat.le_of_ble_eq_true rfl, Nat.le_of_ble_eq_true rfl⟩ dX7_period_16 rfl (fun r16 g16 h => ?_)
  exact v_xret (Nat.le_of_ble_eq_true rfl) (Nat.le_of_ble_eq_true rfl) (v_iret o rfl hr dX7_period_19 h)
theorem cxL_77 {R : Room} {s : State} {args : Array Value} (ht : ∀ w ∈ lw_U, w.before args s = true) (hR : rxX7_period.frames + 1 ≤ R.frames ∧ 8 + (2 + 11) + rxX7_period.locals ≤ R.locals) : CallW R s args RL RX7 77 yX7_period cX7_period 2 (some .int) (wU yX7_period cX7_period 2 (some .int)) rxX7_period 1 6 1 := cwV 1 ht (gUV (mU 1000 (by decide +kernel) rfl) (mU 1001 (by decide +kernel) rfl) (mU 1002 (by decide +kernel) rfl) (mU 82 (by decide +kernel) rfl) (mU 1003 (by decide +kernel) rfl)) rfl rfl rfl ⟨rfl, by decide +kernel, by decide +kernel, by decide +kernel⟩ hR
abbrev kX7_period := @vX7_period
abbrev metX7_period := @mX7_period

def bX7_looseShare_4 (P : Sk) (a : Nat) (L4 : St → Int32 → Int32 → Prop) (K : UInt64 → St → Prop) (f : St) (x1 : Int32) (x2 : Int32) : Prop :=
  kX0_size P f (a + 4) (fun r9 g9 => (r9 ≤ x2 → kX7_crossingsOfAll P g9 a (fun r39 g39 => (¬ r39 = 0 → vf_n64 (FP.ddiv (FP.i2d x1) (FP.i2d r39)) ∧ (K (FP.ddiv (FP.i2d x1) (FP.i2d r39)) g39)) ∧ (r39 = 0 → K (FP.dconst1) g39))) ∧ (¬ r9 ≤ x2 → kX6_size P g9 ((atB (a + 4) x2) + 4) (fun r27 g27 => ∀ x1_31 : Int32, x1_31 = x1 + r27 → ∀ x2_32 : Int32, x2_32 = x2 + 1 → L4 g27 x1_31 x2_32)))
def vX7_looseShare (P : Sk) (f : St) (a : Nat) (L4 : St → Int32 → Int32 → Prop) (K : UInt64 → St → Prop) : Prop :=
  L4 f 0 0
set_option maxRecDepth 20000 in
set_option maxHeartbeats 4000000 in
theorem mX7_looseShare (l : Launch) (G : Gl) (P : Sk) (f : St) (sz : Nat) (a : Nat) (ha : IsComp P a) (K : UInt64 → St → Prop) (I4 : St → Int32 → Int32 → Prop) (μ4 : St → Int32 → Int32 → Nat) 
  (h : vX7_looseShare P f a I4 K)
  (h4 : ∀ (g : St) (x1 : Int32) (x2 : Int32) , I4 g x1 x2 → bX7_looseShare_4 P a (fun g' z0 z1 => I4 g' z0 z1 ∧ μ4 g' z0 z1 < μ4 g x1 x2) K g x1 x2) :
  Met l yX7_looseShare (wU yX7_looseShare cX7_looseShare 3 (some .double)) rmX7_looseShare (PcW G P f sz [.ref a]) (QcD G P sz K) 0 0 (frA P sz) := by
  refine v_met (own := RX7) [.ref a] (by decide +kernel) rfl (Nat.le_of_ble_eq_true rfl) (fun p e s m args below meth c hsz o hr hnm => ?_)
  refine v_lv (lv2 := [(0, .ref a)]) rfl ?_
  have main : ∀ n : Nat, (∀ (g : St) (x1 : Int32) (x2 : Int32) , I4 g x1 x2 → μ4 g x1 x2 < n → V p l e rmX7_looseShare s m args below meth c 3 G (frA P sz) (MQ below (QcD G P sz K) args s 0 0 (frA P sz)) 0 0 P [(0, .ref a), (1, .int x1), (2, .int x2)] [] 4 g) := by
    intro n
    induction n with
    | zero => exact fun g x1 x2 hI hm => absurd hm (Nat.not_lt_zero _)
    | succ n ih =>
      intro g x1 x2 hI hm
      have h := h4 g x1 x2 hI
      clear hI
      unfold bX7_looseShare_4 at h
      refine v_iload_n o 2 dX7_looseShare_4 rfl ?_
      refine v_aload_n o 0 dX7_looseShare_5 rfl ?_
      refine v_gfR o lkX7_19 (by decide) (wfComp_o ha) (wfComp_r1 ha) dX7_looseShare_6 ?_
      refine v_cVi o [] [.int x2] (fun sz => metX0_size l G P g sz (a + 4) (wfComp_t1 ha) _ h) (cwX7_65 o.1.2.2.2.2 (by decide)) ⟨_, _, rfl⟩ (by decide) (wfBoard_o (wfComp_t1 ha)) rfl (Nat.le_of_ble_eq_true rfl) ⟨Nat.le_of_ble_eq_true rfl, Nat.le_of_ble_eq_true rfl⟩ dX7_looseShare_9 rfl (fun r9 g9 h => ?_)
      refine v_icmp_ge o (tgt := 38) dX7_looseShare_12 (by decide) (fun c12 => ?_) (fun c12 => ?_)
      · replace h := h.1 c12
        refine v_aload_n o 0 dX7_looseShare_38 rfl ?_
        refine v_cVi o [] [] (fun sz => metX7_crossingsOfAll l G P g9 sz a ha _ h) (cwX7_224 o.1.2.2.2.2 (by decide)) ⟨_, _, rfl⟩ (by decide) (wfComp_o ha) rfl (Nat.le_of_ble_eq_true rfl) ⟨Nat.le_of_ble_eq_true rfl, Nat.le_of_ble_eq_true rfl⟩ dX7_looseShare_39 rfl (fun r39 g39 h => ?_)
        refine v_istore_n o (lv' := [(2, .int r39), (0, .ref a), (1, .int x1)]) dX7_looseShare_42 rfl (by decide) rfl ?_
        refine v_iload_n o 0 dX7_looseShare_43 rfl ?_
        refine v_if_ne o (tgt := 51) dX7_looseShare_44 (by decide) (fun c44 => ?_) (fun c44 => ?_)
        · replace h := h.1 c44
          refine v_iload_n o 2 dX7_looseShare_51 rfl ?_
          refine v_i2d o dX7_looseShare_52 ?_
          refine v_iload_n o 0 dX7_looseShare_53 rfl ?_
          refine v_i2d o dX7_looseShare_54 ?_
          refine v_ddiv o dX7_looseShare_55 h.1 ?_
          replace h := h.2
          exact v_dret o rfl hr dX7_looseShare_56 h
        · replace h := h.2 c44
          refine v_dconst1 o dX7_looseShare_47 ?_
          refine v_goto o (tgt := 56) dX7_looseShare_48 (by decide) ?_
          exact v_dret o rfl hr dX7_looseShare_56 h
      · replace h := h.2 c12
        refine v_iload_n o 1 dX7_looseShare_15 rfl ?_
        refine v_aload_n o 0 dX7_looseShare_16 rfl ?_
        refine v_gfR o lkX7_19 (by decide) (wfComp_o ha) (wfComp_r1 ha) dX7_looseShare_17 ?_
        refine v_iload_n o 2 dX7_looseShare_20 rfl ?_
        refine v_cVr o [.int x2] [.int x1] (fun sz => metX0_at l G P g9 sz (a + 4) (wfComp_t1 ha) x2) (cwX7_102 o.1.2.2.2.2 (by decide)) ⟨_, _, rfl⟩ (by decide) (wfBoard_o (wfComp_t1 ha)) rfl (Nat.le_of_ble_eq_true rfl) ⟨Nat.le_of_ble_eq_true rfl, Nat.le_of_ble_eq_true rfl⟩ dX7_looseShare_21 rfl (fun r21 g21 h21 => ?_)
        obtain ⟨rfl, rfl⟩ := h21
        refine v_cVr o [] [.int x1] (fun sz => metX2_looseWord l G P g9 sz (atB (a + 4) x2) (is_atB (wfComp_t1 ha) x2)) (cwX7_206 o.1.2.2.2.2 (by decide)) ⟨_, _, rfl⟩ (by decide) (wfLoaf_o (is_atB (wfComp_t1 ha) x2)) rfl (Nat.le_of_ble_eq_true rfl) ⟨Nat.le_of_ble_eq_true rfl, Nat.le_of_ble_eq_true rfl⟩ dX7_looseShare_24 rfl (fun r24 g24 h24 => ?_)
        obtain ⟨rfl, rfl⟩ := h24
        refine v_cVi o [] [.int x1] (fun sz => metX6_size l G P g9 sz ((atB (a + 4) x2) + 4) (wfLoaf_t1 (is_atB (wfComp_t1 ha) x2)) _ h) (cwX7_106 o.1.2.2.2.2 (by decide)) ⟨_, _, rfl⟩ (by decide) (wfWord_o (wfLoaf_t1 (is_atB (wfComp_t1 ha) x2))) rfl (Nat.le_of_ble_eq_true rfl) ⟨Nat.le_of_ble_eq_true rfl, Nat.le_of_ble_eq_true rfl⟩ dX7_looseShare_27 rfl (fun r27 g27 h => ?_)
        refine v_iadd o dX7_looseShare_30 ?_
        refine v_topi (fun x1_31 ex1_31 => ?_)
        replace h := h x1_31 ex1_31
        refine v_istore_n o (lv' := [(1, .int x1_31), (0, .ref a), (2, .int x2)]) dX7_looseShare_31 rfl (by decide) rfl ?_
        obtain ⟨x2_32, ex2_32⟩ : ∃ y : Int32, y = x2 + 1 := ⟨_, rfl⟩
        replace h := h x2_32 ex2_32
        refine v_iinc o (v := x2_32) (lv' := [(2, .int x2_32), (1, .int x1_31), (0, .ref a)]) 2 dX7_looseShare_32 rfl (by rw [ex2_32]; rfl) (by decide) rfl ?_
        refine v_goto o (tgt := 4) dX7_looseShare_35 (by decide) ?_
        refine v_sub [2, 1, 0] (lv2 := [(0, .ref a), (1, .int x1_31), (2, .int x2_32)]) rfl ?_
        exact ih g27 x1_31 x2_32  h.1 (by have := h.2; omega)
  unfold vX7_looseShare at h
  refine v_iconst o (v := 0) dX7_looseShare_0 (by decide) ?_
  refine v_istore_n o (lv' := [(1, .int 0), (0, .ref a)]) dX7_looseShare_1 rfl (by decide) rfl ?_
  refine v_iconst o (v := 0) dX7_looseShare_2 (by decide) ?_
  refine v_istore_n o (lv' := [(2, .int 0), (1, .int 0), (0, .ref a)]) dX7_looseShare_3 rfl (by decide) rfl ?_
  refine v_sub [2, 1, 0] (lv2 := [(0, .ref a), (1, .int 0), (2, .int 0)]) rfl ?_
  exact (main (μ4 f 0 0 + 1)) f 0 0  h (Nat.lt_succ_self _)
def kX7_looseShare (P : Sk) (f : St) (a : Nat) (K : UInt64 → St → Prop) : Prop := False
theorem metX7_looseShare (l : Launch) (G : Gl) (P : Sk) (f : St) (sz : Nat) (a : Nat) (ha : IsComp P a) (K : UInt64 → St → Prop) (h : kX7_looseShare P f a K) : Met l yX7_looseShare (wU yX7_looseShare cX7_looseShare 3 (some .double)) rmX7_looseShare (PcW G P f sz [.ref a]) (QcD G P sz K) 0 0 (frA P sz) := sorry

def bX7_hashOfLoaf_6 (P : Sk) (a : Nat) (p1 : Int64) (p3 : Int32) (L6 : St → Int64 → Int32 → Prop) (L63 : St → Int64 → Int32 → Prop) (L110 : St → Int64 → Int32 → Prop) (K : Int64 → St → Prop) (f : St) (x4 : Int64) (x6 : Int32) : Prop :=
  (10 < x6 → kX5_timesUntilHome P f ((atB (a + 4) p3) + 7) (fun r53 g53 => ∀ x4_58 : Int64, x4_58 = (31 * x4) + (r53.toInt64) → L63 g53 x4_58 0)) ∧ (¬ 10 < x6 → kX7_numberOfLoaf P f a p3 x6 (fun r23 g23 => ∀ x4_28 : Int64, x4_28 = (31 * x4) + (r23.toInt64) → ∀ x6_30 : Int32, x6_30 = x6 + 1 → L6 g23 x4_28 x6_30))
def bX7_hashOfLoaf_63 (P : Sk) (a : Nat) (p1 : Int64) (p3 : Int32) (L6 : St → Int64 → Int32 → Prop) (L63 : St → Int64 → Int32 → Prop) (L110 : St → Int64 → Int32 → Prop) (K : Int64 → St → Prop) (f : St) (x4 : Int64) (x6 : Int32) : Prop :=
  (3 < x6 → kX2_hashOfParts P f (atB (a + 4) p3) x4 (fun r102 g102 => L110 g102 r102 0)) ∧ (¬ 3 < x6 → kX7_looseSizeIfChanged P f a p3 x6 (fun r79 g79 => ∀ x4_84 : Int64, x4_84 = (31 * x4) + (r79.toInt64) → ∀ x6_86 : Int32, x6_86 = x6 + 1 → L63 g79 x4_84 x6_86))
def bX7_hashOfLoaf_110 (P : Sk) (a : Nat) (p1 : Int64) (p3 : Int32) (L6 : St → Int64 → Int32 → Prop) (L63 : St → Int64 → Int32 → Prop) (L110 : St → Int64 → Int32 → Prop) (K : Int64 → St → Prop) (f : St) (x4 : Int64) (x6 : Int32) : Prop :=
  kX0_size P f (a + 4) (fun r116 g116 => (r116 ≤ x6 → K x4 g116) ∧ (¬ r116 ≤ x6 → kX7_likeness P g116 a p3 x6 (fun r132 g132 => ∀ x4_137 : Int64, x4_137 = (31 * x4) + (r132.toInt64) → ∀ x6_139 : Int32, x6_139 = x6 + 1 → L110 g132 x4_137 x6_139)))
def vX7_hashOfLoaf (P : Sk) (f : St) (a : Nat) (p1 : Int64) (p3 : Int32) (L6 : St → Int64 → Int32 → Prop) (L63 : St → Int64 → Int32 → Prop) (L110 : St → Int64 → Int32 → Prop) (K : Int64 → St → Prop) : Prop :=
  L6 f p1 0
set_option maxRecDepth 20000 in
set_option maxHeartbeats 4000000 in
theorem mX7_hashOfLoaf (l : Launch) (G : Gl) (P : Sk) (f : St) (sz : Nat) (a : Nat) (ha : IsComp P a) (p1 : Int64) (p3 : Int32) (K : Int64 → St → Prop) (I6 : St → Int64 → Int32 → Prop) (μ6 : St → Int64 → Int32 → Nat) (I63 : St → Int64 → Int32 → Prop) (μ63 : St → Int64 → Int32 → Nat) (I110 : St → Int64 → Int32 → Prop) (μ110 : St → Int64 → Int32 → Nat) 
  (h : vX7_hashOfLoaf P f a p1 p3 I6 I63 I110 K)
  (h6 : ∀ (g : St) (x4 : Int64) (x6 : Int32) , I6 g x4 x6 → bX7_hashOfLoaf_6 P a p1 p3 (fun g' z0 z1 => I6 g' z0 z1 ∧ μ6 g' z0 z1 < μ6 g x4 x6) (fun g' z0 z1 => I63 g' z0 z1 ∧ μ63 g' z0 z1 < μ6 g x4 x6) (fun g' z0 z1 => I110 g' z0 z1 ∧ μ110 g' z0 z1 < μ6 g x4 x6) K g x4 x6)
  (h63 : ∀ (g : St) (x4 : Int64) (x6 : Int32) , I63 g x4 x6 → bX7_hashOfLoaf_63 P a p1 p3 (fun g' z0 z1 => I6 g' z0 z1 ∧ μ6 g' z0 z1 < μ63 g x4 x6) (fun g' z0 z1 => I63 g' z0 z1 ∧ μ63 g' z0 z1 < μ63 g x4 x6) (fun g' z0 z1 => I110 g' z0 z1 ∧ μ110 g' z0 z1 < μ63 g x4 x6) K g x4 x6)
  (h110 : ∀ (g : St) (x4 : Int64) (x6 : Int32) , I110 g x4 x6 → bX7_hashOfLoaf_110 P a p1 p3 (fun g' z0 z1 => I6 g' z0 z1 ∧ μ6 g' z0 z1 < μ110 g x4 x6) (fun g' z0 z1 => I63 g' z0 z1 ∧ μ63 g' z0 z1 < μ110 g x4 x6) (fun g' z0 z1 => I110 g' z0 z1 ∧ μ110 g' z0 z1 < μ110 g x4 x6) K g x4 x6) :
  Met l yX7_hashOfLoaf (wU yX7_hashOfLoaf cX7_hashOfLoaf 7 (some .long)) rmX7_hashOfLoaf (PcW G P f sz [.ref a, .long p1, .int p3]) (QcL G P sz K) 0 0 (frA P sz) := by
  refine v_met (own := RX7) [.ref a, .long p1, .int p3] (by decide +kernel) rfl (Nat.le_of_ble_eq_true rfl) (fun p e s m args below meth c hsz o hr hnm => ?_)
  refine v_lv (lv2 := [(0, .ref a), (1, .long p1), (3, .int p3)]) rfl ?_
  have main : ∀ n : Nat, (∀ (g : St) (x4 : Int64) (x6 : Int32) , I6 g x4 x6 → μ6 g x4 x6 < n → V p l e rmX7_hashOfLoaf s m args below meth c 7 G (frA P sz) (MQ below (QcL G P sz K) args s 0 0 (frA P sz)) 0 0 P [(0, .ref a), (1, .long p1), (3, .int p3), (4, .long x4), (6, .int x6)] [] 6 g) ∧ (∀ (g : St) (x4 : Int64) (x6 : Int32) , I63 g x4 x6 → μ63 g x4 x6 < n → V p l e rmX7_hashOfLoaf s m args below meth c 7 G (frA P sz) (MQ below (QcL G P sz K) args s 0 0 (frA P sz)) 0 0 P [(0, .ref a), (1, .long p1), (3, .int p3), (4, .long x4), (6, .int x6)] [] 63 g) ∧ (∀ (g : St) (x4 : Int64) (x6 : Int32) , I110 g x4 x6 → μ110 g x4 x6 < n → V p l e rmX7_hashOfLoaf s m args below meth c 7 G (frA P sz) (MQ below (QcL G P sz K) args s 0 0 (frA P sz)) 0 0 P [(0, .ref a), (1, .long p1), (3, .int p3), (4, .long x4), (6, .int x6)] [] 110 g) := by
    intro n
    induction n with
    | zero => exact ⟨fun g x4 x6 hI hm => absurd hm (Nat.not_lt_zero _), fun g x4 x6 hI hm => absurd hm (Nat.not_lt_zero _), fun g x4 x6 hI hm => absurd hm (Nat.not_lt_zero _)⟩
    | succ n ih =>
      refine ⟨?_, ?_, ?_⟩
      · intro g x4 x6 hI hm
        have h := h6 g x4 x6 hI
        clear hI
        unfold bX7_hashOfLoaf_6 at h
        refine v_iload o 4 dX7_hashOfLoaf_6 rfl ?_
        refine v_bipush o (v := 10) dX7_hashOfLoaf_8 (by decide) ?_
        refine v_icmp_gt o (tgt := 36) dX7_hashOfLoaf_10 (by decide) (fun c10 => ?_) (fun c10 => ?_)
        · replace h := h.1 c10
          refine v_ldc2 o (v := 31) dX7_hashOfLoaf_36 (mU 396 (by decide +kernel) rfl) ?_
          refine v_lload o 3 dX7_hashOfLoaf_39 rfl ?_
          refine v_lmul o dX7_hashOfLoaf_41 ?_
          refine v_aload_n o 0 dX7_hashOfLoaf_42 rfl ?_
          refine v_gfR o lkX7_19 (by decide) (wfComp_o ha) (wfComp_r1 ha) dX7_hashOfLoaf_43 ?_
          refine v_iload_n o 2 dX7_hashOfLoaf_46 rfl ?_
          refine v_cVr o [.int p3] [.long (31 * x4)] (fun sz => metX0_at l G P g sz (a + 4) (wfComp_t1 ha) p3) (cwX7_102 o.1.2.2.2.2 (by decide)) ⟨_, _, rfl⟩ (by decide) (wfBoard_o (wfComp_t1 ha)) rfl (Nat.le_of_ble_eq_true rfl) ⟨Nat.le_of_ble_eq_true rfl, Nat.le_of_ble_eq_true rfl⟩ dX7_hashOfLoaf_47 rfl (fun r47 g47 h47 => ?_)
          obtain ⟨rfl, rfl⟩ := h47
          refine v_cVr o [] [.long (31 * x4)] (fun sz => metX2_trace l G P g sz (atB (a + 4) p3) (is_atB (wfComp_t1 ha) p3)) (cwX7_124 o.1.2.2.2.2 (by decide)) ⟨_, _, rfl⟩ (by decide) (wfLoaf_o (is_atB (wfComp_t1 ha) p3)) rfl (Nat.le_of_ble_eq_true rfl) ⟨Nat.le_of_ble_eq_true rfl, Nat.le_of_ble_eq_true rfl⟩ dX7_hashOfLoaf_50 rfl (fun r50 g50 h50 => ?_)
          obtain ⟨rfl, rfl⟩ := h50
          refine v_cVi o [] [.long (31 * x4)] (fun sz => metX5_timesUntilHome l G P g sz ((atB (a + 4) p3) + 7) (wfLoaf_t2 (is_atB (wfComp_t1 ha) p3)) _ h) (cwX7_221 o.1.2.2.2.2 (by decide)) ⟨_, _, rfl⟩ (by decide) (wfTrace_o (wfLoaf_t2 (is_atB (wfComp_t1 ha) p3))) rfl (Nat.le_of_ble_eq_true rfl) ⟨Nat.le_of_ble_eq_true rfl, Nat.le_of_ble_eq_true rfl⟩ dX7_hashOfLoaf_53 rfl (fun r53 g53 h => ?_)
          refine v_i2l o dX7_hashOfLoaf_56 ?_
          refine v_ladd o dX7_hashOfLoaf_57 ?_
          refine v_topl (fun x4_58 ex4_58 => ?_)
          replace h := h x4_58 ex4_58
          refine v_lstore o (lv' := [(4, .long x4_58), (0, .ref a), (1, .long p1), (3, .int p3), (6, .int x6)]) dX7_hashOfLoaf_58 (by decide) rfl ?_
          refine v_iconst o (v := 0) dX7_hashOfLoaf_60 (by decide) ?_
          refine v_istore o (lv' := [(6, .int 0), (4, .long x4_58), (0, .ref a), (1, .long p1), (3, .int p3)]) dX7_hashOfLoaf_61 (by decide) rfl ?_
          refine v_sub [2, 3, 4, 1, 0] (lv2 := [(0, .ref a), (1, .long p1), (3, .int p3), (4, .long x4_58), (6, .int 0)]) rfl ?_
          exact ih.2.1 g53 x4_58 0  h.1 (by have := h.2; omega)
        · replace h := h.2 c10
          refine v_ldc2 o (v := 31) dX7_hashOfLoaf_13 (mU 396 (by decide +kernel) rfl) ?_
          refine v_lload o 3 dX7_hashOfLoaf_16 rfl ?_
          refine v_lmul o dX7_hashOfLoaf_18 ?_
          refine v_aload_n o 0 dX7_hashOfLoaf_19 rfl ?_
          refine v_iload_n o 2 dX7_hashOfLoaf_20 rfl ?_
          refine v_iload o 4 dX7_hashOfLoaf_21 rfl ?_
          refine v_cVi o [.int p3, .int x6] [.long (31 * x4)] (fun sz => metX7_numberOfLoaf l G P g sz a ha p3 x6 _ h) (cwX7_203 o.1.2.2.2.2 (by decide)) ⟨_, _, rfl⟩ (by decide) (wfComp_o ha) rfl (Nat.le_of_ble_eq_true rfl) ⟨Nat.le_of_ble_eq_true rfl, Nat.le_of_ble_eq_true rfl⟩ dX7_hashOfLoaf_23 rfl (fun r23 g23 h => ?_)
          refine v_i2l o dX7_hashOfLoaf_26 ?_
          refine v_ladd o dX7_hashOfLoaf_27 ?_
          refine v_topl (fun x4_28 ex4_28 => ?_)
          replace h := h x4_28 ex4_28
          refine v_lstore o (lv' := [(4, .long x4_28), (0, .ref a), (1, .long p1), (3, .int p3), (6, .int x6)]) dX7_hashOfLoaf_28 (by decide) rfl ?_
          obtain ⟨x6_30, ex6_30⟩ : ∃ y : Int32, y = x6 + 1 := ⟨_, rfl⟩
          replace h := h x6_30 ex6_30
          refine v_iinc o (v := x6_30) (lv' := [(6, .int x6_30), (4, .long x4_28), (0, .ref a), (1, .long p1), (3, .int p3)]) 4 dX7_hashOfLoaf_30 rfl (by rw [ex6_30]; rfl) (by decide) rfl ?_
          refine v_goto o (tgt := 6) dX7_hashOfLoaf_33 (by decide) ?_
          refine v_sub [2, 3, 4, 1, 0] (lv2 := [(0, .ref a), (1, .long p1), (3, .int p3), (4, .long x4_28), (6, .int x6_30)]) rfl ?_
          exact ih.1 g23 x4_28 x6_30  h.1 (by have := h.2; omega)
      · intro g x4 x6 hI hm
        have h := h63 g x4 x6 hI
        clear hI
        unfold bX7_hashOfLoaf_63 at h
        refine v_iload o 4 dX7_hashOfLoaf_63 rfl ?_
        refine v_iconst o (v := 3) dX7_hashOfLoaf_65 (by decide) ?_
        refine v_icmp_gt o (tgt := 92) dX7_hashOfLoaf_66 (by decide) (fun c66 => ?_) (fun c66 => ?_)
        · replace h := h.1 c66
          refine v_aload_n o 0 dX7_hashOfLoaf_92 rfl ?_
          refine v_gfR o lkX7_19 (by decide) (wfComp_o ha) (wfComp_r1 ha) dX7_hashOfLoaf_93 ?_
          refine v_iload_n o 2 dX7_hashOfLoaf_96 rfl ?_
          refine v_cVr o [.int p3] [] (fun sz => metX0_at l G P g sz (a + 4) (wfComp_t1 ha) p3) (cwX7_102 o.1.2.2.2.2 (by decide)) ⟨_, _, rfl⟩ (by decide) (wfBoard_o (wfComp_t1 ha)) rfl (Nat.le_of_ble_eq_true rfl) ⟨Nat.le_of_ble_eq_true rfl, Nat.le_of_ble_eq_true rfl⟩ dX7_hashOfLoaf_97 rfl (fun r97 g97 h97 => ?_)
          obtain ⟨rfl, rfl⟩ := h97
          refine v_lload o 3 dX7_hashOfLoaf_100 rfl ?_
          refine v_cVl o [.long x4] [] (fun sz => metX2_hashOfParts l G P g sz (atB (a + 4) p3) (is_atB (wfComp_t1 ha) p3) x4 _ h) (cwX7_338 o.1.2.2.2.2 (by decide)) ⟨_, _, rfl⟩ (by decide) (wfLoaf_o (is_atB (wfComp_t1 ha) p3)) rfl (Nat.le_of_ble_eq_true rfl) ⟨Nat.le_of_ble_eq_true rfl, Nat.le_of_ble_eq_true rfl⟩ dX7_hashOfLoaf_102 rfl (fun r102 g102 h => ?_)
          refine v_lstore o (lv' := [(4, .long r102), (0, .ref a), (1, .long p1), (3, .int p3), (6, .int x6)]) dX7_hashOfLoaf_105 (by decide) rfl ?_
          refine v_iconst o (v := 0) dX7_hashOfLoaf_107 (by decide) ?_
          refine v_istore o (lv' := [(6, .int 0), (4, .long r102), (0, .ref a), (1, .long p1), (3, .int p3)]) dX7_hashOfLoaf_108 (by decide) rfl ?_
          refine v_sub [2, 3, 4, 1, 0] (lv2 := [(0, .ref a), (1, .long p1), (3, .int p3), (4, .long r102), (6, .int 0)]) rfl ?_
          exact ih.2.2 g102 r102 0  h.1 (by have := h.2; omega)
        · replace h := h.2 c66
          refine v_ldc2 o (v := 31) dX7_hashOfLoaf_69 (mU 396 (by decide +kernel) rfl) ?_
          refine v_lload o 3 dX7_hashOfLoaf_72 rfl ?_
          refine v_lmul o dX7_hashOfLoaf_74 ?_
          refine v_aload_n o 0 dX7_hashOfLoaf_75 rfl ?_
          refine v_iload_n o 2 dX7_hashOfLoaf_76 rfl ?_
          refine v_iload o 4 dX7_hashOfLoaf_77 rfl ?_
          refine v_cVi o [.int p3, .int x6] [.long (31 * x4)] (fun sz => metX7_looseSizeIfChanged l G P g sz a ha p3 x6 _ h) (cwX7_215 o.1.2.2.2.2 (by decide)) ⟨_, _, rfl⟩ (by decide) (wfComp_o ha) rfl (Nat.le_of_ble_eq_true rfl) ⟨Nat.le_of_ble_eq_true rfl, Nat.le_of_ble_eq_true rfl⟩ dX7_hashOfLoaf_79 rfl (fun r79 g79 h => ?_)
          refine v_i2l o dX7_hashOfLoaf_82 ?_
          refine v_ladd o dX7_hashOfLoaf_83 ?_
          refine v_topl (fun x4_84 ex4_84 => ?_)
          replace h := h x4_84 ex4_84
          refine v_lstore o (lv' := [(4, .long x4_84), (0, .ref a), (1, .long p1), (3, .int p3), (6, .int x6)]) dX7_hashOfLoaf_84 (by decide) rfl ?_
          obtain ⟨x6_86, ex6_86⟩ : ∃ y : Int32, y = x6 + 1 := ⟨_, rfl⟩
          replace h := h x6_86 ex6_86
          refine v_iinc o (v := x6_86) (lv' := [(6, .int x6_86), (4, .long x4_84), (0, .ref a), (1, .long p1), (3, .int p3)]) 4 dX7_hashOfLoaf_86 rfl (by rw [ex6_86]; rfl) (by decide) rfl ?_
          refine v_goto o (tgt := 63) dX7_hashOfLoaf_89 (by decide) ?_
          refine v_sub [2, 3, 4, 1, 0] (lv2 := [(0, .ref a), (1, .long p1), (3, .int p3), (4, .long x4_84), (6, .int x6_86)]) rfl ?_
          exact ih.2.1 g79 x4_84 x6_86  h.1 (by have := h.2; omega)
      · intro g x4 x6 hI hm
        have h := h110 g x4 x6 hI
        clear hI
        unfold bX7_hashOfLoaf_110 at h
        refine v_iload o 4 dX7_hashOfLoaf_110 rfl ?_
        refine v_aload_n o 0 dX7_hashOfLoaf_112 rfl ?_
        refine v_gfR o lkX7_19 (by decide) (wfComp_o ha) (wfComp_r1 ha) dX7_hashOfLoaf_113 ?_
        refine v_cVi o [] [.int x6] (fun sz => metX0_size l G P g sz (a + 4) (wfComp_t1 ha) _ h) (cwX7_65 o.1.2.2.2.2 (by decide)) ⟨_, _, rfl⟩ (by decide) (wfBoard_o (wfComp_t1 ha)) rfl (Nat.le_of_ble_eq_true rfl) ⟨Nat.le_of_ble_eq_true rfl, Nat.le_of_ble_eq_true rfl⟩ dX7_hashOfLoaf_116 rfl (fun r116 g116 h => ?_)
        refine v_icmp_ge o (tgt := 145) dX7_hashOfLoaf_119 (by decide) (fun c119 => ?_) (fun c119 => ?_)
        · replace h := h.1 c119
          refine v_lload o 3 dX7_hashOfLoaf_145 rfl ?_
          exact v_lret o rfl hr dX7_hashOfLoaf_147 h
        · replace h := h.2 c119
          refine v_ldc2 o (v := 31) dX7_hashOfLoaf_122 (mU 396 (by decide +kernel) rfl) ?_
          refine v_lload o 3 dX7_hashOfLoaf_125 rfl ?_
          refine v_lmul o dX7_hashOfLoaf_127 ?_
          refine v_aload_n o 0 dX7_hashOfLoaf_128 rfl ?_
          refine v_iload_n o 2 dX7_hashOfLoaf_129 rfl ?_
          refine v_iload o 4 dX7_hashOfLoaf_130 rfl ?_
          refine v_cVi o [.int p3, .int x6] [.long (31 * x4)] (fun sz => metX7_likeness l G P g116 sz a ha p3 x6 _ h) (cwX7_218 o.1.2.2.2.2 (by decide)) ⟨_, _, rfl⟩ (by decide) (wfComp_o ha) rfl (Nat.le_of_ble_eq_true rfl) ⟨Nat.le_of_ble_eq_true rfl, Nat.le_of_ble_eq_true rfl⟩ dX7_hashOfLoaf_132 rfl (fun r132 g132 h => ?_)
          refine v_i2l o dX7_hashOfLoaf_135 ?_
          refine v_ladd o dX7_hashOfLoaf_136 ?_
          refine v_topl (fun x4_137 ex4_137 => ?_)
          replace h := h x4_137 ex4_137
          refine v_lstore o (lv' := [(4, .long x4_137), (0, .ref a), (1, .long p1), (3, .int p3), (6, .int x6)]) dX7_hashOfLoaf_137 (by decide) rfl ?_
          obtain ⟨x6_139, ex6_139⟩ : ∃ y : Int32, y = x6 + 1 := ⟨_, rfl⟩
          replace h := h x6_139 ex6_139
          refine v_iinc o (v := x6_139) (lv' := [(6, .int x6_139), (4, .long x4_137), (0, .ref a), (1, .long p1), (3, .int p3)]) 4 dX7_hashOfLoaf_139 rfl (by rw [ex6_139]; rfl) (by decide) rfl ?_
          refine v_goto o (tgt := 110) dX7_hashOfLoaf_142 (by decide) ?_
          refine v_sub [2, 3, 4, 1, 0] (lv2 := [(0, .ref a), (1, .long p1), (3, .int p3), (4, .long x4_137), (6, .int x6_139)]) rfl ?_
          exact ih.2.2 g132 x4_137 x6_139  h.1 (by have := h.2; omega)
  unfold vX7_hashOfLoaf at h
  refine v_lload_n o 1 dX7_hashOfLoaf_0 rfl ?_
  refine v_lstore o (lv' := [(4, .long p1), (0, .ref a), (1, .long p1), (3, .int p3)]) dX7_hashOfLoaf_1 (by decide) rfl ?_
  refine v_iconst o (v := 0) dX7_hashOfLoaf_3 (by decide) ?_
  refine v_istore o (lv' := [(6, .int 0), (4, .long p1), (0, .ref a), (1, .long p1), (3, .int p3)]) dX7_hashOfLoaf_4 (by decide) rfl ?_
  refine v_sub [2, 3, 4, 1, 0] (lv2 := [(0, .ref a), (1, .long p1), (3, .int p3), (4, .long p1), (6, .int 0)]) rfl ?_
  exact (main (μ6 f p1 0 + 1)).1 f p1 0  h (Nat.lt_succ_self _)
def kX7_hashOfLoaf (P : Sk) (f : St) (a : Nat) (p1 : Int64) (p3 : Int32) (K : Int64 → St → Prop) : Prop := False
theorem metX7_hashOfLoaf (l : Launch) (G : Gl) (P : Sk) (f : St) (sz : Nat) (a : Nat) (ha : IsComp P a) (p1 : Int64) (p3 : Int32) (K : Int64 → St → Prop) (h : kX7_hashOfLoaf P f a p1 p3 K) : Met l yX7_hashOfLoaf (wU yX7_hashOfLoaf cX7_hashOfLoaf 7 (some .long)) rmX7_hashOfLoaf (PcW G P f sz [.ref a, .long p1, .int p3]) (QcL G P sz K) 0 0 (frA P sz) := sorry

def jX7_bitsOfShare_50 (P : Sk) (p0 : UInt64) (L18 : St → UInt64 → Int64 → Int32 → Prop) (K : Int64 → St → Prop) (x2 : UInt64) (x4 : Int64) (x6 : Int32) (f : St) : Prop :=
  vf_n64 (FP.dsub x2 (FP.dconst1)) ∧ (vf_n64 (FP.dmul (FP.dsub x2 (FP.dconst1)) (4841369599423283200 : UInt64)) ∧ (∀ x6_58 : Int64, x6_58 = FP.d2l (FP.dmul (FP.dsub x2 (FP.dconst1)) (4841369599423283200 : UInt64)) → K ((x4 <<< ((52 : Int32).toInt64 &&& 63)) + x6_58) f))
def bX7_bitsOfShare_18 (P : Sk) (p0 : UInt64) (L18 : St → UInt64 → Int64 → Int32 → Prop) (K : Int64 → St → Prop) (f : St) (x2 : UInt64) (x4 : Int64) (x6 : Int32) : Prop :=
  (1023 ≤ x6 → jX7_bitsOfShare_50 P p0 L18 K x2 x4 x6 f) ∧ (¬ 1023 ≤ x6 → (0 ≤ Op.cmpValue (FP.dcmp x2 (FP.dconst1)) .g → jX7_bitsOfShare_50 P p0 L18 K x2 x4 x6 f) ∧ (¬ 0 ≤ Op.cmpValue (FP.dcmp x2 (FP.dconst1)) .g → vf_n64 (FP.dmul x2 (4611686018427387904 : UInt64)) ∧ (∀ x2_37 : UInt64, x2_37 = FP.dmul x2 (4611686018427387904 : UInt64) → ∀ x4_42 : Int64, x4_42 = x4 - 1 → ∀ x6_44 : Int32, x6_44 = x6 + 1 → L18 f x2_37 x4_42 x6_44)))
def vX7_bitsOfShare (P : Sk) (f : St) (p0 : UInt64) (L18 : St → UInt64 → Int64 → Int32 → Prop) (K : Int64 → St → Prop) : Prop :=
  (0 < Op.cmpValue (FP.dcmp p0 (FP.dconst0)) .g → L18 f p0 1023 0) ∧ (¬ 0 < Op.cmpValue (FP.dcmp p0 (FP.dconst0)) .g → K 0 f)
set_option maxRecDepth 20000 in
set_option maxHeartbeats 4000000 in
theorem mX7_bitsOfShare (l : Launch) (G : Gl) (P : Sk) (f : St) (sz : Nat) (p0 : UInt64) (K : Int64 → St → Prop) (I18 : St → UInt64 → Int64 → Int32 → Prop) (μ18 : St → UInt64 → Int64 → Int32 → Nat) 
  (h : vX7_bitsOfShare P f p0 I18 K)
  (h18 : ∀ (g : St) (x2 : UInt64) (x4 : Int64) (x6 : Int32) , I18 g x2 x4 x6 → bX7_bitsOfShare_18 P p0 (fun g' z0 z1 z2 => I18 g' z0 z1 z2 ∧ μ18 g' z0 z1 z2 < μ18 g x2 x4 x6) K g x2 x4 x6) :
  Met l yX7_bitsOfShare (wU yX7_bitsOfShare cX7_bitsOfShare 8 (some .long)) rmX7_bitsOfShare (PcW G P f sz [.double p0]) (QcL G P sz K) 0 0 (frA P sz) := by
  refine v_met (own := RX7) [.double p0] (by decide +kernel) rfl (Nat.le_of_ble_eq_true rfl) (fun p e s m args below meth c hsz o hr hnm => ?_)
  refine v_lv (lv2 := [(0, .double p0)]) rfl ?_
  have main : ∀ n : Nat, (∀ (g : St) (x2 : UInt64) (x4 : Int64) (x6 : Int32) , I18 g x2 x4 x6 → μ18 g x2 x4 x6 < n → V p l e rmX7_bitsOfShare s m args below meth c 8 G (frA P sz) (MQ below (QcL G P sz K) args s 0 0 (frA P sz)) 0 0 P [(0, .double p0), (2, .double x2), (4, .long x4), (6, .int x6)] [] 18 g) := by
    intro n
    induction n with
    | zero => exact fun g x2 x4 x6 hI hm => absurd hm (Nat.not_lt_zero _)
    | succ n ih =>
      intro g x2 x4 x6 hI hm
      have h := h18 g x2 x4 x6 hI
      clear hI
      have J50 : ∀ (x2_50 : UInt64) (x4_50 : Int64) (x6_50 : Int32) (g50 : St), jX7_bitsOfShare_50 P p0 (fun g' z0 z1 z2 => I18 g' z0 z1 z2 ∧ μ18 g' z0 z1 z2 < μ18 g x2 x4 x6) K x2_50 x4_50 x6_50 g50 → V p l e rmX7_bitsOfShare s m args below meth c 8 G (frA P sz) (MQ below (QcL G P sz K) args s 0 0 (frA P sz)) 0 0 P [(0, .double p0), (2, .double x2_50), (4, .long x4_50), (6, .int x6_50)] [] 50 g50 := by
        intro x2_50 x4_50 x6_50 g50  h
        unfold jX7_bitsOfShare_50 at h
        refine v_dload_n o 1 dX7_bitsOfShare_50 rfl ?_
        refine v_dconst1 o dX7_bitsOfShare_51 ?_
        refine v_dsub o dX7_bitsOfShare_52 h.1 ?_
        replace h := h.2
        refine v_ldc2d o (v := 4841369599423283200) dX7_bitsOfShare_53 (mU 601 (by decide +kernel) rfl) ?_
        refine v_dmul o dX7_bitsOfShare_56 h.1 ?_
        replace h := h.2
        refine v_d2l o dX7_bitsOfShare_57 ?_
        refine v_topl (fun x6_58 ex6_58 => ?_)
        replace h := h x6_58 ex6_58
        refine v_lstore o (lv' := [(6, .long x6_58), (0, .double p0), (2, .double x2_50), (4, .long x4_50)]) dX7_bitsOfShare_58 (by decide) rfl ?_
        refine v_lload o 3 dX7_bitsOfShare_60 rfl ?_
        refine v_bipush o (v := 52) dX7_bitsOfShare_62 (by decide) ?_
        refine v_lshl o dX7_bitsOfShare_64 ?_
        refine v_lload o 0 dX7_bitsOfShare_65 rfl ?_
        refine v_ladd o dX7_bitsOfShare_67 ?_
        exact v_lret o rfl hr dX7_bitsOfShare_68 h
      unfold bX7_bitsOfShare_18 at h
      refine v_iload o 3 dX7_bitsOfShare_18 rfl ?_
      refine v_sipush o (v := 1023) dX7_bitsOfShare_20 (by decide) ?_
      refine v_icmp_ge o (tgt := 50) dX7_bitsOfShare_23 (by decide) (fun c23 => ?_) (fun c23 => ?_)
      · replace h := h.1 c23
        refine v_sub [0, 1, 2, 3] (lv2 := [(0, .double p0), (2, .double x2), (4, .long x4), (6, .int x6)]) rfl ?_
        exact J50 x2 x4 x6 g  h
      · replace h := h.2 c23
        refine v_dload_n o 1 dX7_bitsOfShare_26 rfl ?_
        refine v_dconst1 o dX7_bitsOfShare_27 ?_
        refine v_dcmp o dX7_bitsOfShare_28 ?_
        refine v_if_ge o (tgt := 50) dX7_bitsOfShare_29 (by decide) (fun c29 => ?_) (fun c29 => ?_)
        · replace h := h.1 c29
          refine v_sub [0, 1, 2, 3] (lv2 := [(0, .double p0), (2, .double x2), (4, .long x4), (6, .int x6)]) rfl ?_
          exact J50 x2 x4 x6 g  h
        · replace h := h.2 c29
          refine v_dload_n o 1 dX7_bitsOfShare_32 rfl ?_
          refine v_ldc2d o (v := 4611686018427387904) dX7_bitsOfShare_33 (mU 600 (by decide +kernel) rfl) ?_
          refine v_dmul o dX7_bitsOfShare_36 h.1 ?_
          replace h := h.2
          refine v_topd (fun x2_37 ex2_37 => ?_)
          replace h := h x2_37 ex2_37
          refine v_dstore_n o (lv' := [(2, .double x2_37), (0, .double p0), (4, .long x4), (6, .int x6)]) dX7_bitsOfShare_37 rfl (by decide) rfl ?_
          refine v_lload o 2 dX7_bitsOfShare_38 rfl ?_
          refine v_lconst o (v := 1) dX7_bitsOfShare_40 (by decide) ?_
          refine v_lsub o dX7_bitsOfShare_41 ?_
          refine v_topl (fun x4_42 ex4_42 => ?_)
          replace h := h x4_42 ex4_42
          refine v_lstore o (lv' := [(4, .long x4_42), (2, .double x2_37), (0, .double p0), (6, .int x6)]) dX7_bitsOfShare_42 (by decide) rfl ?_
          obtain ⟨x6_44, ex6_44⟩ : ∃ y : Int32, y = x6 + 1 := ⟨_, rfl⟩
          replace h := h x6_44 ex6_44
          refine v_iinc o (v := x6_44) (lv' := [(6, .int x6_44), (4, .long x4_42), (2, .double x2_37), (0, .double p0)]) 3 dX7_bitsOfShare_44 rfl (by rw [ex6_44]; rfl) (by decide) rfl ?_
          refine v_goto o (tgt := 18) dX7_bitsOfShare_47 (by decide) ?_
          refine v_sub [3, 2, 1, 0] (lv2 := [(0, .double p0), (2, .double x2_37), (4, .long x4_42), (6, .int x6_44)]) rfl ?_
          exact ih g x2_37 x4_42 x6_44  h.1 (by have := h.2; omega)
  unfold vX7_bitsOfShare at h
  refine v_dload_n o 0 dX7_bitsOfShare_0 rfl ?_
  refine v_dconst0 o dX7_bitsOfShare_1 ?_
  refine v_dcmp o dX7_bitsOfShare_2 ?_
  refine v_if_gt o (tgt := 8) dX7_bitsOfShare_3 (by decide) (fun c3 => ?_) (fun c3 => ?_)
  · replace h := h.1 c3
    refine v_dload_n o 0 dX7_bitsOfShare_8 rfl ?_
    refine v_dstore_n o (lv' := [(2, .double p0), (0, .double p0)]) dX7_bitsOfShare_9 rfl (by decide) rfl ?_
    refine v_ldc2 o (v := 1023) dX7_bitsOfShare_10 (mU 599 (by decide +kernel) rfl) ?_
    refine v_lstore o (lv' := [(4, .long 1023), (2, .double p0), (0, .double p0)]) dX7_bitsOfShare_13 (by decide) rfl ?_
    refine v_iconst o (v := 0) dX7_bitsOfShare_15 (by decide) ?_
    refine v_istore o (lv' := [(6, .int 0), (4, .long 1023), (2, .double p0), (0, .double p0)]) dX7_bitsOfShare_16 (by decide) rfl ?_
    refine v_sub [3, 2, 1, 0] (lv2 := [(0, .double p0), (2, .double p0), (4, .long 1023), (6, .int 0)]) rfl ?_
    exact (main (μ18 f p0 1023 0 + 1)) f p0 1023 0  h (Nat.lt_succ_self _)
  · replace h := h.2 c3
    refine v_lconst o (v := 0) dX7_bitsOfShare_6 (by decide) ?_
    exact v_lret o rfl hr dX7_bitsOfShare_7 h
def kX7_bitsOfShare (P : Sk) (f : St) (p0 : UInt64) (K : Int64 → St → Prop) : Prop := False
theorem metX7_bitsOfShare (l : Launch) (G : Gl) (P : Sk) (f : St) (sz : Nat) (p0 : UInt64) (K : Int64 → St → Prop) (h : kX7_bitsOfShare P f p0 K) : Met l yX7_bitsOfShare (wU yX7_bitsOfShare cX7_bitsOfShare 8 (some .long)) rmX7_bitsOfShare (PcW G P f sz [.double p0]) (QcL G P sz K) 0 0 (frA P sz) := sorry

def bX7_digest_6 (P : Sk) (a : Nat) (L6 : St → Int64 → Int32 → Prop) (L33 : St → Int64 → Int32 → Prop) (L118 : St → Int64 → Int32 → Prop) (K : Int64 → St → Prop) (f : St) (x1 : Int64) (x3 : Int32) : Prop :=
  (6 < x3 → L33 f x1 0) ∧ (¬ 6 < x3 → kX7_numberOfBoard P f a x3 (fun r19 g19 => ∀ x1_24 : Int64, x1_24 = (31 * x1) + (r19.toInt64) → ∀ x3_25 : Int32, x3_25 = x3 + 1 → L6 g19 x1_24 x3_25))
def bX7_digest_33 (P : Sk) (a : Nat) (L6 : St → Int64 → Int32 → Prop) (L33 : St → Int64 → Int32 → Prop) (L118 : St → Int64 → Int32 → Prop) (K : Int64 → St → Prop) (f : St) (x1 : Int64) (x3 : Int32) : Prop :=
  kX0_size P f (a + 4) (fun r38 g38 => (r38 ≤ x3 → kX0_stopPart P g38 (a + 4) (fun r66 g66 => ∀ x1_71 : Int64, x1_71 = (31 * x1) + (r66.toInt64) → kX0_stopReason P g66 (a + 4) (fun r81 g81 => ∀ x1_86 : Int64, x1_86 = (31 * x1_71) + (r81.toInt64) → kX7_looseShare P g81 a (fun r93 g93 => kX7_bitsOfShare P g93 r93 (fun r96 g96 => ∀ x1_100 : Int64, x1_100 = (31 * x1_86) + r96 → kX4_size P g96 (a + 1) (fun r110 g110 => ∀ x1_115 : Int64, x1_115 = (31 * x1_100) + (r110.toInt64) → L118 g110 x1_115 0)))))) ∧ (¬ r38 ≤ x3 → kX7_hashOfLoaf P g38 a x1 x3 (fun r47 g47 => ∀ x3_51 : Int32, x3_51 = x3 + 1 → L33 g47 r47 x3_51)))
def bX7_digest_118 (P : Sk) (a : Nat) (L6 : St → Int64 → Int32 → Prop) (L33 : St → Int64 → Int32 → Prop) (L118 : St → Int64 → Int32 → Prop) (K : Int64 → St → Prop) (f : St) (x1 : Int64) (x3 : Int32) : Prop :=
  kX4_size P f (a + 1) (fun r123 g123 => (r123 ≤ x3 → K x1 g123) ∧ (¬ r123 ≤ x3 → kX4_signAt P g123 (a + 1) x3 (fun r139 g139 => ∀ x1_144 : Int64, x1_144 = (31 * x1) + (r139.toInt64) → ∀ x3_145 : Int32, x3_145 = x3 + 1 → L118 g139 x1_144 x3_145)))
def vX7_digest (P : Sk) (f : St) (a : Nat) (L6 : St → Int64 → Int32 → Prop) (L33 : St → Int64 → Int32 → Prop) (L118 : St → Int64 → Int32 → Prop) (K : Int64 → St → Prop) : Prop :=
  L6 f 4051 0
set_option maxRecDepth 20000 in
set_option maxHeartbeats 4000000 in
theorem mX7_digest (l : Launch) (G : Gl) (P : Sk) (f : St) (sz : Nat) (a : Nat) (ha : IsComp P a) (K : Int64 → St → Prop) (I6 : St → Int64 → Int32 → Prop) (μ6 : St → Int64 → Int32 → Nat) (I33 : St → Int64 → Int32 → Prop) (μ33 : St → Int64 → Int32 → Nat) (I118 : St → Int64 → Int32 → Prop) (μ118 : St → Int64 → Int32 → Nat) 
  (h : vX7_digest P f a I6 I33 I118 K)
  (h6 : ∀ (g : St) (x1 : Int64) (x3 : Int32) , I6 g x1 x3 → bX7_digest_6 P a (fun g' z0 z1 => I6 g' z0 z1 ∧ μ6 g' z0 z1 < μ6 g x1 x3) (fun g' z0 z1 => I33 g' z0 z1 ∧ μ33 g' z0 z1 < μ6 g x1 x3) (fun g' z0 z1 => I118 g' z0 z1 ∧ μ118 g' z0 z1 < μ6 g x1 x3) K g x1 x3)
  (h33 : ∀ (g : St) (x1 : Int64) (x3 : Int32) , I33 g x1 x3 → bX7_digest_33 P a (fun g' z0 z1 => I6 g' z0 z1 ∧ μ6 g' z0 z1 < μ33 g x1 x3) (fun g' z0 z1 => I33 g' z0 z1 ∧ μ33 g' z0 z1 < μ33 g x1 x3) (fun g' z0 z1 => I118 g' z0 z1 ∧ μ118 g' z0 z1 < μ33 g x1 x3) K g x1 x3)
  (h118 : ∀ (g : St) (x1 : Int64) (x3 : Int32) , I118 g x1 x3 → bX7_digest_118 P a (fun g' z0 z1 => I6 g' z0 z1 ∧ μ6 g' z0 z1 < μ118 g x1 x3) (fun g' z0 z1 => I33 g' z0 z1 ∧ μ33 g' z0 z1 < μ118 g x1 x3) (fun g' z0 z1 => I118 g' z0 z1 ∧ μ118 g' z0 z1 < μ118 g x1 x3) K g x1 x3) :
  Met l yX7_digest (wU yX7_digest cX7_digest 4 (some .long)) rmX7_digest (PcW G P f sz [.ref a]) (QcL G P sz K) 0 0 (frA P sz) := by
  refine v_met (own := RX7) [.ref a] (by decide +kernel) rfl (Nat.le_of_ble_eq_true rfl) (fun p e s m args below meth c hsz o hr hnm => ?_)
  refine v_lv (lv2 := [(0, .ref a)]) rfl ?_
  have main : ∀ n : Nat, (∀ (g : St) (x1 : Int64) (x3 : Int32) , I6 g x1 x3 → μ6 g x1 x3 < n → V p l e rmX7_digest s m args below meth c 4 G (frA P sz) (MQ below (QcL G P sz K) args s 0 0 (frA P sz)) 0 0 P [(0, .ref a), (1, .long x1), (3, .int x3)] [] 6 g) ∧ (∀ (g : St) (x1 : Int64) (x3 : Int32) , I33 g x1 x3 → μ33 g x1 x3 < n → V p l e rmX7_digest s m args below meth c 4 G (frA P sz) (MQ below (QcL G P sz K) args s 0 0 (frA P sz)) 0 0 P [(0, .ref a), (1, .long x1), (3, .int x3)] [] 33 g) ∧ (∀ (g : St) (x1 : Int64) (x3 : Int32) , I118 g x1 x3 → μ118 g x1 x3 < n → V p l e rmX7_digest s m args below meth c 4 G (frA P sz) (MQ below (QcL G P sz K) args s 0 0 (frA P sz)) 0 0 P [(0, .ref a), (1, .long x1), (3, .int x3)] [] 118 g) := by
    intro n
    induction n with
    | zero => exact ⟨fun g x1 x3 hI hm => absurd hm (Nat.not_lt_zero _), fun g x1 x3 hI hm => absurd hm (Nat.not_lt_zero _), fun g x1 x3 hI hm => absurd hm (Nat.not_lt_zero _)⟩
    | succ n ih =>
      refine ⟨?_, ?_, ?_⟩
      · intro g x1 x3 hI hm
        have h := h6 g x1 x3 hI
        clear hI
        unfold bX7_digest_6 at h
        refine v_iload_n o 2 dX7_digest_6 rfl ?_
        refine v_bipush o (v := 6) dX7_digest_7 (by decide) ?_
        refine v_icmp_gt o (tgt := 31) dX7_digest_9 (by decide) (fun c9 => ?_) (fun c9 => ?_)
        · replace h := h.1 c9
          refine v_iconst o (v := 0) dX7_digest_31 (by decide) ?_
          refine v_istore_n o (lv' := [(3, .int 0), (0, .ref a), (1, .long x1)]) dX7_digest_32 rfl (by decide) rfl ?_
          refine v_sub [1, 2, 0] (lv2 := [(0, .ref a), (1, .long x1), (3, .int 0)]) rfl ?_
          exact ih.2.1 g x1 0  h.1 (by have := h.2; omega)
        · replace h := h.2 c9
          refine v_ldc2 o (v := 31) dX7_digest_12 (mU 396 (by decide +kernel) rfl) ?_
          refine v_lload_n o 1 dX7_digest_15 rfl ?_
          refine v_lmul o dX7_digest_16 ?_
          refine v_aload_n o 0 dX7_digest_17 rfl ?_
          refine v_iload_n o 2 dX7_digest_18 rfl ?_
          refine v_cVi o [.int x3] [.long (31 * x1)] (fun sz => metX7_numberOfBoard l G P g sz a ha x3 _ h) (cwX7_212 o.1.2.2.2.2 (by decide)) ⟨_, _, rfl⟩ (by decide) (wfComp_o ha) rfl (Nat.le_of_ble_eq_true rfl) ⟨Nat.le_of_ble_eq_true rfl, Nat.le_of_ble_eq_true rfl⟩ dX7_digest_19 rfl (fun r19 g19 h => ?_)
          refine v_i2l o dX7_digest_22 ?_
          refine v_ladd o dX7_digest_23 ?_
          refine v_topl (fun x1_24 ex1_24 => ?_)
          replace h := h x1_24 ex1_24
          refine v_lstore_n o (lv' := [(1, .long x1_24), (0, .ref a), (3, .int x3)]) dX7_digest_24 rfl (by decide) rfl ?_
          obtain ⟨x3_25, ex3_25⟩ : ∃ y : Int32, y = x3 + 1 := ⟨_, rfl⟩
          replace h := h x3_25 ex3_25
          refine v_iinc o (v := x3_25) (lv' := [(3, .int x3_25), (1, .long x1_24), (0, .ref a)]) 2 dX7_digest_25 rfl (by rw [ex3_25]; rfl) (by decide) rfl ?_
          refine v_goto o (tgt := 6) dX7_digest_28 (by decide) ?_
          refine v_sub [2, 1, 0] (lv2 := [(0, .ref a), (1, .long x1_24), (3, .int x3_25)]) rfl ?_
          exact ih.1 g19 x1_24 x3_25  h.1 (by have := h.2; omega)
      · intro g x1 x3 hI hm
        have h := h33 g x1 x3 hI
        clear hI
        unfold bX7_digest_33 at h
        refine v_iload_n o 2 dX7_digest_33 rfl ?_
        refine v_aload_n o 0 dX7_digest_34 rfl ?_
        refine v_gfR o lkX7_19 (by decide) (wfComp_o ha) (wfComp_r1 ha) dX7_digest_35 ?_
        refine v_cVi o [] [.int x3] (fun sz => metX0_size l G P g sz (a + 4) (wfComp_t1 ha) _ h) (cwX7_65 o.1.2.2.2.2 (by decide)) ⟨_, _, rfl⟩ (by decide) (wfBoard_o (wfComp_t1 ha)) rfl (Nat.le_of_ble_eq_true rfl) ⟨Nat.le_of_ble_eq_true rfl, Nat.le_of_ble_eq_true rfl⟩ dX7_digest_38 rfl (fun r38 g38 h => ?_)
        refine v_icmp_ge o (tgt := 57) dX7_digest_41 (by decide) (fun c41 => ?_) (fun c41 => ?_)
        · replace h := h.1 c41
          refine v_ldc2 o (v := 31) dX7_digest_57 (mU 396 (by decide +kernel) rfl) ?_
          refine v_lload_n o 1 dX7_digest_60 rfl ?_
          refine v_lmul o dX7_digest_61 ?_
          refine v_aload_n o 0 dX7_digest_62 rfl ?_
          refine v_gfR o lkX7_19 (by decide) (wfComp_o ha) (wfComp_r1 ha) dX7_digest_63 ?_
          refine v_cVi o [] [.long (31 * x1)] (fun sz => metX0_stopPart l G P g38 sz (a + 4) (wfComp_t1 ha) _ h) (cwX7_181 o.1.2.2.2.2 (by decide)) ⟨_, _, rfl⟩ (by decide) (wfBoard_o (wfComp_t1 ha)) rfl (Nat.le_of_ble_eq_true rfl) ⟨Nat.le_of_ble_eq_true rfl, Nat.le_of_ble_eq_true rfl⟩ dX7_digest_66 rfl (fun r66 g66 h => ?_)
          refine v_i2l o dX7_digest_69 ?_
          refine v_ladd o dX7_digest_70 ?_
          refine v_topl (fun x1_71 ex1_71 => ?_)
          replace h := h x1_71 ex1_71
          refine v_lstore_n o (lv' := [(1, .long x1_71), (0, .ref a), (3, .int x3)]) dX7_digest_71 rfl (by decide) rfl ?_
          refine v_ldc2 o (v := 31) dX7_digest_72 (mU 396 (by decide +kernel) rfl) ?_
          refine v_lload_n o 0 dX7_digest_75 rfl ?_
          refine v_lmul o dX7_digest_76 ?_
          refine v_aload_n o 1 dX7_digest_77 rfl ?_
          refine v_gfR o lkX7_19 (by decide) (wfComp_o ha) (wfComp_r1 ha) dX7_digest_78 ?_
          refine v_cVi o [] [.long (31 * x1_71)] (fun sz => metX0_stopReason l G P g66 sz (a + 4) (wfComp_t1 ha) _ h) (cwX7_184 o.1.2.2.2.2 (by decide)) ⟨_, _, rfl⟩ (by decide) (wfBoard_o (wfComp_t1 ha)) rfl (Nat.le_of_ble_eq_true rfl) ⟨Nat.le_of_ble_eq_true rfl, Nat.le_of_ble_eq_true rfl⟩ dX7_digest_81 rfl (fun r81 g81 h => ?_)
          refine v_i2l o dX7_digest_84 ?_
          refine v_ladd o dX7_digest_85 ?_
          refine v_topl (fun x1_86 ex1_86 => ?_)
          replace h := h x1_86 ex1_86
          refine v_lstore_n o (lv' := [(1, .long x1_86), (0, .ref a), (3, .int x3)]) dX7_digest_86 rfl (by decide) rfl ?_
          refine v_ldc2 o (v := 31) dX7_digest_87 (mU 396 (by decide +kernel) rfl) ?_
          refine v_lload_n o 0 dX7_digest_90 rfl ?_
          refine v_lmul o dX7_digest_91 ?_
          refine v_aload_n o 1 dX7_digest_92 rfl ?_
          refine v_cVd o [] [.long (31 * x1_86)] (fun sz => metX7_looseShare l G P g81 sz a ha _ h) (cwX7_235 o.1.2.2.2.2 (by decide)) ⟨_, _, rfl⟩ (by decide) (wfComp_o ha) rfl (Nat.le_of_ble_eq_true rfl) ⟨Nat.le_of_ble_eq_true rfl, Nat.le_of_ble_eq_true rfl⟩ dX7_digest_93 rfl (fun r93 g93 h => ?_)
          refine v_cSl o [.double r93] [.long (31 * x1_86)] (fun sz => metX7_bitsOfShare l G P g93 sz r93 _ h) (cwX7_239 o.1.2.2.2.2 (by decide)) rfl (Nat.le_of_ble_eq_true rfl) ⟨Nat.le_of_ble_eq_true rfl, Nat.le_of_ble_eq_true rfl⟩ dX7_digest_96 rfl (fun r96 g96 h => ?_)
          refine v_ladd o dX7_digest_99 ?_
          refine v_topl (fun x1_100 ex1_100 => ?_)
          replace h := h x1_100 ex1_100
          refine v_lstore_n o (lv' := [(1, .long x1_100), (0, .ref a), (3, .int x3)]) dX7_digest_100 rfl (by decide) rfl ?_
          refine v_ldc2 o (v := 31) dX7_digest_101 (mU 396 (by decide +kernel) rfl) ?_
          refine v_lload_n o 0 dX7_digest_104 rfl ?_
          refine v_lmul o dX7_digest_105 ?_
          refine v_aload_n o 1 dX7_digest_106 rfl ?_
          refine v_gfR o lkX7_10 (by decide) (wfComp_o ha) (wfComp_r0 ha) dX7_digest_107 ?_
          refine v_cVi o [] [.long (31 * x1_100)] (fun sz => metX4_size l G P g96 sz (a + 1) (wfComp_t0 ha) _ h) (cwX7_152 o.1.2.2.2.2 (by decide)) ⟨_, _, rfl⟩ (by decide) (wfText_o (wfComp_t0 ha)) rfl (Nat.le_of_ble_eq_true rfl) ⟨Nat.le_of_ble_eq_true rfl, Nat.le_of_ble_eq_true rfl⟩ dX7_digest_110 rfl (fun r110 g110 h => ?_)
          refine v_i2l o dX7_digest_113 ?_
          refine v_ladd o dX7_digest_114 ?_
          refine v_topl (fun x1_115 ex1_115 => ?_)
          replace h := h x1_115 ex1_115
          refine v_lstore_n o (lv' := [(1, .long x1_115), (0, .ref a), (3, .int x3)]) dX7_digest_115 rfl (by decide) rfl ?_
          refine v_iconst o (v := 0) dX7_digest_116 (by decide) ?_
          refine v_istore_n o (lv' := [(3, .int 0), (1, .long x1_115), (0, .ref a)]) dX7_digest_117 rfl (by decide) rfl ?_
          refine v_sub [2, 1, 0] (lv2 := [(0, .ref a), (1, .long x1_115), (3, .int 0)]) rfl ?_
          exact ih.2.2 g110 x1_115 0  h.1 (by have := h.2; omega)
        · replace h := h.2 c41
          refine v_aload_n o 0 dX7_digest_44 rfl ?_
          refine v_lload_n o 1 dX7_digest_45 rfl ?_
          refine v_iload_n o 2 dX7_digest_46 rfl ?_
          refine v_cVl o [.long x1, .int x3] [] (fun sz => metX7_hashOfLoaf l G P g38 sz a ha x1 x3 _ h) (cwX7_231 o.1.2.2.2.2 (by decide)) ⟨_, _, rfl⟩ (by decide) (wfComp_o ha) rfl (Nat.le_of_ble_eq_true rfl) ⟨Nat.le_of_ble_eq_true rfl, Nat.le_of_ble_eq_true rfl⟩ dX7_digest_47 rfl (fun r47 g47 h => ?_)
          refine v_lstore_n o (lv' := [(1, .long r47), (0, .ref a), (3, .int x3)]) dX7_digest_50 rfl (by decide) rfl ?_
          obtain ⟨x3_51, ex3_51⟩ : ∃ y : Int32, y = x3 + 1 := ⟨_, rfl⟩
          replace h := h x3_51 ex3_51
          refine v_iinc o (v := x3_51) (lv' := [(3, .int x3_51), (1, .long r47), (0, .ref a)]) 2 dX7_digest_51 rfl (by rw [ex3_51]; rfl) (by decide) rfl ?_
          refine v_goto o (tgt := 33) dX7_digest_54 (by decide) ?_
          refine v_sub [2, 1, 0] (lv2 := [(0, .ref a), (1, .long r47), (3, .int x3_51)]) rfl ?_
          exact ih.2.1 g47 r47 x3_51  h.1 (by have := h.2; omega)
      · intro g x1 x3 hI hm
        have h := h118 g x1 x3 hI
        clear hI
        unfold bX7_digest_118 at h
        refine v_iload_n o 2 dX7_digest_118 rfl ?_
        refine v_aload_n o 0 dX7_digest_119 rfl ?_
        refine v_gfR o lkX7_10 (by decide) (wfComp_o ha) (wfComp_r0 ha) dX7_digest_120 ?_
        refine v_cVi o [] [.int x3] (fun sz => metX4_size l G P g sz (a + 1) (wfComp_t0 ha) _ h) (cwX7_152 o.1.2.2.2.2 (by decide)) ⟨_, _, rfl⟩ (by decide) (wfText_o (wfComp_t0 ha)) rfl (Nat.le_of_ble_eq_true rfl) ⟨Nat.le_of_ble_eq_true rfl, Nat.le_of_ble_eq_true rfl⟩ dX7_digest_123 rfl (fun r123 g123 h => ?_)
        refine v_icmp_ge o (tgt := 151) dX7_digest_126 (by decide) (fun c126 => ?_) (fun c126 => ?_)
        · replace h := h.1 c126
          refine v_lload_n o 1 dX7_digest_151 rfl ?_
          exact v_lret o rfl hr dX7_digest_152 h
        · replace h := h.2 c126
          refine v_ldc2 o (v := 31) dX7_digest_129 (mU 396 (by decide +kernel) rfl) ?_
          refine v_lload_n o 1 dX7_digest_132 rfl ?_
          refine v_lmul o dX7_digest_133 ?_
          refine v_aload_n o 0 dX7_digest_134 rfl ?_
          refine v_gfR o lkX7_10 (by decide) (wfComp_o ha) (wfComp_r0 ha) dX7_digest_135 ?_
          refine v_iload_n o 2 dX7_digest_138 rfl ?_
          refine v_cVi o [.int x3] [.long (31 * x1)] (fun sz => metX4_signAt l G P g123 sz (a + 1) (wfComp_t0 ha) x3 _ h) (cwX7_243 o.1.2.2.2.2 (by decide)) ⟨_, _, rfl⟩ (by decide) (wfText_o (wfComp_t0 ha)) rfl (Nat.le_of_ble_eq_true rfl) ⟨Nat.le_of_ble_eq_true rfl, Nat.le_of_ble_eq_true rfl⟩ dX7_digest_139 rfl (fun r139 g139 h => ?_)
          refine v_i2l o dX7_digest_142 ?_
          refine v_ladd o dX7_digest_143 ?_
          refine v_topl (fun x1_144 ex1_144 => ?_)
          replace h := h x1_144 ex1_144
          refine v_lstore_n o (lv' := [(1, .long x1_144), (0, .ref a), (3, .int x3)]) dX7_digest_144 rfl (by decide) rfl ?_
          obtain ⟨x3_145, ex3_145⟩ : ∃ y : Int32, y = x3 + 1 := ⟨_, rfl⟩
          replace h := h x3_145 ex3_145
          refine v_iinc o (v := x3_145) (lv' := [(3, .int x3_145), (1, .long x1_144), (0, .ref a)]) 2 dX7_digest_145 rfl (by rw [ex3_145]; rfl) (by decide) rfl ?_
          refine v_goto o (tgt := 118) dX7_digest_148 (by decide) ?_
          refine v_sub [2, 1, 0] (lv2 := [(0, .ref a), (1, .long x1_144), (3, .int x3_145)]) rfl ?_
          exact ih.2.2 g139 x1_144 x3_145  h.1 (by have := h.2; omega)
  unfold vX7_digest at h
  refine v_ldc2 o (v := 4051) dX7_digest_0 (mU 395 (by decide +kernel) rfl) ?_
  refine v_lstore_n o (lv' := [(1, .long 4051), (0, .ref a)]) dX7_digest_3 rfl (by decide) rfl ?_
  refine v_iconst o (v := 0) dX7_digest_4 (by decide) ?_
  refine v_istore_n o (lv' := [(3, .int 0), (1, .long 4051), (0, .ref a)]) dX7_digest_5 rfl (by decide) rfl ?_
  refine v_sub [2, 1, 0] (lv2 := [(0, .ref a), (1, .long 4051), (3, .int 0)]) rfl ?_
  exact (main (μ6 f 4051 0 + 1)).1 f 4051 0  h (Nat.lt_succ_self _)
def kX7_digest (P : Sk) (f : St) (a : Nat) (K : Int64 → St → Prop) : Prop := False
theorem metX7_digest (l : Launch) (G : Gl) (P : Sk) (f : St) (sz : Nat) (a : Nat) (ha : IsComp P a) (K : Int64 → St → Prop) (h : kX7_digest P f a K) : Met l yX7_digest (wU yX7_digest cX7_digest 4 (some .long)) rmX7_digest (PcW G P f sz [.ref a]) (QcL G P sz K) 0 0 (frA P sz) := sorry

