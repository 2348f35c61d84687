def vX0_size (P : Sk) (f : St) (a : Nat) (K : Int32 → St → Prop) : Prop :=
  K (f a 2) f
set_option maxRecDepth 20000 in
set_option maxHeartbeats 4000000 in
theorem mX0_size (l : Launch) (G : Gl) (P : Sk) (f : St) (sz : Nat) (a : Nat) (ha : IsBoard P a) (K : Int32 → St → Prop) (h : vX0_size P f a K)  :
  Met l yX0_size (wU yX0_size cX0_size 1 (some .int)) rmX0_size (PcW G P f sz [.ref a]) (QcI G P sz K) 0 0 (frA P sz) := by
  refine v_met (own := RX0) [.ref a] (by decide +kernel) rfl (Nat.le_of_ble_eq_true rfl) (fun p e s m args below meth c hsz o hr hnm => ?_)
  refine v_lv (lv2 := [(0, .ref a)]) rfl ?_
  unfold vX0_size at h
  refine v_aload_n o 0 dX0_size_0 rfl ?_
  refine v_gfI o lkX0_22 (by decide) (wfBoard_o ha) dX0_size_1 ?_
  exact v_iret o rfl hr dX0_size_4 h
abbrev kX0_size := @vX0_size
abbrev metX0_size := @mX0_size

def vX0_has (P : Sk) (f : St) (a : Nat) (p1 : Int32) (K : Int32 → St → Prop) : Prop :=
  (p1 < 0 → K 0 f) ∧ (¬ p1 < 0 → (f a 2 ≤ p1 → K 0 f) ∧ (¬ f a 2 ≤ p1 → K 1 f))
set_option maxRecDepth 20000 in
set_option maxHeartbeats 4000000 in
theorem mX0_has (l : Launch) (G : Gl) (P : Sk) (f : St) (sz : Nat) (a : Nat) (ha : IsBoard P a) (p1 : Int32) (K : Int32 → St → Prop) (h : vX0_has P f a p1 K)  :
  Met l yX0_has (wU yX0_has cX0_has 2 (some .boolean)) rmX0_has (PcW G P f sz [.ref a, .int p1]) (QcI G P sz K) 0 0 (frA P sz) := by
  refine v_met (own := RX0) [.ref a, .int p1] (by decide +kernel) rfl (Nat.le_of_ble_eq_true rfl) (fun p e s m args below meth c hsz o hr hnm => ?_)
  refine v_lv (lv2 := [(0, .ref a), (1, .int p1)]) rfl ?_
  unfold vX0_has at h
  refine v_iload_n o 1 dX0_has_0 rfl ?_
  refine v_if_lt o (tgt := 16) dX0_has_1 (by decide) (fun c1 => ?_) (fun c1 => ?_)
  · replace h := h.1 c1
    refine v_iconst o (v := 0) dX0_has_16 (by decide) ?_
    exact v_zret o rfl hr bz0.1 dX0_has_17 h
  · replace h := h.2 c1
    refine v_iload_n o 1 dX0_has_4 rfl ?_
    refine v_aload_n o 0 dX0_has_5 rfl ?_
    refine v_gfI o lkX0_22 (by decide) (wfBoard_o ha) dX0_has_6 ?_
    refine v_icmp_ge o (tgt := 16) dX0_has_9 (by decide) (fun c9 => ?_) (fun c9 => ?_)
    · replace h := h.1 c9
      refine v_iconst o (v := 0) dX0_has_16 (by decide) ?_
      exact v_zret o rfl hr bz0.1 dX0_has_17 h
    · replace h := h.2 c9
      refine v_iconst o (v := 1) dX0_has_12 (by decide) ?_
      refine v_goto o (tgt := 17) dX0_has_13 (by decide) ?_
      exact v_zret o rfl hr bz1.1 dX0_has_17 h
abbrev kX0_has := @vX0_has
abbrev metX0_has := @mX0_has

def jX0_at_22 (P : Sk) (a : Nat) (p1 : Int32) (K : Nat → St → Prop) (f : St) : Prop :=
  K (a + 2) f
def vX0_at (P : Sk) (f : St) (a : Nat) (p1 : Int32) (K : Nat → St → Prop) : Prop :=
  (p1 < 0 → jX0_at_22 P a p1 K  f) ∧ (¬ p1 < 0 → (nI 6 ≤ p1 → jX0_at_22 P a p1 K  f) ∧ (¬ nI 6 ≤ p1 → vp_in p1 6 ∧ (vp_in p1 6 ∧ (K (a + 24 + 22 * p1.toNatClampNeg) f))))
set_option maxRecDepth 20000 in
set_option maxHeartbeats 4000000 in
theorem mX0_at (l : Launch) (G : Gl) (P : Sk) (f : St) (sz : Nat) (a : Nat) (ha : IsBoard P a) (p1 : Int32) (K : Nat → St → Prop) (h : vX0_at P f a p1 K)  :
  Met l yX0_at (wU yX0_at cX0_at 2 (some (.object "StrandLoaves$Loaf"))) rmX0_at (PcW G P f sz [.ref a, .int p1]) (QcR G P sz K) 0 0 (frA P sz) := by
  refine v_met (own := RX0) [.ref a, .int p1] (by decide +kernel) rfl (Nat.le_of_ble_eq_true rfl) (fun p e s m args below meth c hsz o hr hnm => ?_)
  refine v_lv (lv2 := [(0, .ref a), (1, .int p1)]) rfl ?_
  have J22 : ∀ (g22 : St), jX0_at_22 P a p1 K  g22 → V p l e rmX0_at s m args below meth c 2 G (frA P sz) (MQ below (QcR G P sz K) args s 0 0 (frA P sz)) 0 0 P [(0, .ref a), (1, .int p1)] [] 22 g22 := by
    intro  g22  h
    unfold jX0_at_22 at h
    refine v_aload_n o 0 dX0_at_22 rfl ?_
    refine v_gfR o lkX0_18 (by decide) (wfBoard_o ha) (wfBoard_r1 ha) dX0_at_23 ?_
    exact v_aret o rfl hr (Or.inl ⟨_, rfl⟩) dX0_at_26 h
  unfold vX0_at at h
  refine v_iload_n o 1 dX0_at_0 rfl ?_
  refine v_if_lt o (tgt := 22) dX0_at_1 (by decide) (fun c1 => ?_) (fun c1 => ?_)
  · replace h := h.1 c1
    refine v_sub [0, 1] (lv2 := [(0, .ref a), (1, .int p1)]) rfl ?_
    exact J22  f  h
  · replace h := h.2 c1
    refine v_iload_n o 1 dX0_at_4 rfl ?_
    refine v_aload_n o 0 dX0_at_5 rfl ?_
    refine v_gfR o lkX0_11 (by decide) (wfBoard_o ha) (wfBoard_r0 ha) dX0_at_6 ?_
    refine v_alen11 o (wfBoard_t0 ha) (wfBoard_n0 ha) dX0_at_9 ?_
    refine v_icmp_ge o (tgt := 22) dX0_at_10 (by decide) (fun c10 => ?_) (fun c10 => ?_)
    · replace h := h.1 c10
      refine v_sub [0, 1] (lv2 := [(0, .ref a), (1, .int p1)]) rfl ?_
      exact J22  f  h
    · replace h := h.2 c10
      refine v_aload_n o 0 dX0_at_13 rfl ?_
      refine v_gfR o lkX0_11 (by decide) (wfBoard_o ha) (wfBoard_r0 ha) dX0_at_14 ?_
      refine v_iload_n o 1 dX0_at_17 rfl ?_
      have hi18 := h.1
      replace h := h.2
      refine v_aald11 o (wfBoard_t0 ha) (wfBoard_n0 ha) hi18 (wfBoard_ar ha _ (vin_lt hi18)) dX0_at_18 ?_
      refine v_ifnonnull o (tgt := 27) dX0_at_19 (by decide) ?_
      refine v_aload_n o 0 dX0_at_27 rfl ?_
      refine v_gfR o lkX0_11 (by decide) (wfBoard_o ha) (wfBoard_r0 ha) dX0_at_28 ?_
      refine v_iload_n o 1 dX0_at_31 rfl ?_
      have hi32 := h.1
      replace h := h.2
      refine v_aald11 o (wfBoard_t0 ha) (wfBoard_n0 ha) hi32 (wfBoard_ar ha _ (vin_lt hi32)) dX0_at_32 ?_
      exact v_aret o rfl hr (Or.inl ⟨_, rfl⟩) dX0_at_33 h
theorem metX0_at (l : Launch) (G : Gl) (P : Sk) (f : St) (sz : Nat) (a : Nat) (ha : IsBoard P a) (p1 : Int32) : Met l yX0_at (wU yX0_at cX0_at 2 (some (.object "StrandLoaves$Loaf"))) rmX0_at (PcW G P f sz [.ref a, .int p1]) (QcR G P sz (fun r g => r = (atB a p1) ∧ f = g)) 0 0 (frA P sz) := sorry

def vJ9_min_7cf53 (P : Sk) (f : St) (p0 : Int32) (p1 : Int32) (K : Int32 → St → Prop) : Prop :=
  (p1 < p0 → K p1 f) ∧ (¬ p1 < p0 → K p0 f)
set_option maxRecDepth 20000 in
set_option maxHeartbeats 4000000 in
theorem mJ9_min_7cf53 (l : Launch) (G : Gl) (P : Sk) (f : St) (sz : Nat) (p0 : Int32) (p1 : Int32) (K : Int32 → St → Prop) (h : vJ9_min_7cf53 P f p0 p1 K)  :
  Met l yJ9_min_7cf53 (wU yJ9_min_7cf53 cJ9_min_7cf53 2 (some .int)) rmJ9_min_7cf53 (PcW G P f sz [.int p0, .int p1]) (QcI G P sz K) 0 0 (frA P sz) := by
  refine v_met (own := RJ9) [.int p0, .int p1] (by decide +kernel) rfl (Nat.le_of_ble_eq_true rfl) (fun p e s m args below meth c hsz o hr hnm => ?_)
  refine v_lv (lv2 := [(0, .int p0), (1, .int p1)]) rfl ?_
  unfold vJ9_min_7cf53 at h
  refine v_iload_n o 0 dJ9_min_7cf53_0 rfl ?_
  refine v_iload_n o 1 dJ9_min_7cf53_1 rfl ?_
  refine v_icmp_gt o (tgt := 9) dJ9_min_7cf53_2 (by decide) (fun c2 => ?_) (fun c2 => ?_)
  · replace h := h.1 c2
    refine v_iload_n o 1 dJ9_min_7cf53_9 rfl ?_
    exact v_iret o rfl hr dJ9_min_7cf53_10 h
  · replace h := h.2 c2
    refine v_iload_n o 0 dJ9_min_7cf53_5 rfl ?_
    refine v_goto o (tgt := 10) dJ9_min_7cf53_6 (by decide) ?_
    exact v_iret o rfl hr dJ9_min_7cf53_10 h
abbrev kJ9_min_7cf53 := @vJ9_min_7cf53
abbrev metJ9_min_7cf53 := @mJ9_min_7cf53

def vX3_copyFrom (P : Sk) (f : St) (a : Nat) (b1 : Nat) (K : St → Prop) : Prop :=
  kJ9_min_7cf53 P f (nI (sN P (a + 1))) (nI (sN P (b1 + 1))) (fun r10 g10 => (¬ r10 < 0 ∧ ((0 : Int32)).toNatClampNeg + r10.toNatClampNeg ≤ sN P (b1 + 1) ∧ ((0 : Int32)).toNatClampNeg + r10.toNatClampNeg ≤ sN P (a + 1)) ∧ (∀ g25 : St, g25 = seta g10 (a + 1) (va_cpy (g10 (b1 + 1)) (g10 (a + 1)) ((0 : Int32)).toNatClampNeg ((0 : Int32)).toNatClampNeg r10.toNatClampNeg) → K g25))
set_option maxRecDepth 20000 in
set_option maxHeartbeats 4000000 in
theorem mX3_copyFrom (l : Launch) (G : Gl) (P : Sk) (f : St) (sz : Nat) (a : Nat) (ha : IsRow P a) (b1 : Nat) (hb1 : IsRow P b1) (K : St → Prop) (h : vX3_copyFrom P f a b1 K)  :
  Met l yX3_copyFrom (wU yX3_copyFrom cX3_copyFrom 3 none) rmX3_copyFrom (PcW G P f sz [.ref a, .ref b1]) (QcV G P sz K) 0 0 (frA P sz) := by
  refine v_met (own := RX3) [.ref a, .ref b1] (by decide +kernel) rfl (Nat.le_of_ble_eq_true rfl) (fun p e s m args below meth c hsz o hr hnm => ?_)
  refine v_lv (lv2 := [(0, .ref a), (1, .ref b1)]) rfl ?_
  unfold vX3_copyFrom at h
  refine v_aload_n o 0 dX3_copyFrom_0 rfl ?_
  refine v_gfR o lkX3_7 (by decide) (wfRow_o ha) (wfRow_r0 ha) dX3_copyFrom_1 ?_
  refine v_alen9 o (wfRow_t0 ha) rfl dX3_copyFrom_4 ?_
  refine v_aload_n o 1 dX3_copyFrom_5 rfl ?_
  refine v_gfR o lkX3_7 (by decide) (wfRow_o hb1) (wfRow_r0 hb1) dX3_copyFrom_6 ?_
  refine v_alen9 o (wfRow_t0 hb1) rfl dX3_copyFrom_9 ?_
  refine v_cSi o [.int (nI (sN P (a + 1))), .int (nI (sN P (b1 + 1)))] [] (fun sz => metJ9_min_7cf53 l G P f sz (nI (sN P (a + 1))) (nI (sN P (b1 + 1))) _ h) (cwX3_13 o.1.2.2.2.2 (by decide)) rfl (Nat.le_of_ble_eq_true rfl) ⟨Nat.zero_le _, Nat.zero_le _⟩ dX3_copyFrom_10 rfl (fun r10 g10 h => ?_)
  refine v_istore_n o (lv' := [(2, .int r10), (0, .ref a), (1, .ref b1)]) dX3_copyFrom_13 rfl (by decide) rfl ?_
  refine v_aload_n o 2 dX3_copyFrom_14 rfl ?_
  refine v_gfR o lkX3_7 (by decide) (wfRow_o hb1) (wfRow_r0 hb1) dX3_copyFrom_15 ?_
  refine v_iconst o (v := 0) dX3_copyFrom_18 (by decide) ?_
  refine v_aload_n o 1 dX3_copyFrom_19 rfl ?_
  refine v_gfR o lkX3_7 (by decide) (wfRow_o ha) (wfRow_r0 ha) dX3_copyFrom_20 ?_
  refine v_iconst o (v := 0) dX3_copyFrom_23 (by decide) ?_
  refine v_iload_n o 0 dX3_copyFrom_24 rfl ?_
  refine v_copy o (mU 358 (by decide +kernel) rfl) (mU 360 (by decide +kernel) rfl) (mU 359 (by decide +kernel) rfl) (mU 97 (by decide +kernel) rfl) (wfRow_t0 hb1) (wfRow_t0 ha) rfl rfl (by decide) (by decide) h.1.1 h.1.2.1 h.1.2.2 (by decide) (by decide) dX3_copyFrom_25 ?_
  replace h := h.2
  refine v_nmf (fun g25 eg25 => ?_)
  replace h := h g25 eg25
  exact v_vret o rfl hr dX3_copyFrom_28 h
abbrev kX3_copyFrom := @vX3_copyFrom
abbrev metX3_copyFrom := @mX3_copyFrom

def vX6_copyFrom (P : Sk) (f : St) (a : Nat) (b1 : Nat) (K : St → Prop) : Prop :=
  ∀ g5 : St, g5 = setf f a 1 (f b1 1) → ∀ g13 : St, g13 = setf g5 a 2 (g5 b1 2) → kX3_copyFrom P g13 (a + 1) (b1 + 1) (fun g24 => K g24)
set_option maxRecDepth 20000 in
set_option maxHeartbeats 4000000 in
theorem mX6_copyFrom (l : Launch) (G : Gl) (P : Sk) (f : St) (sz : Nat) (a : Nat) (ha : IsWord P a) (b1 : Nat) (hb1 : IsWord P b1) (K : St → Prop) (h : vX6_copyFrom P f a b1 K)  :
  Met l yX6_copyFrom (wU yX6_copyFrom cX6_copyFrom 2 none) rmX6_copyFrom (PcW G P f sz [.ref a, .ref b1]) (QcV G P sz K) 0 0 (frA P sz) := by
  refine v_met (own := RX6) [.ref a, .ref b1] (by decide +kernel) rfl (Nat.le_of_ble_eq_true rfl) (fun p e s m args below meth c hsz o hr hnm => ?_)
  refine v_lv (lv2 := [(0, .ref a), (1, .ref b1)]) rfl ?_
  unfold vX6_copyFrom at h
  refine v_aload_n o 0 dX6_copyFrom_0 rfl ?_
  refine v_aload_n o 1 dX6_copyFrom_1 rfl ?_
  refine v_gfI o lkX6_20 (by decide) (wfWord_o hb1) dX6_copyFrom_2 ?_
  refine v_pf o lpX6_20 (wfWord_o ha) ⟨rfl, rfl⟩ dX6_copyFrom_5 ?_
  refine v_nmf (fun g5 eg5 => ?_)
  replace h := h g5 eg5
  refine v_aload_n o 0 dX6_copyFrom_8 rfl ?_
  refine v_aload_n o 1 dX6_copyFrom_9 rfl ?_
  refine v_gfI o lkX6_24 (by decide) (wfWord_o hb1) dX6_copyFrom_10 ?_
  refine v_pf o lpX6_24 (wfWord_o ha) ⟨rfl, rfl⟩ dX6_copyFrom_13 ?_
  refine v_nmf (fun g13 eg13 => ?_)
  replace h := h g13 eg13
  refine v_aload_n o 0 dX6_copyFrom_16 rfl ?_
  refine v_gfR o lkX6_14 (by decide) (wfWord_o ha) (wfWord_r0 ha) dX6_copyFrom_17 ?_
  refine v_aload_n o 1 dX6_copyFrom_20 rfl ?_
  refine v_gfR o lkX6_14 (by decide) (wfWord_o hb1) (wfWord_r0 hb1) dX6_copyFrom_21 ?_
  refine v_cVv o [.ref (b1 + 1)] [] (fun sz => metX3_copyFrom l G P g13 sz (a + 1) (wfWord_t0 ha) (b1 + 1) (wfWord_t0 hb1) _ h) (cwX6_44 o.1.2.2.2.2 (by decide)) ⟨_, _, rfl⟩ (by decide) (wfRow_o (wfWord_t0 ha)) rfl (Nat.le_of_ble_eq_true rfl) ⟨Nat.zero_le _, Nat.zero_le _⟩ dX6_copyFrom_24 rfl (fun g24 h => ?_)
  exact v_vret o rfl hr dX6_copyFrom_27 h
abbrev kX6_copyFrom := @vX6_copyFrom
abbrev metX6_copyFrom := @mX6_copyFrom

def vX5_copyFrom (P : Sk) (f : St) (a : Nat) (b1 : Nat) (K : St → Prop) : Prop :=
  ∀ g5 : St, g5 = setf f a 7 (f b1 7) → kX3_copyFrom P g5 (a + 1) (b1 + 1) (fun g16 => kX3_copyFrom P g16 (a + 3) (b1 + 3) (fun g27 => kX3_copyFrom P g27 (a + 5) (b1 + 5) (fun g38 => kX3_copyFrom P g38 (a + 7) (b1 + 7) (fun g49 => kX3_copyFrom P g49 (a + 9) (b1 + 9) (fun g60 => kX3_copyFrom P g60 (a + 11) (b1 + 11) (fun g71 => K g71))))))
set_option maxRecDepth 20000 in
set_option maxHeartbeats 4000000 in
theorem mX5_copyFrom (l : Launch) (G : Gl) (P : Sk) (f : St) (sz : Nat) (a : Nat) (ha : IsTrace P a) (b1 : Nat) (hb1 : IsTrace P b1) (K : St → Prop) (h : vX5_copyFrom P f a b1 K)  :
  Met l yX5_copyFrom (wU yX5_copyFrom cX5_copyFrom 2 none) rmX5_copyFrom (PcW G P f sz [.ref a, .ref b1]) (QcV G P sz K) 0 0 (frA P sz) := by
  refine v_met (own := RX5) [.ref a, .ref b1] (by decide +kernel) rfl (Nat.le_of_ble_eq_true rfl) (fun p e s m args below meth c hsz o hr hnm => ?_)
  refine v_lv (lv2 := [(0, .ref a), (1, .ref b1)]) rfl ?_
  unfold vX5_copyFrom at h
  refine v_aload_n o 0 dX5_copyFrom_0 rfl ?_
  refine v_aload_n o 1 dX5_copyFrom_1 rfl ?_
  refine v_gfI o lkX5_38 (by decide) (wfTrace_o hb1) dX5_copyFrom_2 ?_
  refine v_pf o lpX5_38 (wfTrace_o ha) ⟨rfl, rfl⟩ dX5_copyFrom_5 ?_
  refine v_nmf (fun g5 eg5 => ?_)
  replace h := h g5 eg5
  refine v_aload_n o 0 dX5_copyFrom_8 rfl ?_
  refine v_gfR o lkX5_14 (by decide) (wfTrace_o ha) (wfTrace_r0 ha) dX5_copyFrom_9 ?_
  refine v_aload_n o 1 dX5_copyFrom_12 rfl ?_
  refine v_gfR o lkX5_14 (by decide) (wfTrace_o hb1) (wfTrace_r0 hb1) dX5_copyFrom_13 ?_
  refine v_cVv o [.ref (b1 + 1)] [] (fun sz => metX3_copyFrom l G P g5 sz (a + 1) (wfTrace_t0 ha) (b1 + 1) (wfTrace_t0 hb1) _ h) (cwX5_71 o.1.2.2.2.2 (by decide)) ⟨_, _, rfl⟩ (by decide) (wfRow_o (wfTrace_t0 ha)) rfl (Nat.le_of_ble_eq_true rfl) ⟨Nat.zero_le _, Nat.zero_le _⟩ dX5_copyFrom_16 rfl (fun g16 h => ?_)
  refine v_aload_n o 0 dX5_copyFrom_19 rfl ?_
  refine v_gfR o lkX5_20 (by decide) (wfTrace_o ha) (wfTrace_r1 ha) dX5_copyFrom_20 ?_
  refine v_aload_n o 1 dX5_copyFrom_23 rfl ?_
  refine v_gfR o lkX5_20 (by decide) (wfTrace_o hb1) (wfTrace_r1 hb1) dX5_copyFrom_24 ?_
  refine v_cVv o [.ref (b1 + 3)] [] (fun sz => metX3_copyFrom l G P g16 sz (a + 3) (wfTrace_t1 ha) (b1 + 3) (wfTrace_t1 hb1) _ h) (cwX5_71 o.1.2.2.2.2 (by decide)) ⟨_, _, rfl⟩ (by decide) (wfRow_o (wfTrace_t1 ha)) rfl (Nat.le_of_ble_eq_true rfl) ⟨Nat.zero_le _, Nat.zero_le _⟩ dX5_copyFrom_27 rfl (fun g27 h => ?_)
  refine v_aload_n o 0 dX5_copyFrom_30 rfl ?_
  refine v_gfR o lkX5_23 (by decide) (wfTrace_o ha) (wfTrace_r2 ha) dX5_copyFrom_31 ?_
  refine v_aload_n o 1 dX5_copyFrom_34 rfl ?_
  refine v_gfR o lkX5_23 (by decide) (wfTrace_o hb1) (wfTrace_r2 hb1) dX5_copyFrom_35 ?_
  refine v_cVv o [.ref (b1 + 5)] [] (fun sz => metX3_copyFrom l G P g27 sz (a + 5) (wfTrace_t2 ha) (b1 + 5) (wfTrace_t2 hb1) _ h) (cwX5_71 o.1.2.2.2.2 (by decide)) ⟨_, _, rfl⟩ (by decide) (wfRow_o (wfTrace_t2 ha)) rfl (Nat.le_of_ble_eq_true rfl) ⟨Nat.zero_le _, Nat.zero_le _⟩ dX5_copyFrom_38 rfl (fun g38 h => ?_)
  refine v_aload_n o 0 dX5_copyFrom_41 rfl ?_
  refine v_gfR o lkX5_26 (by decide) (wfTrace_o ha) (wfTrace_r3 ha) dX5_copyFrom_42 ?_
  refine v_aload_n o 1 dX5_copyFrom_45 rfl ?_
  refine v_gfR o lkX5_26 (by decide) (wfTrace_o hb1) (wfTrace_r3 hb1) dX5_copyFrom_46 ?_
  refine v_cVv o [.ref (b1 + 7)] [] (fun sz => metX3_copyFrom l G P g38 sz (a + 7) (wfTrace_t3 ha) (b1 + 7) (wfTrace_t3 hb1) _ h) (cwX5_71 o.1.2.2.2.2 (by decide)) ⟨_, _, rfl⟩ (by decide) (wfRow_o (wfTrace_t3 ha)) rfl (Nat.le_of_ble_eq_true rfl) ⟨Nat.zero_le _, Nat.zero_le _⟩ dX5_copyFrom_49 rfl (fun g49 h => ?_)
  refine v_aload_n o 0 dX5_copyFrom_52 rfl ?_
  refine v_gfR o lkX5_29 (by decide) (wfTrace_o ha) (wfTrace_r4 ha) dX5_copyFrom_53 ?_
  refine v_aload_n o 1 dX5_copyFrom_56 rfl ?_
  refine v_gfR o lkX5_29 (by decide) (wfTrace_o hb1) (wfTrace_r4 hb1) dX5_copyFrom_57 ?_
  refine v_cVv o [.ref (b1 + 9)] [] (fun sz => metX3_copyFrom l G P g49 sz (a + 9) (wfTrace_t4 ha) (b1 + 9) (wfTrace_t4 hb1) _ h) (cwX5_71 o.1.2.2.2.2 (by decide)) ⟨_, _, rfl⟩ (by decide) (wfRow_o (wfTrace_t4 ha)) rfl (Nat.le_of_ble_eq_true rfl) ⟨Nat.zero_le _, Nat.zero_le _⟩ dX5_copyFrom_60 rfl (fun g60 h => ?_)
  refine v_aload_n o 0 dX5_copyFrom_63 rfl ?_
  refine v_gfR o lkX5_32 (by decide) (wfTrace_o ha) (wfTrace_r5 ha) dX5_copyFrom_64 ?_
  refine v_aload_n o 1 dX5_copyFrom_67 rfl ?_
  refine v_gfR o lkX5_32 (by decide) (wfTrace_o hb1) (wfTrace_r5 hb1) dX5_copyFrom_68 ?_
  refine v_cVv o [.ref (b1 + 11)] [] (fun sz => metX3_copyFrom l G P g60 sz (a + 11) (wfTrace_t5 ha) (b1 + 11) (wfTrace_t5 hb1) _ h) (cwX5_71 o.1.2.2.2.2 (by decide)) ⟨_, _, rfl⟩ (by decide) (wfRow_o (wfTrace_t5 ha)) rfl (Nat.le_of_ble_eq_true rfl) ⟨Nat.zero_le _, Nat.zero_le _⟩ dX5_copyFrom_71 rfl (fun g71 h => ?_)
  exact v_vret o rfl hr dX5_copyFrom_74 h
abbrev kX5_copyFrom := @vX5_copyFrom
abbrev metX5_copyFrom := @mX5_copyFrom

def vX2_copyFrom (P : Sk) (f : St) (a : Nat) (b1 : Nat) (K : St → Prop) : Prop :=
  kX6_copyFrom P f (a + 1) (b1 + 1) (fun g8 => kX6_copyFrom P g8 (a + 4) (b1 + 4) (fun g19 => kX5_copyFrom P g19 (a + 7) (b1 + 7) (fun g30 => K g30)))
set_option maxRecDepth 20000 in
set_option maxHeartbeats 4000000 in
theorem mX2_copyFrom (l : Launch) (G : Gl) (P : Sk) (f : St) (sz : Nat) (a : Nat) (ha : IsLoaf P a) (b1 : Nat) (hb1 : IsLoaf P b1) (K : St → Prop) (h : vX2_copyFrom P f a b1 K)  :
  Met l yX2_copyFrom (wU yX2_copyFrom cX2_copyFrom 2 none) rmX2_copyFrom (PcW G P f sz [.ref a, .ref b1]) (QcV G P sz K) 0 0 (frA P sz) := by
  refine v_met (own := RX2) [.ref a, .ref b1] (by decide +kernel) rfl (Nat.le_of_ble_eq_true rfl) (fun p e s m args below meth c hsz o hr hnm => ?_)
  refine v_lv (lv2 := [(0, .ref a), (1, .ref b1)]) rfl ?_
  unfold vX2_copyFrom at h
  refine v_aload_n o 0 dX2_copyFrom_0 rfl ?_
  refine v_gfR o lkX2_12 (by decide) (wfLoaf_o ha) (wfLoaf_r0 ha) dX2_copyFrom_1 ?_
  refine v_aload_n o 1 dX2_copyFrom_4 rfl ?_
  refine v_gfR o lkX2_12 (by decide) (wfLoaf_o hb1) (wfLoaf_r0 hb1) dX2_copyFrom_5 ?_
  refine v_cVv o [.ref (b1 + 1)] [] (fun sz => metX6_copyFrom l G P f sz (a + 1) (wfLoaf_t0 ha) (b1 + 1) (wfLoaf_t0 hb1) _ h) (cwX2_39 o.1.2.2.2.2 (by decide)) ⟨_, _, rfl⟩ (by decide) (wfWord_o (wfLoaf_t0 ha)) rfl (Nat.le_of_ble_eq_true rfl) ⟨Nat.zero_le _, Nat.zero_le _⟩ dX2_copyFrom_8 rfl (fun g8 h => ?_)
  refine v_aload_n o 0 dX2_copyFrom_11 rfl ?_
  refine v_gfR o lkX2_18 (by decide) (wfLoaf_o ha) (wfLoaf_r1 ha) dX2_copyFrom_12 ?_
  refine v_aload_n o 1 dX2_copyFrom_15 rfl ?_
  refine v_gfR o lkX2_18 (by decide) (wfLoaf_o hb1) (wfLoaf_r1 hb1) dX2_copyFrom_16 ?_
  refine v_cVv o [.ref (b1 + 4)] [] (fun sz => metX6_copyFrom l G P g8 sz (a + 4) (wfLoaf_t1 ha) (b1 + 4) (wfLoaf_t1 hb1) _ h) (cwX2_39 o.1.2.2.2.2 (by decide)) ⟨_, _, rfl⟩ (by decide) (wfWord_o (wfLoaf_t1 ha)) rfl (Nat.le_of_ble_eq_true rfl) ⟨Nat.zero_le _, Nat.zero_le _⟩ dX2_copyFrom_19 rfl (fun g19 h => ?_)
  refine v_aload_n o 0 dX2_copyFrom_22 rfl ?_
  refine v_gfR o lkX2_24 (by decide) (wfLoaf_o ha) (wfLoaf_r2 ha) dX2_copyFrom_23 ?_
  refine v_aload_n o 1 dX2_copyFrom_26 rfl ?_
  refine v_gfR o lkX2_24 (by decide) (wfLoaf_o hb1) (wfLoaf_r2 hb1) dX2_copyFrom_27 ?_
  refine v_cVv o [.ref (b1 + 7)] [] (fun sz => metX5_copyFrom l G P g19 sz (a + 7) (wfLoaf_t2 ha) (b1 + 7) (wfLoaf_t2 hb1) _ h) (cwX2_42 o.1.2.2.2.2 (by decide)) ⟨_, _, rfl⟩ (by decide) (wfTrace_o (wfLoaf_t2 ha)) rfl (Nat.le_of_ble_eq_true rfl) ⟨Nat.zero_le _, Nat.zero_le _⟩ dX2_copyFrom_30 rfl (fun g30 h => ?_)
  exact v_vret o rfl hr dX2_copyFrom_33 h
abbrev kX2_copyFrom := @vX2_copyFrom
abbrev metX2_copyFrom := @mX2_copyFrom

def vX0_addLoaf (P : Sk) (f : St) (a : Nat) (b1 : Nat) (K : St → Prop) : Prop :=
  (6 ≤ f a 2 → K f) ∧ (¬ 6 ≤ f a 2 → kX2_copyFrom P f (atB a (f a 2)) b1 (fun g18 => ∀ g28 : St, g28 = setf g18 a 2 ((g18 a 2) + 1) → K g28))
set_option maxRecDepth 20000 in
set_option maxHeartbeats 4000000 in
theorem mX0_addLoaf (l : Launch) (G : Gl) (P : Sk) (f : St) (sz : Nat) (a : Nat) (ha : IsBoard P a) (b1 : Nat) (hb1 : IsLoaf P b1) (K : St → Prop) (h : vX0_addLoaf P f a b1 K)  :
  Met l yX0_addLoaf (wU yX0_addLoaf cX0_addLoaf 2 none) rmX0_addLoaf (PcW G P f sz [.ref a, .ref b1]) (QcV G P sz K) 0 0 (frA P sz) := by
  refine v_met (own := RX0) [.ref a, .ref b1] (by decide +kernel) rfl (Nat.le_of_ble_eq_true rfl) (fun p e s m args below meth c hsz o hr hnm => ?_)
  refine v_lv (lv2 := [(0, .ref a), (1, .ref b1)]) rfl ?_
  unfold vX0_addLoaf at h
  refine v_aload_n o 0 dX0_addLoaf_0 rfl ?_
  refine v_gfI o lkX0_22 (by decide) (wfBoard_o ha) dX0_addLoaf_1 ?_
  refine v_bipush o (v := 6) dX0_addLoaf_4 (by decide) ?_
  refine v_icmp_ge o (tgt := 31) dX0_addLoaf_6 (by decide) (fun c6 => ?_) (fun c6 => ?_)
  · replace h := h.1 c6
    exact v_vret o rfl hr dX0_addLoaf_31 h
  · replace h := h.2 c6
    refine v_aload_n o 0 dX0_addLoaf_9 rfl ?_
    refine v_aload_n o 0 dX0_addLoaf_10 rfl ?_
    refine v_gfI o lkX0_22 (by decide) (wfBoard_o ha) dX0_addLoaf_11 ?_
    refine v_cVr o [.int (f a 2)] [] (fun sz => metX0_at l G P f sz a ha (f a 2)) (cwX0_35 o.1.2.2.2.2 (by decide)) ⟨_, _, rfl⟩ (by decide) (wfBoard_o ha) rfl (Nat.le_of_ble_eq_true rfl) ⟨Nat.zero_le _, Nat.zero_le _⟩ dX0_addLoaf_14 rfl (fun r14 g14 h14 => ?_)
    obtain ⟨rfl, rfl⟩ := h14
    refine v_aload_n o 1 dX0_addLoaf_17 rfl ?_
    refine v_cVv o [.ref b1] [] (fun sz => metX2_copyFrom l G P f sz (atB a (f a 2)) (is_atB ha (f a 2)) b1 hb1 _ h) (cwX0_39 o.1.2.2.2.2 (by decide)) ⟨_, _, rfl⟩ (by decide) (wfLoaf_o (is_atB ha (f a 2))) rfl (Nat.le_of_ble_eq_true rfl) ⟨Nat.zero_le _, Nat.zero_le _⟩ dX0_addLoaf_18 rfl (fun g18 h => ?_)
    refine v_aload_n o 0 dX0_addLoaf_21 rfl ?_
    refine v_dup o dX0_addLoaf_22 rfl ?_
    refine v_gfI o lkX0_22 (by decide) (wfBoard_o ha) dX0_addLoaf_23 ?_
    refine v_iconst o (v := 1) dX0_addLoaf_26 (by decide) ?_
    refine v_iadd o dX0_addLoaf_27 ?_
    refine v_pf o lpX0_22 (wfBoard_o ha) ⟨rfl, rfl⟩ dX0_addLoaf_28 ?_
    refine v_nmf (fun g28 eg28 => ?_)
    replace h := h g28 eg28
    exact v_vret o rfl hr dX0_addLoaf_31 h
abbrev kX0_addLoaf := @vX0_addLoaf
abbrev metX0_addLoaf := @mX0_addLoaf

def bX0_removeLoaf_11 (P : Sk) (a : Nat) (p1 : Int32) (L11 : St → Int32 → Prop) (K : St → Prop) (f : St) (x2 : Int32) : Prop :=
  ((f a 2) - 1 ≤ x2 → ∀ g49 : St, g49 = setf f a 2 ((f a 2) - 1) → K g49) ∧ (¬ (f a 2) - 1 ≤ x2 → kX2_copyFrom P f (atB a x2) (atB a (x2 + 1)) (fun g33 => ∀ x2_36 : Int32, x2_36 = x2 + 1 → L11 g33 x2_36))
def vX0_removeLoaf (P : Sk) (f : St) (a : Nat) (p1 : Int32) (L11 : St → Int32 → Prop) (K : St → Prop) : Prop :=
  kX0_has P f a p1 (fun r2 g2 => (¬ r2 = 0 → L11 g2 p1) ∧ (r2 = 0 → K g2))
set_option maxRecDepth 20000 in
set_option maxHeartbeats 4000000 in
theorem mX0_removeLoaf (l : Launch) (G : Gl) (P : Sk) (f : St) (sz : Nat) (a : Nat) (ha : IsBoard P a) (p1 : Int32) (K : St → Prop) (I11 : St → Int32 → Prop) (μ11 : St → Int32 → Nat) 
  (h : vX0_removeLoaf P f a p1 I11 K)
  (h11 : ∀ (g : St) (x2 : Int32) , I11 g x2 → bX0_removeLoaf_11 P a p1 (fun g' z0 => I11 g' z0 ∧ μ11 g' z0 < μ11 g x2) K g x2) :
  Met l yX0_removeLoaf (wU yX0_removeLoaf cX0_removeLoaf 3 none) rmX0_removeLoaf (PcW G P f sz [.ref a, .int p1]) (QcV G P sz K) 0 0 (frA P sz) := by
  refine v_met (own := RX0) [.ref a, .int p1] (by decide +kernel) rfl (Nat.le_of_ble_eq_true rfl) (fun p e s m args below meth c hsz o hr hnm => ?_)
  refine v_lv (lv2 := [(0, .ref a), (1, .int p1)]) rfl ?_
  have main : ∀ n : Nat, (∀ (g : St) (x2 : Int32) , I11 g x2 → μ11 g x2 < n → V p l e rmX0_removeLoaf s m args below meth c 3 G (frA P sz) (MQ below (QcV G P sz K) args s 0 0 (frA P sz)) 0 0 P [(0, .ref a), (1, .int p1), (2, .int x2)] [] 11 g) := by
    intro n
    induction n with
    | zero => exact fun g x2 hI hm => absurd hm (Nat.not_lt_zero _)
    | succ n ih =>
      intro g x2 hI hm
      have h := h11 g x2 hI
      clear hI
      unfold bX0_removeLoaf_11 at h
      refine v_iload_n o 2 dX0_removeLoaf_11 rfl ?_
      refine v_aload_n o 0 dX0_removeLoaf_12 rfl ?_
      refine v_gfI o lkX0_22 (by decide) (wfBoard_o ha) dX0_removeLoaf_13 ?_
      refine v_iconst o (v := 1) dX0_removeLoaf_16 (by decide) ?_
      refine v_isub o dX0_removeLoaf_17 ?_
      refine v_icmp_ge o (tgt := 42) dX0_removeLoaf_18 (by decide) (fun c18 => ?_) (fun c18 => ?_)
      · replace h := h.1 c18
        refine v_aload_n o 0 dX0_removeLoaf_42 rfl ?_
        refine v_dup o dX0_removeLoaf_43 rfl ?_
        refine v_gfI o lkX0_22 (by decide) (wfBoard_o ha) dX0_removeLoaf_44 ?_
        refine v_iconst o (v := 1) dX0_removeLoaf_47 (by decide) ?_
        refine v_isub o dX0_removeLoaf_48 ?_
        refine v_pf o lpX0_22 (wfBoard_o ha) ⟨rfl, rfl⟩ dX0_removeLoaf_49 ?_
        refine v_nmf (fun g49 eg49 => ?_)
        replace h := h g49 eg49
        exact v_vret o rfl hr dX0_removeLoaf_52 h
      · replace h := h.2 c18
        refine v_aload_n o 0 dX0_removeLoaf_21 rfl ?_
        refine v_iload_n o 2 dX0_removeLoaf_22 rfl ?_
        refine v_cVr o [.int x2] [] (fun sz => metX0_at l G P g sz a ha x2) (cwX0_35 o.1.2.2.2.2 (by decide)) ⟨_, _, rfl⟩ (by decide) (wfBoard_o ha) rfl (Nat.le_of_ble_eq_true rfl) ⟨Nat.zero_le _, Nat.zero_le _⟩ dX0_removeLoaf_23 rfl (fun r23 g23 h23 => ?_)
        obtain ⟨rfl, rfl⟩ := h23
        refine v_aload_n o 0 dX0_removeLoaf_26 rfl ?_
        refine v_iload_n o 2 dX0_removeLoaf_27 rfl ?_
        refine v_iconst o (v := 1) dX0_removeLoaf_28 (by decide) ?_
        refine v_iadd o dX0_removeLoaf_29 ?_
        refine v_cVr o [.int (x2 + 1)] [.ref (atB a x2)] (fun sz => metX0_at l G P g sz a ha (x2 + 1)) (cwX0_35 o.1.2.2.2.2 (by decide)) ⟨_, _, rfl⟩ (by decide) (wfBoard_o ha) rfl (Nat.le_of_ble_eq_true rfl) ⟨Nat.zero_le _, Nat.zero_le _⟩ dX0_removeLoaf_30 rfl (fun r30 g30 h30 => ?_)
        obtain ⟨rfl, rfl⟩ := h30
        refine v_cVv o [.ref (atB a (x2 + 1))] [] (fun sz => metX2_copyFrom l G P g sz (atB a x2) (is_atB ha x2) (atB a (x2 + 1)) (is_atB ha (x2 + 1)) _ h) (cwX0_39 o.1.2.2.2.2 (by decide)) ⟨_, _, rfl⟩ (by decide) (wfLoaf_o (is_atB ha x2)) rfl (Nat.le_of_ble_eq_true rfl) ⟨Nat.zero_le _, Nat.zero_le _⟩ dX0_removeLoaf_33 rfl (fun g33 h => ?_)
        obtain ⟨x2_36, ex2_36⟩ : ∃ y : Int32, y = x2 + 1 := ⟨_, rfl⟩
        replace h := h x2_36 ex2_36
        refine v_iinc o (v := x2_36) (lv' := [(2, .int x2_36), (0, .ref a), (1, .int p1)]) 2 dX0_removeLoaf_36 rfl (by rw [ex2_36]; rfl) (by decide) rfl ?_
        refine v_goto o (tgt := 11) dX0_removeLoaf_39 (by decide) ?_
        refine v_sub [1, 2, 0] (lv2 := [(0, .ref a), (1, .int p1), (2, .int x2_36)]) rfl ?_
        exact ih g33 x2_36  h.1 (by have := h.2; omega)
  unfold vX0_removeLoaf at h
  refine v_aload_n o 0 dX0_removeLoaf_0 rfl ?_
  refine v_iload_n o 1 dX0_removeLoaf_1 rfl ?_
  refine v_cVi o [.int p1] [] (fun sz => metX0_has l G P f sz a ha p1 _ h) (cwX0_43 o.1.2.2.2.2 (by decide)) ⟨_, _, rfl⟩ (by decide) (wfBoard_o ha) rfl (Nat.le_of_ble_eq_true rfl) ⟨Nat.zero_le _, Nat.zero_le _⟩ dX0_removeLoaf_2 rfl (fun r2 g2 h => ?_)
  refine v_if_ne o (tgt := 9) dX0_removeLoaf_5 (by decide) (fun c5 => ?_) (fun c5 => ?_)
  · replace h := h.1 c5
    refine v_iload_n o 1 dX0_removeLoaf_9 rfl ?_
    refine v_istore_n o (lv' := [(2, .int p1), (0, .ref a), (1, .int p1)]) dX0_removeLoaf_10 rfl (by decide) rfl ?_
    refine v_sub [1, 2, 0] (lv2 := [(0, .ref a), (1, .int p1), (2, .int p1)]) rfl ?_
    exact (main (μ11 g2 p1 + 1)) g2 p1  h (Nat.lt_succ_self _)
  · replace h := h.2 c5
    exact v_vret o rfl hr dX0_removeLoaf_8 h
def kX0_removeLoaf (P : Sk) (f : St) (a : Nat) (p1 : Int32) (K : St → Prop) : Prop := False
theorem metX0_removeLoaf (l : Launch) (G : Gl) (P : Sk) (f : St) (sz : Nat) (a : Nat) (ha : IsBoard P a) (p1 : Int32) (K : St → Prop) (h : kX0_removeLoaf P f a p1 K) : Met l yX0_removeLoaf (wU yX0_removeLoaf cX0_removeLoaf 3 none) rmX0_removeLoaf (PcW G P f sz [.ref a, .int p1]) (QcV G P sz K) 0 0 (frA P sz) := sorry

def vX0_changes (P : Sk) (f : St) (a : Nat) (K : Int32 → St → Prop) : Prop :=
  K (f a 3) f
set_option maxRecDepth 20000 in
set_option maxHeartbeats 4000000 in
theorem mX0_changes (l : Launch) (G : Gl) (P : Sk) (f : St) (sz : Nat) (a : Nat) (ha : IsBoard P a) (K : Int32 → St → Prop) (h : vX0_changes P f a K)  :
  Met l yX0_changes (wU yX0_changes cX0_changes 1 (some .int)) rmX0_changes (PcW G P f sz [.ref a]) (QcI G P sz K) 0 0 (frA P sz) := by
  refine v_met (own := RX0) [.ref a] (by decide +kernel) rfl (Nat.le_of_ble_eq_true rfl) (fun p e s m args below meth c hsz o hr hnm => ?_)
  refine v_lv (lv2 := [(0, .ref a)]) rfl ?_
  unfold vX0_changes at h
  refine v_aload_n o 0 dX0_changes_0 rfl ?_
  refine v_gfI o lkX0_26 (by decide) (wfBoard_o ha) dX0_changes_1 ?_
  exact v_iret o rfl hr dX0_changes_4 h
abbrev kX0_changes := @vX0_changes
abbrev metX0_changes := @mX0_changes

def vX0_addChange (P : Sk) (f : St) (a : Nat) (K : St → Prop) : Prop :=
  ∀ g7 : St, g7 = setf f a 3 ((f a 3) + 1) → K g7
set_option maxRecDepth 20000 in
set_option maxHeartbeats 4000000 in
theorem mX0_addChange (l : Launch) (G : Gl) (P : Sk) (f : St) (sz : Nat) (a : Nat) (ha : IsBoard P a) (K : St → Prop) (h : vX0_addChange P f a K)  :
  Met l yX0_addChange (wU yX0_addChange cX0_addChange 1 none) rmX0_addChange (PcW G P f sz [.ref a]) (QcV G P sz K) 0 0 (frA P sz) := by
  refine v_met (own := RX0) [.ref a] (by decide +kernel) rfl (Nat.le_of_ble_eq_true rfl) (fun p e s m args below meth c hsz o hr hnm => ?_)
  refine v_lv (lv2 := [(0, .ref a)]) rfl ?_
  unfold vX0_addChange at h
  refine v_aload_n o 0 dX0_addChange_0 rfl ?_
  refine v_dup o dX0_addChange_1 rfl ?_
  refine v_gfI o lkX0_26 (by decide) (wfBoard_o ha) dX0_addChange_2 ?_
  refine v_iconst o (v := 1) dX0_addChange_5 (by decide) ?_
  refine v_iadd o dX0_addChange_6 ?_
  refine v_pf o lpX0_26 (wfBoard_o ha) ⟨rfl, rfl⟩ dX0_addChange_7 ?_
  refine v_nmf (fun g7 eg7 => ?_)
  replace h := h g7 eg7
  exact v_vret o rfl hr dX0_addChange_10 h
abbrev kX0_addChange := @vX0_addChange
abbrev metX0_addChange := @mX0_addChange

def vX0_stopPart (P : Sk) (f : St) (a : Nat) (K : Int32 → St → Prop) : Prop :=
  K (f a 4) f
set_option maxRecDepth 20000 in
set_option maxHeartbeats 4000000 in
theorem mX0_stopPart (l : Launch) (G : Gl) (P : Sk) (f : St) (sz : Nat) (a : Nat) (ha : IsBoard P a) (K : Int32 → St → Prop) (h : vX0_stopPart P f a K)  :
  Met l yX0_stopPart (wU yX0_stopPart cX0_stopPart 1 (some .int)) rmX0_stopPart (PcW G P f sz [.ref a]) (QcI G P sz K) 0 0 (frA P sz) := by
  refine v_met (own := RX0) [.ref a] (by decide +kernel) rfl (Nat.le_of_ble_eq_true rfl) (fun p e s m args below meth c hsz o hr hnm => ?_)
  refine v_lv (lv2 := [(0, .ref a)]) rfl ?_
  unfold vX0_stopPart at h
  refine v_aload_n o 0 dX0_stopPart_0 rfl ?_
  refine v_gfI o lkX0_29 (by decide) (wfBoard_o ha) dX0_stopPart_1 ?_
  exact v_iret o rfl hr dX0_stopPart_4 h
abbrev kX0_stopPart := @vX0_stopPart
abbrev metX0_stopPart := @mX0_stopPart

def vX0_stopReason (P : Sk) (f : St) (a : Nat) (K : Int32 → St → Prop) : Prop :=
  K (f a 5) f
set_option maxRecDepth 20000 in
set_option maxHeartbeats 4000000 in
theorem mX0_stopReason (l : Launch) (G : Gl) (P : Sk) (f : St) (sz : Nat) (a : Nat) (ha : IsBoard P a) (K : Int32 → St → Prop) (h : vX0_stopReason P f a K)  :
  Met l yX0_stopReason (wU yX0_stopReason cX0_stopReason 1 (some .int)) rmX0_stopReason (PcW G P f sz [.ref a]) (QcI G P sz K) 0 0 (frA P sz) := by
  refine v_met (own := RX0) [.ref a] (by decide +kernel) rfl (Nat.le_of_ble_eq_true rfl) (fun p e s m args below meth c hsz o hr hnm => ?_)
  refine v_lv (lv2 := [(0, .ref a)]) rfl ?_
  unfold vX0_stopReason at h
  refine v_aload_n o 0 dX0_stopReason_0 rfl ?_
  refine v_gfI o lkX0_32 (by decide) (wfBoard_o ha) dX0_stopReason_1 ?_
  exact v_iret o rfl hr dX0_stopReason_4 h
abbrev kX0_stopReason := @vX0_stopReason
abbrev metX0_stopReason := @mX0_stopReason

def vX0_setStop (P : Sk) (f : St) (a : Nat) (p1 : Int32) (p2 : Int32) (K : St → Prop) : Prop :=
  ∀ g2 : St, g2 = setf f a 4 p1 → ∀ g7 : St, g7 = setf g2 a 5 p2 → K g7
set_option maxRecDepth 20000 in
set_option maxHeartbeats 4000000 in
theorem mX0_setStop (l : Launch) (G : Gl) (P : Sk) (f : St) (sz : Nat) (a : Nat) (ha : IsBoard P a) (p1 : Int32) (p2 : Int32) (K : St → Prop) (h : vX0_setStop P f a p1 p2 K)  :
  Met l yX0_setStop (wU yX0_setStop cX0_setStop 3 none) rmX0_setStop (PcW G P f sz [.ref a, .int p1, .int p2]) (QcV G P sz K) 0 0 (frA P sz) := by
  refine v_met (own := RX0) [.ref a, .int p1, .int p2] (by decide +kernel) rfl (Nat.le_of_ble_eq_true rfl) (fun p e s m args below meth c hsz o hr hnm => ?_)
  refine v_lv (lv2 := [(0, .ref a), (1, .int p1), (2, .int p2)]) rfl ?_
  unfold vX0_setStop at h
  refine v_aload_n o 0 dX0_setStop_0 rfl ?_
  refine v_iload_n o 1 dX0_setStop_1 rfl ?_
  refine v_pf o lpX0_29 (wfBoard_o ha) ⟨rfl, rfl⟩ dX0_setStop_2 ?_
  refine v_nmf (fun g2 eg2 => ?_)
  replace h := h g2 eg2
  refine v_aload_n o 0 dX0_setStop_5 rfl ?_
  refine v_iload_n o 2 dX0_setStop_6 rfl ?_
  refine v_pf o lpX0_32 (wfBoard_o ha) ⟨rfl, rfl⟩ dX0_setStop_7 ?_
  refine v_nmf (fun g7 eg7 => ?_)
  replace h := h g7 eg7
  exact v_vret o rfl hr dX0_setStop_10 h
abbrev kX0_setStop := @vX0_setStop
abbrev metX0_setStop := @mX0_setStop

def bX0_copyFrom_34 (P : Sk) (a : Nat) (b1 : Nat) (L34 : St → Int32 → Prop) (K : St → Prop) (f : St) (x2 : Int32) : Prop :=
  (f a 2 ≤ x2 → K f) ∧ (¬ f a 2 ≤ x2 → kX2_copyFrom P f (atB a x2) (atB b1 x2) (fun g52 => ∀ x2_55 : Int32, x2_55 = x2 + 1 → L34 g52 x2_55))
def vX0_copyFrom (P : Sk) (f : St) (a : Nat) (b1 : Nat) (L34 : St → Int32 → Prop) (K : St → Prop) : Prop :=
  ∀ g5 : St, g5 = setf f a 2 (f b1 2) → ∀ g13 : St, g13 = setf g5 a 3 (g5 b1 3) → ∀ g21 : St, g21 = setf g13 a 4 (g13 b1 4) → ∀ g29 : St, g29 = setf g21 a 5 (g21 b1 5) → L34 g29 0
set_option maxRecDepth 20000 in
set_option maxHeartbeats 4000000 in
theorem mX0_copyFrom (l : Launch) (G : Gl) (P : Sk) (f : St) (sz : Nat) (a : Nat) (ha : IsBoard P a) (b1 : Nat) (hb1 : IsBoard P b1) (K : St → Prop) (I34 : St → Int32 → Prop) (μ34 : St → Int32 → Nat) 
  (h : vX0_copyFrom P f a b1 I34 K)
  (h34 : ∀ (g : St) (x2 : Int32) , I34 g x2 → bX0_copyFrom_34 P a b1 (fun g' z0 => I34 g' z0 ∧ μ34 g' z0 < μ34 g x2) K g x2) :
  Met l yX0_copyFrom (wU yX0_copyFrom cX0_copyFrom 3 none) rmX0_copyFrom (PcW G P f sz [.ref a, .ref b1]) (QcV G P sz K) 0 0 (frA P sz) := by
  refine v_met (own := RX0) [.ref a, .ref b1] (by decide +kernel) rfl (Nat.le_of_ble_eq_true rfl) (fun p e s m args below meth c hsz o hr hnm => ?_)
  refine v_lv (lv2 := [(0, .ref a), (1, .ref b1)]) rfl ?_
  have main : ∀ n : Nat, (∀ (g : St) (x2 : Int32) , I34 g x2 → μ34 g x2 < n → V p l e rmX0_copyFrom s m args below meth c 3 G (frA P sz) (MQ below (QcV G P sz K) args s 0 0 (frA P sz)) 0 0 P [(0, .ref a), (1, .ref b1), (2, .int x2)] [] 34 g) := by
    intro n
    induction n with
    | zero => exact fun g x2 hI hm => absurd hm (Nat.not_lt_zero _)
    | succ n ih =>
      intro g x2 hI hm
      have h := h34 g x2 hI
      clear hI
      unfold bX0_copyFrom_34 at h
      refine v_iload_n o 2 dX0_copyFrom_34 rfl ?_
      refine v_aload_n o 0 dX0_copyFrom_35 rfl ?_
      refine v_gfI o lkX0_22 (by decide) (wfBoard_o ha) dX0_copyFrom_36 ?_
      refine v_icmp_ge o (tgt := 61) dX0_copyFrom_39 (by decide) (fun c39 => ?_) (fun c39 => ?_)
      · replace h := h.1 c39
        exact v_vret o rfl hr dX0_copyFrom_61 h
      · replace h := h.2 c39
        refine v_aload_n o 0 dX0_copyFrom_42 rfl ?_
        refine v_iload_n o 2 dX0_copyFrom_43 rfl ?_
        refine v_cVr o [.int x2] [] (fun sz => metX0_at l G P g sz a ha x2) (cwX0_35 o.1.2.2.2.2 (by decide)) ⟨_, _, rfl⟩ (by decide) (wfBoard_o ha) rfl (Nat.le_of_ble_eq_true rfl) ⟨Nat.zero_le _, Nat.zero_le _⟩ dX0_copyFrom_44 rfl (fun r44 g44 h44 => ?_)
        obtain ⟨rfl, rfl⟩ := h44
        refine v_aload_n o 1 dX0_copyFrom_47 rfl ?_
        refine v_iload_n o 2 dX0_copyFrom_48 rfl ?_
        refine v_cVr o [.int x2] [.ref (atB a x2)] (fun sz => metX0_at l G P g sz b1 hb1 x2) (cwX0_35 o.1.2.2.2.2 (by decide)) ⟨_, _, rfl⟩ (by decide) (wfBoard_o hb1) rfl (Nat.le_of_ble_eq_true rfl) ⟨Nat.zero_le _, Nat.zero_le _⟩ dX0_copyFrom_49 rfl (fun r49 g49 h49 => ?_)
        obtain ⟨rfl, rfl⟩ := h49
        refine v_cVv o [.ref (atB b1 x2)] [] (fun sz => metX2_copyFrom l G P g sz (atB a x2) (is_atB ha x2) (atB b1 x2) (is_atB hb1 x2) _ h) (cwX0_39 o.1.2.2.2.2 (by decide)) ⟨_, _, rfl⟩ (by decide) (wfLoaf_o (is_atB ha x2)) rfl (Nat.le_of_ble_eq_true rfl) ⟨Nat.zero_le _, Nat.zero_le _⟩ dX0_copyFrom_52 rfl (fun g52 h => ?_)
        obtain ⟨x2_55, ex2_55⟩ : ∃ y : Int32, y = x2 + 1 := ⟨_, rfl⟩
        replace h := h x2_55 ex2_55
        refine v_iinc o (v := x2_55) (lv' := [(2, .int x2_55), (0, .ref a), (1, .ref b1)]) 2 dX0_copyFrom_55 rfl (by rw [ex2_55]; rfl) (by decide) rfl ?_
        refine v_goto o (tgt := 34) dX0_copyFrom_58 (by decide) ?_
        refine v_sub [1, 2, 0] (lv2 := [(0, .ref a), (1, .ref b1), (2, .int x2_55)]) rfl ?_
        exact ih g52 x2_55  h.1 (by have := h.2; omega)
  unfold vX0_copyFrom at h
  refine v_aload_n o 0 dX0_copyFrom_0 rfl ?_
  refine v_aload_n o 1 dX0_copyFrom_1 rfl ?_
  refine v_gfI o lkX0_22 (by decide) (wfBoard_o hb1) dX0_copyFrom_2 ?_
  refine v_pf o lpX0_22 (wfBoard_o ha) ⟨rfl, rfl⟩ dX0_copyFrom_5 ?_
  refine v_nmf (fun g5 eg5 => ?_)
  replace h := h g5 eg5
  refine v_aload_n o 0 dX0_copyFrom_8 rfl ?_
  refine v_aload_n o 1 dX0_copyFrom_9 rfl ?_
  refine v_gfI o lkX0_26 (by decide) (wfBoard_o hb1) dX0_copyFrom_10 ?_
  refine v_pf o lpX0_26 (wfBoard_o ha) ⟨rfl, rfl⟩ dX0_copyFrom_13 ?_
  refine v_nmf (fun g13 eg13 => ?_)
  replace h := h g13 eg13
  refine v_aload_n o 0 dX0_copyFrom_16 rfl ?_
  refine v_aload_n o 1 dX0_copyFrom_17 rfl ?_
  refine v_gfI o lkX0_29 (by decide) (wfBoard_o hb1) dX0_copyFrom_18 ?_
  refine v_pf o lpX0_29 (wfBoard_o ha) ⟨rfl, rfl⟩ dX0_copyFrom_21 ?_
  refine v_nmf (fun g21 eg21 => ?_)
  replace h := h g21 eg21
  refine v_aload_n o 0 dX0_copyFrom_24 rfl ?_
  refine v_aload_n o 1 dX0_copyFrom_25 rfl ?_
  refine v_gfI o lkX0_32 (by decide) (wfBoard_o hb1) dX0_copyFrom_26 ?_
  refine v_pf o lpX0_32 (wfBoard_o ha) ⟨rfl, rfl⟩ dX0_copyFrom_29 ?_
  refine v_nmf (fun g29 eg29 => ?_)
  replace h := h g29 eg29
  refine v_iconst o (v := 0) dX0_copyFrom_32 (by decide) ?_
  refine v_istore_n o (lv' := [(2, .int 0), (0, .ref a), (1, .ref b1)]) dX0_copyFrom_33 rfl (by decide) rfl ?_
  refine v_sub [1, 2, 0] (lv2 := [(0, .ref a), (1, .ref b1), (2, .int 0)]) rfl ?_
  exact (main (μ34 g29 0 + 1)) g29 0  h (Nat.lt_succ_self _)
def kX0_copyFrom (P : Sk) (f : St) (a : Nat) (b1 : Nat) (K : St → Prop) : Prop := False
theorem metX0_copyFrom (l : Launch) (G : Gl) (P : Sk) (f : St) (sz : Nat) (a : Nat) (ha : IsBoard P a) (b1 : Nat) (hb1 : IsBoard P b1) (K : St → Prop) (h : kX0_copyFrom P f a b1 K) : Met l yX0_copyFrom (wU yX0_copyFrom cX0_copyFrom 3 none) rmX0_copyFrom (PcW G P f sz [.ref a, .ref b1]) (QcV G P sz K) 0 0 (frA P sz) := sorry

def vX1_size (P : Sk) (f : St) (a : Nat) (K : Int32 → St → Prop) : Prop :=
  K (f a 3) f
set_option maxRecDepth 20000 in
set_option maxHeartbeats 4000000 in
theorem mX1_size (l : Launch) (G : Gl) (P : Sk) (f : St) (sz : Nat) (a : Nat) (ha : IsHist P a) (K : Int32 → St → Prop) (h : vX1_size P f a K)  :
  Met l yX1_size (wU yX1_size cX1_size 1 (some .int)) rmX1_size (PcW G P f sz [.ref a]) (QcI G P sz K) 0 0 (frA P sz) := by
  refine v_met (own := RX1) [.ref a] (by decide +kernel) rfl (Nat.le_of_ble_eq_true rfl) (fun p e s m args below meth c hsz o hr hnm => ?_)
  refine v_lv (lv2 := [(0, .ref a)]) rfl ?_
  unfold vX1_size at h
  refine v_aload_n o 0 dX1_size_0 rfl ?_
  refine v_gfI o lkX1_26 (by decide) (wfHist_o ha) dX1_size_1 ?_
  exact v_iret o rfl hr dX1_size_4 h
abbrev kX1_size := @vX1_size
abbrev metX1_size := @mX1_size

def vJ9_floorMod_7cf53 (P : Sk) (f : St) (p0 : Int32) (p1 : Int32) (K : Int32 → St → Prop) : Prop :=
  (¬ p1 = 0) ∧ (∀ x2_3 : Int32, x2_3 = p0 - p0 / p1 * p1 → (0 ≤ p0 ^^^ p1 → K x2_3 f) ∧ (¬ 0 ≤ p0 ^^^ p1 → (x2_3 = 0 → K x2_3 f) ∧ (¬ x2_3 = 0 → K (x2_3 + p1) f)))
set_option maxRecDepth 20000 in
set_option maxHeartbeats 4000000 in
theorem mJ9_floorMod_7cf53 (l : Launch) (G : Gl) (P : Sk) (f : St) (sz : Nat) (p0 : Int32) (p1 : Int32) (K : Int32 → St → Prop) (h : vJ9_floorMod_7cf53 P f p0 p1 K)  :
  Met l yJ9_floorMod_7cf53 (wU yJ9_floorMod_7cf53 cJ9_floorMod_7cf53 3 (some .int)) rmJ9_floorMod_7cf53 (PcW G P f sz [.int p0, .int p1]) (QcI G P sz K) 0 0 (frA P sz) := by
  refine v_met (own := RJ9) [.int p0, .int p1] (by decide +kernel) rfl (Nat.le_of_ble_eq_true rfl) (fun p e s m args below meth c hsz o hr hnm => ?_)
  refine v_lv (lv2 := [(0, .int p0), (1, .int p1)]) rfl ?_
  unfold vJ9_floorMod_7cf53 at h
  refine v_iload_n o 0 dJ9_floorMod_7cf53_0 rfl ?_
  refine v_iload_n o 1 dJ9_floorMod_7cf53_1 rfl ?_
  refine v_irem o dJ9_floorMod_7cf53_2 h.1 ?_
  replace h := h.2
  refine v_topi (fun x2_3 ex2_3 => ?_)
  replace h := h x2_3 ex2_3
  refine v_istore_n o (lv' := [(2, .int x2_3), (0, .int p0), (1, .int p1)]) dJ9_floorMod_7cf53_3 rfl (by decide) rfl ?_
  refine v_iload_n o 1 dJ9_floorMod_7cf53_4 rfl ?_
  refine v_iload_n o 2 dJ9_floorMod_7cf53_5 rfl ?_
  refine v_ixor o dJ9_floorMod_7cf53_6 ?_
  refine v_if_ge o (tgt := 18) dJ9_floorMod_7cf53_7 (by decide) (fun c7 => ?_) (fun c7 => ?_)
  · replace h := h.1 c7
    refine v_iload_n o 0 dJ9_floorMod_7cf53_18 rfl ?_
    exact v_iret o rfl hr dJ9_floorMod_7cf53_19 h
  · replace h := h.2 c7
    refine v_iload_n o 0 dJ9_floorMod_7cf53_10 rfl ?_
    refine v_if_eq o (tgt := 18) dJ9_floorMod_7cf53_11 (by decide) (fun c11 => ?_) (fun c11 => ?_)
    · replace h := h.1 c11
      refine v_iload_n o 0 dJ9_floorMod_7cf53_18 rfl ?_
      exact v_iret o rfl hr dJ9_floorMod_7cf53_19 h
    · replace h := h.2 c11
      refine v_iload_n o 0 dJ9_floorMod_7cf53_14 rfl ?_
      refine v_iload_n o 2 dJ9_floorMod_7cf53_15 rfl ?_
      refine v_iadd o dJ9_floorMod_7cf53_16 ?_
      exact v_iret o rfl hr dJ9_floorMod_7cf53_17 h
abbrev kJ9_floorMod_7cf53 := @vJ9_floorMod_7cf53
abbrev metJ9_floorMod_7cf53 := @mJ9_floorMod_7cf53

def jX1_at_34 (P : Sk) (a : Nat) (p1 : Int32) (K : Nat → St → Prop) (x2 : Int32) (f : St) : Prop :=
  K (a + 2) f
def vX1_at (P : Sk) (f : St) (a : Nat) (p1 : Int32) (K : Nat → St → Prop) : Prop :=
  kJ9_floorMod_7cf53 P f ((f a 2) + p1) 6 (fun r8 g8 => (r8 < 0 → jX1_at_34 P a p1 K r8 g8) ∧ (¬ r8 < 0 → (nI 6 ≤ r8 → jX1_at_34 P a p1 K r8 g8) ∧ (¬ nI 6 ≤ r8 → vp_in r8 6 ∧ (vp_in r8 6 ∧ (K (a + 158 + 156 * r8.toNatClampNeg) g8)))))
set_option maxRecDepth 20000 in
set_option maxHeartbeats 4000000 in
theorem mX1_at (l : Launch) (G : Gl) (P : Sk) (f : St) (sz : Nat) (a : Nat) (ha : IsHist P a) (p1 : Int32) (K : Nat → St → Prop) (h : vX1_at P f a p1 K)  :
  Met l yX1_at (wU yX1_at cX1_at 3 (some (.object "StrandLoaves$Board"))) rmX1_at (PcW G P f sz [.ref a, .int p1]) (QcR G P sz K) 0 0 (frA P sz) := by
  refine v_met (own := RX1) [.ref a, .int p1] (by decide +kernel) rfl (Nat.le_of_ble_eq_true rfl) (fun p e s m args below meth c hsz o hr hnm => ?_)
  refine v_lv (lv2 := [(0, .ref a), (1, .int p1)]) rfl ?_
  have J34 : ∀ (x2_34 : Int32) (g34 : St), jX1_at_34 P a p1 K x2_34 g34 → V p l e rmX1_at s m args below meth c 3 G (frA P sz) (MQ below (QcR G P sz K) args s 0 0 (frA P sz)) 0 0 P [(0, .ref a), (1, .int p1), (2, .int x2_34)] [] 34 g34 := by
    intro x2_34 g34  h
    unfold jX1_at_34 at h
    refine v_aload_n o 0 dX1_at_34 rfl ?_
    refine v_gfR o lkX1_18 (by decide) (wfHist_o ha) (wfHist_r1 ha) dX1_at_35 ?_
    exact v_aret o rfl hr (Or.inl ⟨_, rfl⟩) dX1_at_38 h
  unfold vX1_at at h
  refine v_aload_n o 0 dX1_at_0 rfl ?_
  refine v_gfI o lkX1_22 (by decide) (wfHist_o ha) dX1_at_1 ?_
  refine v_iload_n o 1 dX1_at_4 rfl ?_
  refine v_iadd o dX1_at_5 ?_
  refine v_bipush o (v := 6) dX1_at_6 (by decide) ?_
  refine v_cSi o [.int ((f a 2) + p1), .int 6] [] (fun sz => metJ9_floorMod_7cf53 l G P f sz ((f a 2) + p1) 6 _ h) (cwX1_29 o.1.2.2.2.2 (by decide)) rfl (Nat.le_of_ble_eq_true rfl) ⟨Nat.zero_le _, Nat.zero_le _⟩ dX1_at_8 rfl (fun r8 g8 h => ?_)
  refine v_istore_n o (lv' := [(2, .int r8), (0, .ref a), (1, .int p1)]) dX1_at_11 rfl (by decide) rfl ?_
  refine v_iload_n o 0 dX1_at_12 rfl ?_
  refine v_if_lt o (tgt := 34) dX1_at_13 (by decide) (fun c13 => ?_) (fun c13 => ?_)
  · replace h := h.1 c13
    refine v_sub [1, 2, 0] (lv2 := [(0, .ref a), (1, .int p1), (2, .int r8)]) rfl ?_
    exact J34 r8 g8  h
  · replace h := h.2 c13
    refine v_iload_n o 0 dX1_at_16 rfl ?_
    refine v_aload_n o 1 dX1_at_17 rfl ?_
    refine v_gfR o lkX1_11 (by decide) (wfHist_o ha) (wfHist_r0 ha) dX1_at_18 ?_
    refine v_alen12 o (wfHist_t0 ha) (wfHist_n0 ha) dX1_at_21 ?_
    refine v_icmp_ge o (tgt := 34) dX1_at_22 (by decide) (fun c22 => ?_) (fun c22 => ?_)
    · replace h := h.1 c22
      refine v_sub [1, 2, 0] (lv2 := [(0, .ref a), (1, .int p1), (2, .int r8)]) rfl ?_
      exact J34 r8 g8  h
    · replace h := h.2 c22
      refine v_aload_n o 1 dX1_at_25 rfl ?_
      refine v_gfR o lkX1_11 (by decide) (wfHist_o ha) (wfHist_r0 ha) dX1_at_26 ?_
      refine v_iload_n o 0 dX1_at_29 rfl ?_
      have hi30 := h.1
      replace h := h.2
      refine v_aald12 o (wfHist_t0 ha) (wfHist_n0 ha) hi30 (wfHist_ar ha _ (vin_lt hi30)) dX1_at_30 ?_
      refine v_ifnonnull o (tgt := 39) dX1_at_31 (by decide) ?_
      refine v_aload_n o 1 dX1_at_39 rfl ?_
      refine v_gfR o lkX1_11 (by decide) (wfHist_o ha) (wfHist_r0 ha) dX1_at_40 ?_
      refine v_iload_n o 0 dX1_at_43 rfl ?_
      have hi44 := h.1
      replace h := h.2
      refine v_aald12 o (wfHist_t0 ha) (wfHist_n0 ha) hi44 (wfHist_ar ha _ (vin_lt hi44)) dX1_at_44 ?_
      exact v_aret o rfl hr (Or.inl ⟨_, rfl⟩) dX1_at_45 h
theorem metX1_at (l : Launch) (G : Gl) (P : Sk) (f : St) (sz : Nat) (a : Nat) (ha : IsHist P a) (p1 : Int32) : Met l yX1_at (wU yX1_at cX1_at 3 (some (.object "StrandLoaves$Board"))) rmX1_at (PcW G P f sz [.ref a, .int p1]) (QcR G P sz (fun r g => r = (atH a p1) ∧ f = g)) 0 0 (frA P sz) := sorry

def vX1_save (P : Sk) (f : St) (a : Nat) (b1 : Nat) (K : St → Prop) : Prop :=
  kX0_copyFrom P f (atH a (f a 3)) b1 (fun g9 => (6 ≤ g9 a 3 → kJ9_floorMod_7cf53 P g9 ((g9 a 2) + 1) 6 (fun r43 g43 => ∀ g46 : St, g46 = setf g43 a 2 r43 → K g46)) ∧ (¬ 6 ≤ g9 a 3 → ∀ g28 : St, g28 = setf g9 a 3 ((g9 a 3) + 1) → K g28))
set_option maxRecDepth 20000 in
set_option maxHeartbeats 4000000 in
theorem mX1_save (l : Launch) (G : Gl) (P : Sk) (f : St) (sz : Nat) (a : Nat) (ha : IsHist P a) (b1 : Nat) (hb1 : IsBoard P b1) (K : St → Prop) (h : vX1_save P f a b1 K)  :
  Met l yX1_save (wU yX1_save cX1_save 2 none) rmX1_save (PcW G P f sz [.ref a, .ref b1]) (QcV G P sz K) 0 0 (frA P sz) := by
  refine v_met (own := RX1) [.ref a, .ref b1] (by decide +kernel) rfl (Nat.le_of_ble_eq_true rfl) (fun p e s m args below meth c hsz o hr hnm => ?_)
  refine v_lv (lv2 := [(0, .ref a), (1, .ref b1)]) rfl ?_
  unfold vX1_save at h
  refine v_aload_n o 0 dX1_save_0 rfl ?_
  refine v_aload_n o 0 dX1_save_1 rfl ?_
  refine v_gfI o lkX1_26 (by decide) (wfHist_o ha) dX1_save_2 ?_
  refine v_cVr o [.int (f a 3)] [] (fun sz => metX1_at l G P f sz a ha (f a 3)) (cwX1_35 o.1.2.2.2.2 (by decide)) ⟨_, _, rfl⟩ (by decide) (wfHist_o ha) rfl (Nat.le_of_ble_eq_true rfl) ⟨Nat.zero_le _, Nat.zero_le _⟩ dX1_save_5 rfl (fun r5 g5 h5 => ?_)
  obtain ⟨rfl, rfl⟩ := h5
  refine v_aload_n o 1 dX1_save_8 rfl ?_
  refine v_cVv o [.ref b1] [] (fun sz => metX0_copyFrom l G P f sz (atH a (f a 3)) (is_atH ha (f a 3)) b1 hb1 _ h) (cwX1_39 o.1.2.2.2.2 (by decide)) ⟨_, _, rfl⟩ (by decide) (wfBoard_o (is_atH ha (f a 3))) rfl (Nat.le_of_ble_eq_true rfl) ⟨Nat.zero_le _, Nat.zero_le _⟩ dX1_save_9 rfl (fun g9 h => ?_)
  refine v_aload_n o 0 dX1_save_12 rfl ?_
  refine v_gfI o lkX1_26 (by decide) (wfHist_o ha) dX1_save_13 ?_
  refine v_bipush o (v := 6) dX1_save_16 (by decide) ?_
  refine v_icmp_ge o (tgt := 34) dX1_save_18 (by decide) (fun c18 => ?_) (fun c18 => ?_)
  · replace h := h.1 c18
    refine v_aload_n o 0 dX1_save_34 rfl ?_
    refine v_aload_n o 0 dX1_save_35 rfl ?_
    refine v_gfI o lkX1_22 (by decide) (wfHist_o ha) dX1_save_36 ?_
    refine v_iconst o (v := 1) dX1_save_39 (by decide) ?_
    refine v_iadd o dX1_save_40 ?_
    refine v_bipush o (v := 6) dX1_save_41 (by decide) ?_
    refine v_cSi o [.int ((g9 a 2) + 1), .int 6] [.ref a] (fun sz => metJ9_floorMod_7cf53 l G P g9 sz ((g9 a 2) + 1) 6 _ h) (cwX1_29 o.1.2.2.2.2 (by decide)) rfl (Nat.le_of_ble_eq_true rfl) ⟨Nat.zero_le _, Nat.zero_le _⟩ dX1_save_43 rfl (fun r43 g43 h => ?_)
    refine v_pf o lpX1_22 (wfHist_o ha) ⟨rfl, rfl⟩ dX1_save_46 ?_
    refine v_nmf (fun g46 eg46 => ?_)
    replace h := h g46 eg46
    exact v_vret o rfl hr dX1_save_49 h
  · replace h := h.2 c18
    refine v_aload_n o 0 dX1_save_21 rfl ?_
    refine v_dup o dX1_save_22 rfl ?_
    refine v_gfI o lkX1_26 (by decide) (wfHist_o ha) dX1_save_23 ?_
    refine v_iconst o (v := 1) dX1_save_26 (by decide) ?_
    refine v_iadd o dX1_save_27 ?_
    refine v_pf o lpX1_26 (wfHist_o ha) ⟨rfl, rfl⟩ dX1_save_28 ?_
    refine v_nmf (fun g28 eg28 => ?_)
    replace h := h g28 eg28
    refine v_goto o (tgt := 49) dX1_save_31 (by decide) ?_
    exact v_vret o rfl hr dX1_save_49 h
abbrev kX1_save := @vX1_save
abbrev metX1_save := @mX1_save

def vX1_takeBack (P : Sk) (f : St) (a : Nat) (b1 : Nat) (K : St → Prop) : Prop :=
  (f a 3 ≤ 0 → K f) ∧ (¬ f a 3 ≤ 0 → ∀ g14 : St, g14 = setf f a 3 ((f a 3) - 1) → kX0_copyFrom P g14 b1 (atH a (g14 a 3)) (fun g26 => K g26))
set_option maxRecDepth 20000 in
set_option maxHeartbeats 4000000 in
theorem mX1_takeBack (l : Launch) (G : Gl) (P : Sk) (f : St) (sz : Nat) (a : Nat) (ha : IsHist P a) (b1 : Nat) (hb1 : IsBoard P b1) (K : St → Prop) (h : vX1_takeBack P f a b1 K)  :
  Met l yX1_takeBack (wU yX1_takeBack cX1_takeBack 2 none) rmX1_takeBack (PcW G P f sz [.ref a, .ref b1]) (QcV G P sz K) 0 0 (frA P sz) := by
  refine v_met (own := RX1) [.ref a, .ref b1] (by decide +kernel) rfl (Nat.le_of_ble_eq_true rfl) (fun p e s m args below meth c hsz o hr hnm => ?_)
  refine v_lv (lv2 := [(0, .ref a), (1, .ref b1)]) rfl ?_
  unfold vX1_takeBack at h
  refine v_aload_n o 0 dX1_takeBack_0 rfl ?_
  refine v_gfI o lkX1_26 (by decide) (wfHist_o ha) dX1_takeBack_1 ?_
  refine v_if_le o (tgt := 29) dX1_takeBack_4 (by decide) (fun c4 => ?_) (fun c4 => ?_)
  · replace h := h.1 c4
    exact v_vret o rfl hr dX1_takeBack_29 h
  · replace h := h.2 c4
    refine v_aload_n o 0 dX1_takeBack_7 rfl ?_
    refine v_dup o dX1_takeBack_8 rfl ?_
    refine v_gfI o lkX1_26 (by decide) (wfHist_o ha) dX1_takeBack_9 ?_
    refine v_iconst o (v := 1) dX1_takeBack_12 (by decide) ?_
    refine v_isub o dX1_takeBack_13 ?_
    refine v_pf o lpX1_26 (wfHist_o ha) ⟨rfl, rfl⟩ dX1_takeBack_14 ?_
    refine v_nmf (fun g14 eg14 => ?_)
    replace h := h g14 eg14
    refine v_aload_n o 1 dX1_takeBack_17 rfl ?_
    refine v_aload_n o 0 dX1_takeBack_18 rfl ?_
    refine v_aload_n o 0 dX1_takeBack_19 rfl ?_
    refine v_gfI o lkX1_26 (by decide) (wfHist_o ha) dX1_takeBack_20 ?_
    refine v_cVr o [.int (g14 a 3)] [.ref b1] (fun sz => metX1_at l G P g14 sz a ha (g14 a 3)) (cwX1_35 o.1.2.2.2.2 (by decide)) ⟨_, _, rfl⟩ (by decide) (wfHist_o ha) rfl (Nat.le_of_ble_eq_true rfl) ⟨Nat.zero_le _, Nat.zero_le _⟩ dX1_takeBack_23 rfl (fun r23 g23 h23 => ?_)
    obtain ⟨rfl, rfl⟩ := h23
    refine v_cVv o [.ref (atH a (g14 a 3))] [] (fun sz => metX0_copyFrom l G P g14 sz b1 hb1 (atH a (g14 a 3)) (is_atH ha (g14 a 3)) _ h) (cwX1_39 o.1.2.2.2.2 (by decide)) ⟨_, _, rfl⟩ (by decide) (wfBoard_o hb1) rfl (Nat.le_of_ble_eq_true rfl) ⟨Nat.zero_le _, Nat.zero_le _⟩ dX1_takeBack_26 rfl (fun g26 h => ?_)
    exact v_vret o rfl hr dX1_takeBack_29 h
abbrev kX1_takeBack := @vX1_takeBack
abbrev metX1_takeBack := @mX1_takeBack

def vX2_word (P : Sk) (f : St) (a : Nat) (K : Nat → St → Prop) : Prop :=
  K (a + 1) f
set_option maxRecDepth 20000 in
set_option maxHeartbeats 4000000 in
theorem mX2_word (l : Launch) (G : Gl) (P : Sk) (f : St) (sz : Nat) (a : Nat) (ha : IsLoaf P a) (K : Nat → St → Prop) (h : vX2_word P f a K)  :
  Met l yX2_word (wU yX2_word cX2_word 1 (some (.object "StrandLoaves$Word"))) rmX2_word (PcW G P f sz [.ref a]) (QcR G P sz K) 0 0 (frA P sz) := by
  refine v_met (own := RX2) [.ref a] (by decide +kernel) rfl (Nat.le_of_ble_eq_true rfl) (fun p e s m args below meth c hsz o hr hnm => ?_)
  refine v_lv (lv2 := [(0, .ref a)]) rfl ?_
  unfold vX2_word at h
  refine v_aload_n o 0 dX2_word_0 rfl ?_
  refine v_gfR o lkX2_12 (by decide) (wfLoaf_o ha) (wfLoaf_r0 ha) dX2_word_1 ?_
  exact v_aret o rfl hr (Or.inl ⟨_, rfl⟩) dX2_word_4 h
theorem metX2_word (l : Launch) (G : Gl) (P : Sk) (f : St) (sz : Nat) (a : Nat) (ha : IsLoaf P a) : Met l yX2_word (wU yX2_word cX2_word 1 (some (.object "StrandLoaves$Word"))) rmX2_word (PcW G P f sz [.ref a]) (QcR G P sz (fun r g => r = (a + 1) ∧ f = g)) 0 0 (frA P sz) := sorry

def vX2_looseWord (P : Sk) (f : St) (a : Nat) (K : Nat → St → Prop) : Prop :=
  K (a + 4) f
set_option maxRecDepth 20000 in
set_option maxHeartbeats 4000000 in
theorem mX2_looseWord (l : Launch) (G : Gl) (P : Sk) (f : St) (sz : Nat) (a : Nat) (ha : IsLoaf P a) (K : Nat → St → Prop) (h : vX2_looseWord P f a K)  :
  Met l yX2_looseWord (wU yX2_looseWord cX2_looseWord 1 (some (.object "StrandLoaves$Word"))) rmX2_looseWord (PcW G P f sz [.ref a]) (QcR G P sz K) 0 0 (frA P sz) := by
  refine v_met (own := RX2) [.ref a] (by decide +kernel) rfl (Nat.le_of_ble_eq_true rfl) (fun p e s m args below meth c hsz o hr hnm => ?_)
  refine v_lv (lv2 := [(0, .ref a)]) rfl ?_
  unfold vX2_looseWord at h
  refine v_aload_n o 0 dX2_looseWord_0 rfl ?_
  refine v_gfR o lkX2_18 (by decide) (wfLoaf_o ha) (wfLoaf_r1 ha) dX2_looseWord_1 ?_
  exact v_aret o rfl hr (Or.inl ⟨_, rfl⟩) dX2_looseWord_4 h
theorem metX2_looseWord (l : Launch) (G : Gl) (P : Sk) (f : St) (sz : Nat) (a : Nat) (ha : IsLoaf P a) : Met l yX2_looseWord (wU yX2_looseWord cX2_looseWord 1 (some (.object "StrandLoaves$Word"))) rmX2_looseWord (PcW G P f sz [.ref a]) (QcR G P sz (fun r g => r = (a + 4) ∧ f = g)) 0 0 (frA P sz) := sorry

def vX2_trace (P : Sk) (f : St) (a : Nat) (K : Nat → St → Prop) : Prop :=
  K (a + 7) f
set_option maxRecDepth 20000 in
set_option maxHeartbeats 4000000 in
theorem mX2_trace (l : Launch) (G : Gl) (P : Sk) (f : St) (sz : Nat) (a : Nat) (ha : IsLoaf P a) (K : Nat → St → Prop) (h : vX2_trace P f a K)  :
  Met l yX2_trace (wU yX2_trace cX2_trace 1 (some (.object "StrandLoaves$Trace"))) rmX2_trace (PcW G P f sz [.ref a]) (QcR G P sz K) 0 0 (frA P sz) := by
  refine v_met (own := RX2) [.ref a] (by decide +kernel) rfl (Nat.le_of_ble_eq_true rfl) (fun p e s m args below meth c hsz o hr hnm => ?_)
  refine v_lv (lv2 := [(0, .ref a)]) rfl ?_
  unfold vX2_trace at h
  refine v_aload_n o 0 dX2_trace_0 rfl ?_
  refine v_gfR o lkX2_24 (by decide) (wfLoaf_o ha) (wfLoaf_r2 ha) dX2_trace_1 ?_
  exact v_aret o rfl hr (Or.inl ⟨_, rfl⟩) dX2_trace_4 h
theorem metX2_trace (l : Launch) (G : Gl) (P : Sk) (f : St) (sz : Nat) (a : Nat) (ha : IsLoaf P a) : Met l yX2_trace (wU yX2_trace cX2_trace 1 (some (.object "StrandLoaves$Trace"))) rmX2_trace (PcW G P f sz [.ref a]) (QcR G P sz (fun r g => r = (a + 7) ∧ f = g)) 0 0 (frA P sz) := sorry

def vX6_begin (P : Sk) (f : St) (a : Nat) (p1 : Int32) (K : St → Prop) : Prop :=
  ∀ g2 : St, g2 = setf f a 1 p1 → ∀ g7 : St, g7 = setf g2 a 2 0 → K g7
set_option maxRecDepth 20000 in
set_option maxHeartbeats 4000000 in
theorem mX6_begin (l : Launch) (G : Gl) (P : Sk) (f : St) (sz : Nat) (a : Nat) (ha : IsWord P a) (p1 : Int32) (K : St → Prop) (h : vX6_begin P f a p1 K)  :
  Met l yX6_begin (wU yX6_begin cX6_begin 2 none) rmX6_begin (PcW G P f sz [.ref a, .int p1]) (QcV G P sz K) 0 0 (frA P sz) := by
  refine v_met (own := RX6) [.ref a, .int p1] (by decide +kernel) rfl (Nat.le_of_ble_eq_true rfl) (fun p e s m args below meth c hsz o hr hnm => ?_)
  refine v_lv (lv2 := [(0, .ref a), (1, .int p1)]) rfl ?_
  unfold vX6_begin at h
  refine v_aload_n o 0 dX6_begin_0 rfl ?_
  refine v_iload_n o 1 dX6_begin_1 rfl ?_
  refine v_pf o lpX6_20 (wfWord_o ha) ⟨rfl, rfl⟩ dX6_begin_2 ?_
  refine v_nmf (fun g2 eg2 => ?_)
  replace h := h g2 eg2
  refine v_aload_n o 0 dX6_begin_5 rfl ?_
  refine v_iconst o (v := 0) dX6_begin_6 (by decide) ?_
  refine v_pf o lpX6_24 (wfWord_o ha) ⟨rfl, rfl⟩ dX6_begin_7 ?_
  refine v_nmf (fun g7 eg7 => ?_)
  replace h := h g7 eg7
  exact v_vret o rfl hr dX6_begin_10 h
abbrev kX6_begin := @vX6_begin
abbrev metX6_begin := @mX6_begin

def vX3_at (P : Sk) (f : St) (a : Nat) (p1 : Int32) (K : Int32 → St → Prop) : Prop :=
  (p1 < 0 → K 0 f) ∧ (¬ p1 < 0 → (nI (sN P (a + 1)) ≤ p1 → K 0 f) ∧ (¬ nI (sN P (a + 1)) ≤ p1 → vp_in p1 (sN P (a + 1)) ∧ (K (f (a + 1) p1.toNatClampNeg) f)))
set_option maxRecDepth 20000 in
set_option maxHeartbeats 4000000 in
theorem mX3_at (l : Launch) (G : Gl) (P : Sk) (f : St) (sz : Nat) (a : Nat) (ha : IsRow P a) (p1 : Int32) (K : Int32 → St → Prop) (h : vX3_at P f a p1 K)  :
  Met l yX3_at (wU yX3_at cX3_at 2 (some .int)) rmX3_at (PcW G P f sz [.ref a, .int p1]) (QcI G P sz K) 0 0 (frA P sz) := by
  refine v_met (own := RX3) [.ref a, .int p1] (by decide +kernel) rfl (Nat.le_of_ble_eq_true rfl) (fun p e s m args below meth c hsz o hr hnm => ?_)
  refine v_lv (lv2 := [(0, .ref a), (1, .int p1)]) rfl ?_
  unfold vX3_at at h
  refine v_iload_n o 1 dX3_at_0 rfl ?_
  refine v_if_lt o (tgt := 22) dX3_at_1 (by decide) (fun c1 => ?_) (fun c1 => ?_)
  · replace h := h.1 c1
    refine v_iconst o (v := 0) dX3_at_22 (by decide) ?_
    exact v_iret o rfl hr dX3_at_23 h
  · replace h := h.2 c1
    refine v_iload_n o 1 dX3_at_4 rfl ?_
    refine v_aload_n o 0 dX3_at_5 rfl ?_
    refine v_gfR o lkX3_7 (by decide) (wfRow_o ha) (wfRow_r0 ha) dX3_at_6 ?_
    refine v_alen9 o (wfRow_t0 ha) rfl dX3_at_9 ?_
    refine v_icmp_ge o (tgt := 22) dX3_at_10 (by decide) (fun c10 => ?_) (fun c10 => ?_)
    · replace h := h.1 c10
      refine v_iconst o (v := 0) dX3_at_22 (by decide) ?_
      exact v_iret o rfl hr dX3_at_23 h
    · replace h := h.2 c10
      refine v_aload_n o 0 dX3_at_13 rfl ?_
      refine v_gfR o lkX3_7 (by decide) (wfRow_o ha) (wfRow_r0 ha) dX3_at_14 ?_
      refine v_iload_n o 1 dX3_at_17 rfl ?_
      refine v_iald o (wfRow_t0 ha) rfl h.1 dX3_at_18 ?_
      replace h := h.2
      refine v_goto o (tgt := 23) dX3_at_19 (by decide) ?_
      exact v_iret o rfl hr dX3_at_23 h
abbrev kX3_at := @vX3_at
abbrev metX3_at := @mX3_at

def vX6_codeAt (P : Sk) (f : St) (a : Nat) (p1 : Int32) (K : Int32 → St → Prop) : Prop :=
  kX3_at P f (a + 1) p1 (fun r5 g5 => K r5 g5)
set_option maxRecDepth 20000 in
set_option maxHeartbeats 4000000 in
theorem mX6_codeAt (l : Launch) (G : Gl) (P : Sk) (f : St) (sz : Nat) (a : Nat) (ha : IsWord P a) (p1 : Int32) (K : Int32 → St → Prop) (h : vX6_codeAt P f a p1 K)  :
  Met l yX6_codeAt (wU yX6_codeAt cX6_codeAt 2 (some .int)) rmX6_codeAt (PcW G P f sz [.ref a, .int p1]) (QcI G P sz K) 0 0 (frA P sz) := by
  refine v_met (own := RX6) [.ref a, .int p1] (by decide +kernel) rfl (Nat.le_of_ble_eq_true rfl) (fun p e s m args below meth c hsz o hr hnm => ?_)
  refine v_lv (lv2 := [(0, .ref a), (1, .int p1)]) rfl ?_
  unfold vX6_codeAt at h
  refine v_aload_n o 0 dX6_codeAt_0 rfl ?_
  refine v_gfR o lkX6_14 (by decide) (wfWord_o ha) (wfWord_r0 ha) dX6_codeAt_1 ?_
  refine v_iload_n o 1 dX6_codeAt_4 rfl ?_
  refine v_cVi o [.int p1] [] (fun sz => metX3_at l G P f sz (a + 1) (wfWord_t0 ha) p1 _ h) (cwX6_27 o.1.2.2.2.2 (by decide)) ⟨_, _, rfl⟩ (by decide) (wfRow_o (wfWord_t0 ha)) rfl (Nat.le_of_ble_eq_true rfl) ⟨Nat.zero_le _, Nat.zero_le _⟩ dX6_codeAt_5 rfl (fun r5 g5 h => ?_)
  exact v_iret o rfl hr dX6_codeAt_8 h
abbrev kX6_codeAt := @vX6_codeAt
abbrev metX6_codeAt := @mX6_codeAt

def vX6_placeOf (P : Sk) (f : St) (p0 : Int32) (K : Int32 → St → Prop) : Prop :=
  K (p0 >>> (1 &&& 31)) f
set_option maxRecDepth 20000 in
set_option maxHeartbeats 4000000 in
theorem mX6_placeOf (l : Launch) (G : Gl) (P : Sk) (f : St) (sz : Nat) (p0 : Int32) (K : Int32 → St → Prop) (h : vX6_placeOf P f p0 K)  :
  Met l yX6_placeOf (wU yX6_placeOf cX6_placeOf 1 (some .int)) rmX6_placeOf (PcW G P f sz [.int p0]) (QcI G P sz K) 0 0 (frA P sz) := by
  refine v_met (own := RX6) [.int p0] (by decide +kernel) rfl (Nat.le_of_ble_eq_true rfl) (fun p e s m args below meth c hsz o hr hnm => ?_)
  refine v_lv (lv2 := [(0, .int p0)]) rfl ?_
  unfold vX6_placeOf at h
  refine v_iload_n o 0 dX6_placeOf_0 rfl ?_
  refine v_iconst o (v := 1) dX6_placeOf_1 (by decide) ?_
  refine v_ishr o dX6_placeOf_2 ?_
  exact v_iret o rfl hr dX6_placeOf_3 h
abbrev kX6_placeOf := @vX6_placeOf
abbrev metX6_placeOf := @mX6_placeOf

def bX6_looseIndexOf_12 (P : Sk) (a : Nat) (p1 : Int32) (L12 : St → Int32 → Int32 → Prop) (K : Int32 → St → Prop) (f : St) (x2 : Int32) (x3 : Int32) : Prop :=
  (x3 < 0 → K x2 f) ∧ (¬ x3 < 0 → kX3_at P f (a + 1) x3 (fun r21 g21 => kX6_placeOf P g21 r21 (fun r24 g24 => kX6_placeOf P g24 p1 (fun r28 g28 => (r24 - r28 < 2 → K x2 g28) ∧ (¬ r24 - r28 < 2 → ∀ x3_38 : Int32, x3_38 = x3 + (-1) → L12 g28 x3 x3_38)))))
def vX6_looseIndexOf (P : Sk) (f : St) (a : Nat) (p1 : Int32) (L12 : St → Int32 → Int32 → Prop) (K : Int32 → St → Prop) : Prop :=
  ∀ x2_4 : Int32, x2_4 = f a 2 → ∀ x3_11 : Int32, x3_11 = (f a 2) - 1 → L12 f x2_4 x3_11
set_option maxRecDepth 20000 in
set_option maxHeartbeats 4000000 in
theorem mX6_looseIndexOf (l : Launch) (G : Gl) (P : Sk) (f : St) (sz : Nat) (a : Nat) (ha : IsWord P a) (p1 : Int32) (K : Int32 → St → Prop) (I12 : St → Int32 → Int32 → Prop) (μ12 : St → Int32 → Int32 → Nat) 
  (h : vX6_looseIndexOf P f a p1 I12 K)
  (h12 : ∀ (g : St) (x2 : Int32) (x3 : Int32) , I12 g x2 x3 → bX6_looseIndexOf_12 P a p1 (fun g' z0 z1 => I12 g' z0 z1 ∧ μ12 g' z0 z1 < μ12 g x2 x3) K g x2 x3) :
  Met l yX6_looseIndexOf (wU yX6_looseIndexOf cX6_looseIndexOf 4 (some .int)) rmX6_looseIndexOf (PcW G P f sz [.ref a, .int p1]) (QcI G P sz K) 0 0 (frA P sz) := by
  refine v_met (own := RX6) [.ref a, .int p1] (by decide +kernel) rfl (Nat.le_of_ble_eq_true rfl) (fun p e s m args below meth c hsz o hr hnm => ?_)
  refine v_lv (lv2 := [(0, .ref a), (1, .int p1)]) rfl ?_
  have main : ∀ n : Nat, (∀ (g : St) (x2 : Int32) (x3 : Int32) , I12 g x2 x3 → μ12 g x2 x3 < n → V p l e rmX6_looseIndexOf s m args below meth c 4 G (frA P sz) (MQ below (QcI G P sz K) args s 0 0 (frA P sz)) 0 0 P [(0, .ref a), (1, .int p1), (2, .int x2), (3, .int x3)] [] 12 g) := by
    intro n
    induction n with
    | zero => exact fun g x2 x3 hI hm => absurd hm (Nat.not_lt_zero _)
    | succ n ih =>
      intro g x2 x3 hI hm
      have h := h12 g x2 x3 hI
      clear hI
      unfold bX6_looseIndexOf_12 at h
      refine v_iload_n o 3 dX6_looseIndexOf_12 rfl ?_
      refine v_if_lt o (tgt := 44) dX6_looseIndexOf_13 (by decide) (fun c13 => ?_) (fun c13 => ?_)
      · replace h := h.1 c13
        refine v_iload_n o 2 dX6_looseIndexOf_44 rfl ?_
        exact v_iret o rfl hr dX6_looseIndexOf_45 h
      · replace h := h.2 c13
        refine v_aload_n o 0 dX6_looseIndexOf_16 rfl ?_
        refine v_gfR o lkX6_14 (by decide) (wfWord_o ha) (wfWord_r0 ha) dX6_looseIndexOf_17 ?_
        refine v_iload_n o 3 dX6_looseIndexOf_20 rfl ?_
        refine v_cVi o [.int x3] [] (fun sz => metX3_at l G P g sz (a + 1) (wfWord_t0 ha) x3 _ h) (cwX6_27 o.1.2.2.2.2 (by decide)) ⟨_, _, rfl⟩ (by decide) (wfRow_o (wfWord_t0 ha)) rfl (Nat.le_of_ble_eq_true rfl) ⟨Nat.zero_le _, Nat.zero_le _⟩ dX6_looseIndexOf_21 rfl (fun r21 g21 h => ?_)
        refine v_cSi o [.int r21] [] (fun sz => metX6_placeOf l G P g21 sz r21 _ h) (cwX6_65 o.1.2.2.2.2 (by decide)) rfl (Nat.le_of_ble_eq_true rfl) ⟨Nat.zero_le _, Nat.zero_le _⟩ dX6_looseIndexOf_24 rfl (fun r24 g24 h => ?_)
        refine v_iload_n o 1 dX6_looseIndexOf_27 rfl ?_
        refine v_cSi o [.int p1] [.int r24] (fun sz => metX6_placeOf l G P g24 sz p1 _ h) (cwX6_65 o.1.2.2.2.2 (by decide)) rfl (Nat.le_of_ble_eq_true rfl) ⟨Nat.zero_le _, Nat.zero_le _⟩ dX6_looseIndexOf_28 rfl (fun r28 g28 h => ?_)
        refine v_isub o dX6_looseIndexOf_31 ?_
        refine v_iconst o (v := 2) dX6_looseIndexOf_32 (by decide) ?_
        refine v_icmp_lt o (tgt := 44) dX6_looseIndexOf_33 (by decide) (fun c33 => ?_) (fun c33 => ?_)
        · replace h := h.1 c33
          refine v_iload_n o 2 dX6_looseIndexOf_44 rfl ?_
          exact v_iret o rfl hr dX6_looseIndexOf_45 h
        · replace h := h.2 c33
          refine v_iload_n o 3 dX6_looseIndexOf_36 rfl ?_
          refine v_istore_n o (lv' := [(2, .int x3), (0, .ref a), (1, .int p1), (3, .int x3)]) dX6_looseIndexOf_37 rfl (by decide) rfl ?_
          obtain ⟨x3_38, ex3_38⟩ : ∃ y : Int32, y = x3 + (-1) := ⟨_, rfl⟩
          replace h := h x3_38 ex3_38
          refine v_iinc o (v := x3_38) (lv' := [(3, .int x3_38), (2, .int x3), (0, .ref a), (1, .int p1)]) 3 dX6_looseIndexOf_38 rfl (by rw [ex3_38]; rfl) (by decide) rfl ?_
          refine v_goto o (tgt := 12) dX6_looseIndexOf_41 (by decide) ?_
          refine v_sub [2, 3, 1, 0] (lv2 := [(0, .ref a), (1, .int p1), (2, .int x3), (3, .int x3_38)]) rfl ?_
          exact ih g28 x3 x3_38  h.1 (by have := h.2; omega)
  unfold vX6_looseIndexOf at h
  refine v_aload_n o 0 dX6_looseIndexOf_0 rfl ?_
  refine v_gfI o lkX6_24 (by decide) (wfWord_o ha) dX6_looseIndexOf_1 ?_
  refine v_topi (fun x2_4 ex2_4 => ?_)
  replace h := h x2_4 ex2_4
  refine v_istore_n o (lv' := [(2, .int x2_4), (0, .ref a), (1, .int p1)]) dX6_looseIndexOf_4 rfl (by decide) rfl ?_
  refine v_aload_n o 1 dX6_looseIndexOf_5 rfl ?_
  refine v_gfI o lkX6_24 (by decide) (wfWord_o ha) dX6_looseIndexOf_6 ?_
  refine v_iconst o (v := 1) dX6_looseIndexOf_9 (by decide) ?_
  refine v_isub o dX6_looseIndexOf_10 ?_
  refine v_topi (fun x3_11 ex3_11 => ?_)
  replace h := h x3_11 ex3_11
  refine v_istore_n o (lv' := [(3, .int x3_11), (2, .int x2_4), (0, .ref a), (1, .int p1)]) dX6_looseIndexOf_11 rfl (by decide) rfl ?_
  refine v_sub [2, 3, 1, 0] (lv2 := [(0, .ref a), (1, .int p1), (2, .int x2_4), (3, .int x3_11)]) rfl ?_
  exact (main (μ12 f x2_4 x3_11 + 1)) f x2_4 x3_11  h (Nat.lt_succ_self _)
def kX6_looseIndexOf (P : Sk) (f : St) (a : Nat) (p1 : Int32) (K : Int32 → St → Prop) : Prop := False
theorem metX6_looseIndexOf (l : Launch) (G : Gl) (P : Sk) (f : St) (sz : Nat) (a : Nat) (ha : IsWord P a) (p1 : Int32) (K : Int32 → St → Prop) (h : kX6_looseIndexOf P f a p1 K) : Met l yX6_looseIndexOf (wU yX6_looseIndexOf cX6_looseIndexOf 4 (some .int)) rmX6_looseIndexOf (PcW G P f sz [.ref a, .int p1]) (QcI G P sz K) 0 0 (frA P sz) := sorry

def vX6_flipped (P : Sk) (f : St) (p0 : Int32) (K : Int32 → St → Prop) : Prop :=
  K (p0 ^^^ 1) f
set_option maxRecDepth 20000 in
set_option maxHeartbeats 4000000 in
theorem mX6_flipped (l : Launch) (G : Gl) (P : Sk) (f : St) (sz : Nat) (p0 : Int32) (K : Int32 → St → Prop) (h : vX6_flipped P f p0 K)  :
  Met l yX6_flipped (wU yX6_flipped cX6_flipped 1 (some .int)) rmX6_flipped (PcW G P f sz [.int p0]) (QcI G P sz K) 0 0 (frA P sz) := by
  refine v_met (own := RX6) [.int p0] (by decide +kernel) rfl (Nat.le_of_ble_eq_true rfl) (fun p e s m args below meth c hsz o hr hnm => ?_)
  refine v_lv (lv2 := [(0, .int p0)]) rfl ?_
  unfold vX6_flipped at h
  refine v_iload_n o 0 dX6_flipped_0 rfl ?_
  refine v_iconst o (v := 1) dX6_flipped_1 (by decide) ?_
  refine v_ixor o dX6_flipped_2 ?_
  exact v_iret o rfl hr dX6_flipped_3 h
abbrev kX6_flipped := @vX6_flipped
abbrev metX6_flipped := @mX6_flipped

def vX3_put (P : Sk) (f : St) (a : Nat) (p1 : Int32) (p2 : Int32) (K : St → Prop) : Prop :=
  (p1 < 0 → K f) ∧ (¬ p1 < 0 → (nI (sN P (a + 1)) ≤ p1 → K f) ∧ (¬ nI (sN P (a + 1)) ≤ p1 → vp_in p1 (sN P (a + 1)) ∧ (∀ g19 : St, g19 = setf f (a + 1) p1.toNatClampNeg p2 → K g19)))
set_option maxRecDepth 20000 in
set_option maxHeartbeats 4000000 in
theorem mX3_put (l : Launch) (G : Gl) (P : Sk) (f : St) (sz : Nat) (a : Nat) (ha : IsRow P a) (p1 : Int32) (p2 : Int32) (K : St → Prop) (h : vX3_put P f a p1 p2 K)  :
  Met l yX3_put (wU yX3_put cX3_put 3 none) rmX3_put (PcW G P f sz [.ref a, .int p1, .int p2]) (QcV G P sz K) 0 0 (frA P sz) := by
  refine v_met (own := RX3) [.ref a, .int p1, .int p2] (by decide +kernel) rfl (Nat.le_of_ble_eq_true rfl) (fun p e s m args below meth c hsz o hr hnm => ?_)
  refine v_lv (lv2 := [(0, .ref a), (1, .int p1), (2, .int p2)]) rfl ?_
  unfold vX3_put at h
  refine v_iload_n o 1 dX3_put_0 rfl ?_
  refine v_if_lt o (tgt := 20) dX3_put_1 (by decide) (fun c1 => ?_) (fun c1 => ?_)
  · replace h := h.1 c1
    exact v_vret o rfl hr dX3_put_20 h
  · replace h := h.2 c1
    refine v_iload_n o 1 dX3_put_4 rfl ?_
    refine v_aload_n o 0 dX3_put_5 rfl ?_
    refine v_gfR o lkX3_7 (by decide) (wfRow_o ha) (wfRow_r0 ha) dX3_put_6 ?_
    refine v_alen9 o (wfRow_t0 ha) rfl dX3_put_9 ?_
    refine v_icmp_ge o (tgt := 20) dX3_put_10 (by decide) (fun c10 => ?_) (fun c10 => ?_)
    · replace h := h.1 c10
      exact v_vret o rfl hr dX3_put_20 h
    · replace h := h.2 c10
      refine v_aload_n o 0 dX3_put_13 rfl ?_
      refine v_gfR o lkX3_7 (by decide) (wfRow_o ha) (wfRow_r0 ha) dX3_put_14 ?_
      refine v_iload_n o 1 dX3_put_17 rfl ?_
      refine v_iload_n o 2 dX3_put_18 rfl ?_
      refine v_iast o (wfRow_t0 ha) rfl h.1 dX3_put_19 ?_
      replace h := h.2
      refine v_nmf (fun g19 eg19 => ?_)
      replace h := h g19 eg19
      exact v_vret o rfl hr dX3_put_20 h
abbrev kX3_put := @vX3_put
abbrev metX3_put := @mX3_put

def bX6_removeAt_15 (P : Sk) (a : Nat) (p1 : Int32) (L15 : St → Int32 → Prop) (K : St → Prop) (f : St) (x2 : Int32) : Prop :=
  ((f a 2) - 1 ≤ x2 → ∀ g56 : St, g56 = setf f a 2 ((f a 2) - 1) → K g56) ∧ (¬ (f a 2) - 1 ≤ x2 → kX3_at P f (a + 1) (x2 + 1) (fun r37 g37 => kX3_put P g37 (a + 1) x2 r37 (fun g40 => ∀ x2_43 : Int32, x2_43 = x2 + 1 → L15 g40 x2_43)))
def vX6_removeAt (P : Sk) (f : St) (a : Nat) (p1 : Int32) (L15 : St → Int32 → Prop) (K : St → Prop) : Prop :=
  (p1 < 0 → K f) ∧ (¬ p1 < 0 → (p1 < f a 2 → L15 f p1) ∧ (¬ p1 < f a 2 → K f))
set_option maxRecDepth 20000 in
set_option maxHeartbeats 4000000 in
theorem mX6_removeAt (l : Launch) (G : Gl) (P : Sk) (f : St) (sz : Nat) (a : Nat) (ha : IsWord P a) (p1 : Int32) (K : St → Prop) (I15 : St → Int32 → Prop) (μ15 : St → Int32 → Nat) 
  (h : vX6_removeAt P f a p1 I15 K)
  (h15 : ∀ (g : St) (x2 : Int32) , I15 g x2 → bX6_removeAt_15 P a p1 (fun g' z0 => I15 g' z0 ∧ μ15 g' z0 < μ15 g x2) K g x2) :
  Met l yX6_removeAt (wU yX6_removeAt cX6_removeAt 3 none) rmX6_removeAt (PcW G P f sz [.ref a, .int p1]) (QcV G P sz K) 0 0 (frA P sz) := by
  refine v_met (own := RX6) [.ref a, .int p1] (by decide +kernel) rfl (Nat.le_of_ble_eq_true rfl) (fun p e s m args below meth c hsz o hr hnm => ?_)
  refine v_lv (lv2 := [(0, .ref a), (1, .int p1)]) rfl ?_
  have main : ∀ n : Nat, (∀ (g : St) (x2 : Int32) , I15 g x2 → μ15 g x2 < n → V p l e rmX6_removeAt s m args below meth c 3 G (frA P sz) (MQ below (QcV G P sz K) args s 0 0 (frA P sz)) 0 0 P [(0, .ref a), (1, .int p1), (2, .int x2)] [] 15 g) := by
    intro n
    induction n with
    | zero => exact fun g x2 hI hm => absurd hm (Nat.not_lt_zero _)
    | succ n ih =>
      intro g x2 hI hm
      have h := h15 g x2 hI
      clear hI
      unfold bX6_removeAt_15 at h
      refine v_iload_n o 2 dX6_removeAt_15 rfl ?_
      refine v_aload_n o 0 dX6_removeAt_16 rfl ?_
      refine v_gfI o lkX6_24 (by decide) (wfWord_o ha) dX6_removeAt_17 ?_
      refine v_iconst o (v := 1) dX6_removeAt_20 (by decide) ?_
      refine v_isub o dX6_removeAt_21 ?_
      refine v_icmp_ge o (tgt := 49) dX6_removeAt_22 (by decide) (fun c22 => ?_) (fun c22 => ?_)
      · replace h := h.1 c22
        refine v_aload_n o 0 dX6_removeAt_49 rfl ?_
        refine v_dup o dX6_removeAt_50 rfl ?_
        refine v_gfI o lkX6_24 (by decide) (wfWord_o ha) dX6_removeAt_51 ?_
        refine v_iconst o (v := 1) dX6_removeAt_54 (by decide) ?_
        refine v_isub o dX6_removeAt_55 ?_
        refine v_pf o lpX6_24 (wfWord_o ha) ⟨rfl, rfl⟩ dX6_removeAt_56 ?_
        refine v_nmf (fun g56 eg56 => ?_)
        replace h := h g56 eg56
        exact v_vret o rfl hr dX6_removeAt_59 h
      · replace h := h.2 c22
        refine v_aload_n o 0 dX6_removeAt_25 rfl ?_
        refine v_gfR o lkX6_14 (by decide) (wfWord_o ha) (wfWord_r0 ha) dX6_removeAt_26 ?_
        refine v_iload_n o 2 dX6_removeAt_29 rfl ?_
        refine v_aload_n o 0 dX6_removeAt_30 rfl ?_
        refine v_gfR o lkX6_14 (by decide) (wfWord_o ha) (wfWord_r0 ha) dX6_removeAt_31 ?_
        refine v_iload_n o 2 dX6_removeAt_34 rfl ?_
        refine v_iconst o (v := 1) dX6_removeAt_35 (by decide) ?_
        refine v_iadd o dX6_removeAt_36 ?_
        refine v_cVi o [.int (x2 + 1)] [.int x2, .ref (a + 1)] (fun sz => metX3_at l G P g sz (a + 1) (wfWord_t0 ha) (x2 + 1) _ h) (cwX6_27 o.1.2.2.2.2 (by decide)) ⟨_, _, rfl⟩ (by decide) (wfRow_o (wfWord_t0 ha)) rfl (Nat.le_of_ble_eq_true rfl) ⟨Nat.zero_le _, Nat.zero_le _⟩ dX6_removeAt_37 rfl (fun r37 g37 h => ?_)
        refine v_cVv o [.int x2, .int r37] [] (fun sz => metX3_put l G P g37 sz (a + 1) (wfWord_t0 ha) x2 r37 _ h) (cwX6_41 o.1.2.2.2.2 (by decide)) ⟨_, _, rfl⟩ (by decide) (wfRow_o (wfWord_t0 ha)) rfl (Nat.le_of_ble_eq_true rfl) ⟨Nat.zero_le _, Nat.zero_le _⟩ dX6_removeAt_40 rfl (fun g40 h => ?_)
        obtain ⟨x2_43, ex2_43⟩ : ∃ y : Int32, y = x2 + 1 := ⟨_, rfl⟩
        replace h := h x2_43 ex2_43
        refine v_iinc o (v := x2_43) (lv' := [(2, .int x2_43), (0, .ref a), (1, .int p1)]) 2 dX6_removeAt_43 rfl (by rw [ex2_43]; rfl) (by decide) rfl ?_
        refine v_goto o (tgt := 15) dX6_removeAt_46 (by decide) ?_
        refine v_sub [1, 2, 0] (lv2 := [(0, .ref a), (1, .int p1), (2, .int x2_43)]) rfl ?_
        exact ih g40 x2_43  h.1 (by have := h.2; omega)
  unfold vX6_removeAt at h
  refine v_iload_n o 1 dX6_removeAt_0 rfl ?_
  refine v_if_lt o (tgt := 12) dX6_removeAt_1 (by decide) (fun c1 => ?_) (fun c1 => ?_)
  · replace h := h.1 c1
    exact v_vret o rfl hr dX6_removeAt_12 h
  · replace h := h.2 c1
    refine v_iload_n o 1 dX6_removeAt_4 rfl ?_
    refine v_aload_n o 0 dX6_removeAt_5 rfl ?_
    refine v_gfI o lkX6_24 (by decide) (wfWord_o ha) dX6_removeAt_6 ?_
    refine v_icmp_lt o (tgt := 13) dX6_removeAt_9 (by decide) (fun c9 => ?_) (fun c9 => ?_)
    · replace h := h.1 c9
      refine v_iload_n o 1 dX6_removeAt_13 rfl ?_
      refine v_istore_n o (lv' := [(2, .int p1), (0, .ref a), (1, .int p1)]) dX6_removeAt_14 rfl (by decide) rfl ?_
      refine v_sub [1, 2, 0] (lv2 := [(0, .ref a), (1, .int p1), (2, .int p1)]) rfl ?_
      exact (main (μ15 f p1 + 1)) f p1  h (Nat.lt_succ_self _)
    · replace h := h.2 c9
      exact v_vret o rfl hr dX6_removeAt_12 h
def kX6_removeAt (P : Sk) (f : St) (a : Nat) (p1 : Int32) (K : St → Prop) : Prop := False
theorem metX6_removeAt (l : Launch) (G : Gl) (P : Sk) (f : St) (sz : Nat) (a : Nat) (ha : IsWord P a) (p1 : Int32) (K : St → Prop) (h : kX6_removeAt P f a p1 K) : Met l yX6_removeAt (wU yX6_removeAt cX6_removeAt 3 none) rmX6_removeAt (PcW G P f sz [.ref a, .int p1]) (QcV G P sz K) 0 0 (frA P sz) := sorry

def bX6_insertAt_27 (P : Sk) (a : Nat) (p1 : Int32) (p2 : Int32) (L27 : St → Int32 → Prop) (K : St → Prop) (f : St) (x3 : Int32) : Prop :=
  (x3 ≤ p1 → kX3_put P f (a + 1) p1 p2 (fun g62 => ∀ g72 : St, g72 = setf g62 a 2 ((g62 a 2) + 1) → K g72)) ∧ (¬ x3 ≤ p1 → kX3_at P f (a + 1) (x3 - 1) (fun r44 g44 => kX3_put P g44 (a + 1) x3 r44 (fun g47 => ∀ x3_50 : Int32, x3_50 = x3 + (-1) → L27 g47 x3_50)))
def vX6_insertAt (P : Sk) (f : St) (a : Nat) (p1 : Int32) (p2 : Int32) (L27 : St → Int32 → Prop) (K : St → Prop) : Prop :=
  (p1 < 0 → K f) ∧ (¬ p1 < 0 → (f a 2 < p1 → K f) ∧ (¬ f a 2 < p1 → (f a 2 < 24 → ∀ x3_26 : Int32, x3_26 = f a 2 → L27 f x3_26) ∧ (¬ f a 2 < 24 → K f)))
set_option maxRecDepth 20000 in
set_option maxHeartbeats 4000000 in
theorem mX6_insertAt (l : Launch) (G : Gl) (P : Sk) (f : St) (sz : Nat) (a : Nat) (ha : IsWord P a) (p1 : Int32) (p2 : Int32) (K : St → Prop) (I27 : St → Int32 → Prop) (μ27 : St → Int32 → Nat) 
  (h : vX6_insertAt P f a p1 p2 I27 K)
  (h27 : ∀ (g : St) (x3 : Int32) , I27 g x3 → bX6_insertAt_27 P a p1 p2 (fun g' z0 => I27 g' z0 ∧ μ27 g' z0 < μ27 g x3) K g x3) :
  Met l yX6_insertAt (wU yX6_insertAt cX6_insertAt 4 none) rmX6_insertAt (PcW G P f sz [.ref a, .int p1, .int p2]) (QcV G P sz K) 0 0 (frA P sz) := by
  refine v_met (own := RX6) [.ref a, .int p1, .int p2] (by decide +kernel) rfl (Nat.le_of_ble_eq_true rfl) (fun p e s m args below meth c hsz o hr hnm => ?_)
  refine v_lv (lv2 := [(0, .ref a), (1, .int p1), (2, .int p2)]) rfl ?_
  have main : ∀ n : Nat, (∀ (g : St) (x3 : Int32) , I27 g x3 → μ27 g x3 < n → V p l e rmX6_insertAt s m args below meth c 4 G (frA P sz) (MQ below (QcV G P sz K) args s 0 0 (frA P sz)) 0 0 P [(0, .ref a), (1, .int p1), (2, .int p2), (3, .int x3)] [] 27 g) := by
    intro n
    induction n with
    | zero => exact fun g x3 hI hm => absurd hm (Nat.not_lt_zero _)
    | succ n ih =>
      intro g x3 hI hm
      have h := h27 g x3 hI
      clear hI
      unfold bX6_insertAt_27 at h
      refine v_iload_n o 3 dX6_insertAt_27 rfl ?_
      refine v_iload_n o 1 dX6_insertAt_28 rfl ?_
      refine v_icmp_le o (tgt := 56) dX6_insertAt_29 (by decide) (fun c29 => ?_) (fun c29 => ?_)
      · replace h := h.1 c29
        refine v_aload_n o 0 dX6_insertAt_56 rfl ?_
        refine v_gfR o lkX6_14 (by decide) (wfWord_o ha) (wfWord_r0 ha) dX6_insertAt_57 ?_
        refine v_iload_n o 1 dX6_insertAt_60 rfl ?_
        refine v_iload_n o 2 dX6_insertAt_61 rfl ?_
        refine v_cVv o [.int p1, .int p2] [] (fun sz => metX3_put l G P g sz (a + 1) (wfWord_t0 ha) p1 p2 _ h) (cwX6_41 o.1.2.2.2.2 (by decide)) ⟨_, _, rfl⟩ (by decide) (wfRow_o (wfWord_t0 ha)) rfl (Nat.le_of_ble_eq_true rfl) ⟨Nat.zero_le _, Nat.zero_le _⟩ dX6_insertAt_62 rfl (fun g62 h => ?_)
        refine v_aload_n o 0 dX6_insertAt_65 rfl ?_
        refine v_dup o dX6_insertAt_66 rfl ?_
        refine v_gfI o lkX6_24 (by decide) (wfWord_o ha) dX6_insertAt_67 ?_
        refine v_iconst o (v := 1) dX6_insertAt_70 (by decide) ?_
        refine v_iadd o dX6_insertAt_71 ?_
        refine v_pf o lpX6_24 (wfWord_o ha) ⟨rfl, rfl⟩ dX6_insertAt_72 ?_
        refine v_nmf (fun g72 eg72 => ?_)
        replace h := h g72 eg72
        exact v_vret o rfl hr dX6_insertAt_75 h
      · replace h := h.2 c29
        refine v_aload_n o 0 dX6_insertAt_32 rfl ?_
        refine v_gfR o lkX6_14 (by decide) (wfWord_o ha) (wfWord_r0 ha) dX6_insertAt_33 ?_
        refine v_iload_n o 3 dX6_insertAt_36 rfl ?_
        refine v_aload_n o 0 dX6_insertAt_37 rfl ?_
        refine v_gfR o lkX6_14 (by decide) (wfWord_o ha) (wfWord_r0 ha) dX6_insertAt_38 ?_
        refine v_iload_n o 3 dX6_insertAt_41 rfl ?_
        refine v_iconst o (v := 1) dX6_insertAt_42 (by decide) ?_
        refine v_isub o dX6_insertAt_43 ?_
        refine v_cVi o [.int (x3 - 1)] [.int x3, .ref (a + 1)] (fun sz => metX3_at l G P g sz (a + 1) (wfWord_t0 ha) (x3 - 1) _ h) (cwX6_27 o.1.2.2.2.2 (by decide)) ⟨_, _, rfl⟩ (by decide) (wfRow_o (wfWord_t0 ha)) rfl (Nat.le_of_ble_eq_true rfl) ⟨Nat.zero_le _, Nat.zero_le _⟩ dX6_insertAt_44 rfl (fun r44 g44 h => ?_)
        refine v_cVv o [.int x3, .int r44] [] (fun sz => metX3_put l G P g44 sz (a + 1) (wfWord_t0 ha) x3 r44 _ h) (cwX6_41 o.1.2.2.2.2 (by decide)) ⟨_, _, rfl⟩ (by decide) (wfRow_o (wfWord_t0 ha)) rfl (Nat.le_of_ble_eq_true rfl) ⟨Nat.zero_le _, Nat.zero_le _⟩ dX6_insertAt_47 rfl (fun g47 h => ?_)
        obtain ⟨x3_50, ex3_50⟩ : ∃ y : Int32, y = x3 + (-1) := ⟨_, rfl⟩
        replace h := h x3_50 ex3_50
        refine v_iinc o (v := x3_50) (lv' := [(3, .int x3_50), (0, .ref a), (1, .int p1), (2, .int p2)]) 3 dX6_insertAt_50 rfl (by rw [ex3_50]; rfl) (by decide) rfl ?_
        refine v_goto o (tgt := 27) dX6_insertAt_53 (by decide) ?_
        refine v_sub [1, 2, 3, 0] (lv2 := [(0, .ref a), (1, .int p1), (2, .int p2), (3, .int x3_50)]) rfl ?_
        exact ih g47 x3_50  h.1 (by have := h.2; omega)
  unfold vX6_insertAt at h
  refine v_iload_n o 1 dX6_insertAt_0 rfl ?_
  refine v_if_lt o (tgt := 21) dX6_insertAt_1 (by decide) (fun c1 => ?_) (fun c1 => ?_)
  · replace h := h.1 c1
    exact v_vret o rfl hr dX6_insertAt_21 h
  · replace h := h.2 c1
    refine v_iload_n o 1 dX6_insertAt_4 rfl ?_
    refine v_aload_n o 0 dX6_insertAt_5 rfl ?_
    refine v_gfI o lkX6_24 (by decide) (wfWord_o ha) dX6_insertAt_6 ?_
    refine v_icmp_gt o (tgt := 21) dX6_insertAt_9 (by decide) (fun c9 => ?_) (fun c9 => ?_)
    · replace h := h.1 c9
      exact v_vret o rfl hr dX6_insertAt_21 h
    · replace h := h.2 c9
      refine v_aload_n o 0 dX6_insertAt_12 rfl ?_
      refine v_gfI o lkX6_24 (by decide) (wfWord_o ha) dX6_insertAt_13 ?_
      refine v_bipush o (v := 24) dX6_insertAt_16 (by decide) ?_
      refine v_icmp_lt o (tgt := 22) dX6_insertAt_18 (by decide) (fun c18 => ?_) (fun c18 => ?_)
      · replace h := h.1 c18
        refine v_aload_n o 0 dX6_insertAt_22 rfl ?_
        refine v_gfI o lkX6_24 (by decide) (wfWord_o ha) dX6_insertAt_23 ?_
        refine v_topi (fun x3_26 ex3_26 => ?_)
        replace h := h x3_26 ex3_26
        refine v_istore_n o (lv' := [(3, .int x3_26), (0, .ref a), (1, .int p1), (2, .int p2)]) dX6_insertAt_26 rfl (by decide) rfl ?_
        refine v_sub [1, 2, 3, 0] (lv2 := [(0, .ref a), (1, .int p1), (2, .int p2), (3, .int x3_26)]) rfl ?_
        exact (main (μ27 f x3_26 + 1)) f x3_26  h (Nat.lt_succ_self _)
      · replace h := h.2 c18
        exact v_vret o rfl hr dX6_insertAt_21 h
def kX6_insertAt (P : Sk) (f : St) (a : Nat) (p1 : Int32) (p2 : Int32) (K : St → Prop) : Prop := False
theorem metX6_insertAt (l : Launch) (G : Gl) (P : Sk) (f : St) (sz : Nat) (a : Nat) (ha : IsWord P a) (p1 : Int32) (p2 : Int32) (K : St → Prop) (h : kX6_insertAt P f a p1 p2 K) : Met l yX6_insertAt (wU yX6_insertAt cX6_insertAt 4 none) rmX6_insertAt (PcW G P f sz [.ref a, .int p1, .int p2]) (QcV G P sz K) 0 0 (frA P sz) := sorry

def jX6_makeLoose_69 (P : Sk) (a : Nat) (b1 : Nat) (L10 : St → Int32 → Prop) (K : St → Prop) (x2 : Int32) (x3 : Int32) (x4 : Int32) (f : St) : Prop :=
  ∀ x2_69 : Int32, x2_69 = x2 + 1 → L10 f x2_69
def jX6_makeLoose_62 (P : Sk) (a : Nat) (b1 : Nat) (L10 : St → Int32 → Prop) (K : St → Prop) (x2 : Int32) (x3 : Int32) (x4 : Int32) (f : St) : Prop :=
  kX6_insertAt P f a x4 x3 (fun g66 => jX6_makeLoose_69 P a b1 L10 K x2 x3 x4 g66)
def bX6_makeLoose_10 (P : Sk) (a : Nat) (b1 : Nat) (L10 : St → Int32 → Prop) (K : St → Prop) (f : St) (x2 : Int32) : Prop :=
  (f b1 2 ≤ x2 → K f) ∧ (¬ f b1 2 ≤ x2 → kX6_codeAt P f b1 x2 (fun r20 g20 => kX6_looseIndexOf P g20 a r20 (fun r26 g26 => (r26 ≤ 0 → jX6_makeLoose_62 P a b1 L10 K x2 r20 r26 g26) ∧ (¬ r26 ≤ 0 → kX6_codeAt P g26 a (r26 - 1) (fun r41 g41 => kX6_flipped P g41 r20 (fun r45 g45 => (¬ r41 = r45 → jX6_makeLoose_62 P a b1 L10 K x2 r20 r26 g45) ∧ (r41 = r45 → kX6_removeAt P g45 a (r26 - 1) (fun g56 => jX6_makeLoose_69 P a b1 L10 K x2 r20 r26 g56))))))))
def vX6_makeLoose (P : Sk) (f : St) (a : Nat) (b1 : Nat) (L10 : St → Int32 → Prop) (K : St → Prop) : Prop :=
  kX6_begin P f a (f b1 1) (fun g5 => L10 g5 0)
set_option maxRecDepth 20000 in
set_option maxHeartbeats 4000000 in
theorem mX6_makeLoose (l : Launch) (G : Gl) (P : Sk) (f : St) (sz : Nat) (a : Nat) (ha : IsWord P a) (b1 : Nat) (hb1 : IsWord P b1) (K : St → Prop) (I10 : St → Int32 → Prop) (μ10 : St → Int32 → Nat) 
  (h : vX6_makeLoose P f a b1 I10 K)
  (h10 : ∀ (g : St) (x2 : Int32) , I10 g x2 → bX6_makeLoose_10 P a b1 (fun g' z0 => I10 g' z0 ∧ μ10 g' z0 < μ10 g x2) K g x2) :
  Met l yX6_makeLoose (wU yX6_makeLoose cX6_makeLoose 5 none) rmX6_makeLoose (PcW G P f sz [.ref a, .ref b1]) (QcV G P sz K) 0 0 (frA P sz) := by
  refine v_met (own := RX6) [.ref a, .ref b1] (by decide +kernel) rfl (Nat.le_of_ble_eq_true rfl) (fun p e s m args below meth c hsz o hr hnm => ?_)
  refine v_lv (lv2 := [(0, .ref a), (1, .ref b1)]) rfl ?_
  have main : ∀ n : Nat, (∀ (g : St) (x2 : Int32) , I10 g x2 → μ10 g x2 < n → V p l e rmX6_makeLoose s m args below meth c 5 G (frA P sz) (MQ below (QcV G P sz K) args s 0 0 (frA P sz)) 0 0 P [(0, .ref a), (1, .ref b1), (2, .int x2)] [] 10 g) := by
    intro n
    induction n with
    | zero => exact fun g x2 hI hm => absurd hm (Nat.not_lt_zero _)
    | succ n ih =>
      intro g x2 hI hm
      have h := h10 g x2 hI
      clear hI
      have J69 : ∀ (x2_69 : Int32) (x3_69 : Int32) (x4_69 : Int32) (g69 : St), jX6_makeLoose_69 P a b1 (fun g' z0 => I10 g' z0 ∧ μ10 g' z0 < μ10 g x2) K x2_69 x3_69 x4_69 g69 → V p l e rmX6_makeLoose s m args below meth c 5 G (frA P sz) (MQ below (QcV G P sz K) args s 0 0 (frA P sz)) 0 0 P [(0, .ref a), (1, .ref b1), (2, .int x2_69), (3, .int x3_69), (4, .int x4_69)] [] 69 g69 := by
        intro x2_69 x3_69 x4_69 g69  h
        unfold jX6_makeLoose_69 at h
        obtain ⟨x2_69, ex2_69⟩ : ∃ y : Int32, y = x2_69 + 1 := ⟨_, rfl⟩
        replace h := h x2_69 ex2_69
        refine v_iinc o (v := x2_69) (lv' := [(2, .int x2_69), (0, .ref a), (1, .ref b1), (3, .int x3_69), (4, .int x4_69)]) 2 dX6_makeLoose_69 rfl (by rw [ex2_69]; rfl) (by decide) rfl ?_
        refine v_goto o (tgt := 10) dX6_makeLoose_72 (by decide) ?_
        refine v_sub [1, 2, 0] (lv2 := [(0, .ref a), (1, .ref b1), (2, .int x2_69)]) rfl ?_
        exact ih g69 x2_69  h.1 (by have := h.2; omega)
      have J62 : ∀ (x2_62 : Int32) (x3_62 : Int32) (x4_62 : Int32) (g62 : St), jX6_makeLoose_62 P a b1 (fun g' z0 => I10 g' z0 ∧ μ10 g' z0 < μ10 g x2) K x2_62 x3_62 x4_62 g62 → V p l e rmX6_makeLoose s m args below meth c 5 G (frA P sz) (MQ below (QcV G P sz K) args s 0 0 (frA P sz)) 0 0 P [(0, .ref a), (1, .ref b1), (2, .int x2_62), (3, .int x3_62), (4, .int x4_62)] [] 62 g62 := by
        intro x2_62 x3_62 x4_62 g62  h
        unfold jX6_makeLoose_62 at h
        refine v_aload_n o 0 dX6_makeLoose_62 rfl ?_
        refine v_iload o 4 dX6_makeLoose_63 rfl ?_
        refine v_iload_n o 3 dX6_makeLoose_65 rfl ?_
        refine v_cVv o [.int x4_62, .int x3_62] [] (fun sz => metX6_insertAt l G P g62 sz a ha x4_62 x3_62 _ h) (cwX6_31 o.1.2.2.2.2 (by decide)) ⟨_, _, rfl⟩ (by decide) (wfWord_o ha) rfl (Nat.le_of_ble_eq_true rfl) ⟨Nat.zero_le _, Nat.zero_le _⟩ dX6_makeLoose_66 rfl (fun g66 h => ?_)
        refine v_sub [0, 1, 2, 3, 4] (lv2 := [(0, .ref a), (1, .ref b1), (2, .int x2_62), (3, .int x3_62), (4, .int x4_62)]) rfl ?_
        exact J69 x2_62 x3_62 x4_62 g66  h
      unfold bX6_makeLoose_10 at h
      refine v_iload_n o 2 dX6_makeLoose_10 rfl ?_
      refine v_aload_n o 1 dX6_makeLoose_11 rfl ?_
      refine v_gfI o lkX6_24 (by decide) (wfWord_o hb1) dX6_makeLoose_12 ?_
      refine v_icmp_ge o (tgt := 75) dX6_makeLoose_15 (by decide) (fun c15 => ?_) (fun c15 => ?_)
      · replace h := h.1 c15
        exact v_vret o rfl hr dX6_makeLoose_75 h
      · replace h := h.2 c15
        refine v_aload_n o 1 dX6_makeLoose_18 rfl ?_
        refine v_iload_n o 2 dX6_makeLoose_19 rfl ?_
        refine v_cVi o [.int x2] [] (fun sz => metX6_codeAt l G P g sz b1 hb1 x2 _ h) (cwX6_35 o.1.2.2.2.2 (by decide)) ⟨_, _, rfl⟩ (by decide) (wfWord_o hb1) rfl (Nat.le_of_ble_eq_true rfl) ⟨Nat.zero_le _, Nat.zero_le _⟩ dX6_makeLoose_20 rfl (fun r20 g20 h => ?_)
        refine v_istore_n o (lv' := [(3, .int r20), (0, .ref a), (1, .ref b1), (2, .int x2)]) dX6_makeLoose_23 rfl (by decide) rfl ?_
        refine v_aload_n o 1 dX6_makeLoose_24 rfl ?_
        refine v_iload_n o 0 dX6_makeLoose_25 rfl ?_
        refine v_cVi o [.int r20] [] (fun sz => metX6_looseIndexOf l G P g20 sz a ha r20 _ h) (cwX6_72 o.1.2.2.2.2 (by decide)) ⟨_, _, rfl⟩ (by decide) (wfWord_o ha) rfl (Nat.le_of_ble_eq_true rfl) ⟨Nat.zero_le _, Nat.zero_le _⟩ dX6_makeLoose_26 rfl (fun r26 g26 h => ?_)
        refine v_istore o (lv' := [(4, .int r26), (3, .int r20), (0, .ref a), (1, .ref b1), (2, .int x2)]) dX6_makeLoose_29 (by decide) rfl ?_
        refine v_iload o 0 dX6_makeLoose_31 rfl ?_
        refine v_if_le o (tgt := 62) dX6_makeLoose_33 (by decide) (fun c33 => ?_) (fun c33 => ?_)
        · replace h := h.1 c33
          refine v_sub [2, 3, 4, 1, 0] (lv2 := [(0, .ref a), (1, .ref b1), (2, .int x2), (3, .int r20), (4, .int r26)]) rfl ?_
          exact J62 x2 r20 r26 g26  h
        · replace h := h.2 c33
          refine v_aload_n o 2 dX6_makeLoose_36 rfl ?_
          refine v_iload o 0 dX6_makeLoose_37 rfl ?_
          refine v_iconst o (v := 1) dX6_makeLoose_39 (by decide) ?_
          refine v_isub o dX6_makeLoose_40 ?_
          refine v_cVi o [.int (r26 - 1)] [] (fun sz => metX6_codeAt l G P g26 sz a ha (r26 - 1) _ h) (cwX6_35 o.1.2.2.2.2 (by decide)) ⟨_, _, rfl⟩ (by decide) (wfWord_o ha) rfl (Nat.le_of_ble_eq_true rfl) ⟨Nat.zero_le _, Nat.zero_le _⟩ dX6_makeLoose_41 rfl (fun r41 g41 h => ?_)
          refine v_iload_n o 1 dX6_makeLoose_44 rfl ?_
          refine v_cSi o [.int r20] [.int r41] (fun sz => metX6_flipped l G P g41 sz r20 _ h) (cwX6_59 o.1.2.2.2.2 (by decide)) rfl (Nat.le_of_ble_eq_true rfl) ⟨Nat.zero_le _, Nat.zero_le _⟩ dX6_makeLoose_45 rfl (fun r45 g45 h => ?_)
          refine v_icmp_ne o (tgt := 62) dX6_makeLoose_48 (by decide) (fun c48 => ?_) (fun c48 => ?_)
          · replace h := h.1 c48
            refine v_sub [2, 3, 4, 1, 0] (lv2 := [(0, .ref a), (1, .ref b1), (2, .int x2), (3, .int r20), (4, .int r26)]) rfl ?_
            exact J62 x2 r20 r26 g45  h
          · replace h := h.2 c48
            refine v_aload_n o 2 dX6_makeLoose_51 rfl ?_
            refine v_iload o 0 dX6_makeLoose_52 rfl ?_
            refine v_iconst o (v := 1) dX6_makeLoose_54 (by decide) ?_
            refine v_isub o dX6_makeLoose_55 ?_
            refine v_cVv o [.int (r26 - 1)] [] (fun sz => metX6_removeAt l G P g45 sz a ha (r26 - 1) _ h) (cwX6_75 o.1.2.2.2.2 (by decide)) ⟨_, _, rfl⟩ (by decide) (wfWord_o ha) rfl (Nat.le_of_ble_eq_true rfl) ⟨Nat.zero_le _, Nat.zero_le _⟩ dX6_makeLoose_56 rfl (fun g56 h => ?_)
            refine v_goto o (tgt := 69) dX6_makeLoose_59 (by decide) ?_
            refine v_sub [2, 3, 4, 1, 0] (lv2 := [(0, .ref a), (1, .ref b1), (2, .int x2), (3, .int r20), (4, .int r26)]) rfl ?_
            exact J69 x2 r20 r26 g56  h
  unfold vX6_makeLoose at h
  refine v_aload_n o 0 dX6_makeLoose_0 rfl ?_
  refine v_aload_n o 1 dX6_makeLoose_1 rfl ?_
  refine v_gfI o lkX6_20 (by decide) (wfWord_o hb1) dX6_makeLoose_2 ?_
  refine v_cVv o [.int (f b1 1)] [] (fun sz => metX6_begin l G P f sz a ha (f b1 1) _ h) (cwX6_56 o.1.2.2.2.2 (by decide)) ⟨_, _, rfl⟩ (by decide) (wfWord_o ha) rfl (Nat.le_of_ble_eq_true rfl) ⟨Nat.zero_le _, Nat.zero_le _⟩ dX6_makeLoose_5 rfl (fun g5 h => ?_)
  refine v_iconst o (v := 0) dX6_makeLoose_8 (by decide) ?_
  refine v_istore_n o (lv' := [(2, .int 0), (0, .ref a), (1, .ref b1)]) dX6_makeLoose_9 rfl (by decide) rfl ?_
  refine v_sub [1, 2, 0] (lv2 := [(0, .ref a), (1, .ref b1), (2, .int 0)]) rfl ?_
  exact (main (μ10 g5 0 + 1)) g5 0  h (Nat.lt_succ_self _)
def kX6_makeLoose (P : Sk) (f : St) (a : Nat) (b1 : Nat) (K : St → Prop) : Prop := False
theorem metX6_makeLoose (l : Launch) (G : Gl) (P : Sk) (f : St) (sz : Nat) (a : Nat) (ha : IsWord P a) (b1 : Nat) (hb1 : IsWord P b1) (K : St → Prop) (h : kX6_makeLoose P f a b1 K) : Met l yX6_makeLoose (wU yX6_makeLoose cX6_makeLoose 5 none) rmX6_makeLoose (PcW G P f sz [.ref a, .ref b1]) (QcV G P sz K) 0 0 (frA P sz) := sorry

def vX6_strands (P : Sk) (f : St) (a : Nat) (K : Int32 → St → Prop) : Prop :=
  K (f a 1) f
set_option maxRecDepth 20000 in
set_option maxHeartbeats 4000000 in
theorem mX6_strands (l : Launch) (G : Gl) (P : Sk) (f : St) (sz : Nat) (a : Nat) (ha : IsWord P a) (K : Int32 → St → Prop) (h : vX6_strands P f a K)  :
  Met l yX6_strands (wU yX6_strands cX6_strands 1 (some .int)) rmX6_strands (PcW G P f sz [.ref a]) (QcI G P sz K) 0 0 (frA P sz) := by
  refine v_met (own := RX6) [.ref a] (by decide +kernel) rfl (Nat.le_of_ble_eq_true rfl) (fun p e s m args below meth c hsz o hr hnm => ?_)
  refine v_lv (lv2 := [(0, .ref a)]) rfl ?_
  unfold vX6_strands at h
  refine v_aload_n o 0 dX6_strands_0 rfl ?_
  refine v_gfI o lkX6_20 (by decide) (wfWord_o ha) dX6_strands_1 ?_
  exact v_iret o rfl hr dX6_strands_4 h
abbrev kX6_strands := @vX6_strands
abbrev metX6_strands := @mX6_strands

def vX6_size (P : Sk) (f : St) (a : Nat) (K : Int32 → St → Prop) : Prop :=
  K (f a 2) f
set_option maxRecDepth 20000 in
set_option maxHeartbeats 4000000 in
theorem mX6_size (l : Launch) (G : Gl) (P : Sk) (f : St) (sz : Nat) (a : Nat) (ha : IsWord P a) (K : Int32 → St → Prop) (h : vX6_size P f a K)  :
  Met l yX6_size (wU yX6_size cX6_size 1 (some .int)) rmX6_size (PcW G P f sz [.ref a]) (QcI G P sz K) 0 0 (frA P sz) := by
  refine v_met (own := RX6) [.ref a] (by decide +kernel) rfl (Nat.le_of_ble_eq_true rfl) (fun p e s m args below meth c hsz o hr hnm => ?_)
  refine v_lv (lv2 := [(0, .ref a)]) rfl ?_
  unfold vX6_size at h
  refine v_aload_n o 0 dX6_size_0 rfl ?_
  refine v_gfI o lkX6_24 (by decide) (wfWord_o ha) dX6_size_1 ?_
  exact v_iret o rfl hr dX6_size_4 h
abbrev kX6_size := @vX6_size
abbrev metX6_size := @mX6_size

def vX6_isRight (P : Sk) (f : St) (p0 : Int32) (K : Int32 → St → Prop) : Prop :=
  (¬ p0 &&& 1 = 1 → K 0 f) ∧ (p0 &&& 1 = 1 → K 1 f)
set_option maxRecDepth 20000 in
set_option maxHeartbeats 4000000 in
theorem mX6_isRight (l : Launch) (G : Gl) (P : Sk) (f : St) (sz : Nat) (p0 : Int32) (K : Int32 → St → Prop) (h : vX6_isRight P f p0 K)  :
  Met l yX6_isRight (wU yX6_isRight cX6_isRight 1 (some .boolean)) rmX6_isRight (PcW G P f sz [.int p0]) (QcI G P sz K) 0 0 (frA P sz) := by
  refine v_met (own := RX6) [.int p0] (by decide +kernel) rfl (Nat.le_of_ble_eq_true rfl) (fun p e s m args below meth c hsz o hr hnm => ?_)
  refine v_lv (lv2 := [(0, .int p0)]) rfl ?_
  unfold vX6_isRight at h
  refine v_iload_n o 0 dX6_isRight_0 rfl ?_
  refine v_iconst o (v := 1) dX6_isRight_1 (by decide) ?_
  refine v_iand o dX6_isRight_2 ?_
  refine v_iconst o (v := 1) dX6_isRight_3 (by decide) ?_
  refine v_icmp_ne o (tgt := 11) dX6_isRight_4 (by decide) (fun c4 => ?_) (fun c4 => ?_)
  · replace h := h.1 c4
    refine v_iconst o (v := 0) dX6_isRight_11 (by decide) ?_
    exact v_zret o rfl hr bz0.1 dX6_isRight_12 h
  · replace h := h.2 c4
    refine v_iconst o (v := 1) dX6_isRight_7 (by decide) ?_
    refine v_goto o (tgt := 12) dX6_isRight_8 (by decide) ?_
    exact v_zret o rfl hr bz1.1 dX6_isRight_12 h
abbrev kX6_isRight := @vX6_isRight
abbrev metX6_isRight := @mX6_isRight

def jX5_pass_57 (P : Sk) (a : Nat) (p1 : Int32) (p2 : Int32) (K : St → Prop) (x3 : Int32) (x4 : Int32) (x5 : Int32) (x6 : Int32) (y0 : Int32) (f : St) : Prop :=
  kX3_put P f (a + 3) p1 x6 (fun g66 => kX3_at P g66 (a + 11) x6 (fun r81 g81 => kX3_put P g81 (a + 11) x6 (r81 + 1) (fun g86 => kX3_put P g86 (a + 1) p1 y0 (fun g96 => kX3_at P g96 (a + 9) y0 (fun r111 g111 => kX3_put P g111 (a + 9) y0 (r111 + 1) (fun g116 => kX3_put P g116 (a + 5) x3 x5 (fun g126 => kX3_put P g126 (a + 5) (x3 + 1) x4 (fun g138 => K g138))))))))
def jX5_pass_41 (P : Sk) (a : Nat) (p1 : Int32) (p2 : Int32) (K : St → Prop) (x3 : Int32) (x4 : Int32) (x5 : Int32) (y0 : Int32) (f : St) : Prop :=
  kX6_isRight P f p2 (fun r44 g44 => (r44 = 0 → jX5_pass_57 P a p1 p2 K x3 x4 x5 y0 x4 g44) ∧ (¬ r44 = 0 → jX5_pass_57 P a p1 p2 K x3 x4 x5 y0 x5 g44))
def vX5_pass (P : Sk) (f : St) (a : Nat) (p1 : Int32) (p2 : Int32) (K : St → Prop) : Prop :=
  kX6_placeOf P f p2 (fun r1 g1 => kX3_at P g1 (a + 5) r1 (fun r10 g10 => kX3_at P g10 (a + 5) (r1 + 1) (fun r22 g22 => kX6_isRight P g22 p2 (fun r28 g28 => (r28 = 0 → jX5_pass_41 P a p1 p2 K r1 r10 r22 r22 g28) ∧ (¬ r28 = 0 → jX5_pass_41 P a p1 p2 K r1 r10 r22 r10 g28)))))
set_option maxRecDepth 20000 in
set_option maxHeartbeats 4000000 in
theorem mX5_pass (l : Launch) (G : Gl) (P : Sk) (f : St) (sz : Nat) (a : Nat) (ha : IsTrace P a) (p1 : Int32) (p2 : Int32) (K : St → Prop) (h : vX5_pass P f a p1 p2 K)  :
  Met l yX5_pass (wU yX5_pass cX5_pass 8 none) rmX5_pass (PcW G P f sz [.ref a, .int p1, .int p2]) (QcV G P sz K) 0 0 (frA P sz) := by
  refine v_met (own := RX5) [.ref a, .int p1, .int p2] (by decide +kernel) rfl (Nat.le_of_ble_eq_true rfl) (fun p e s m args below meth c hsz o hr hnm => ?_)
  refine v_lv (lv2 := [(0, .ref a), (1, .int p1), (2, .int p2)]) rfl ?_
  have J57 : ∀ (x3_57 : Int32) (x4_57 : Int32) (x5_57 : Int32) (x6_57 : Int32) (y0_57 : Int32) (g57 : St), jX5_pass_57 P a p1 p2 K x3_57 x4_57 x5_57 x6_57 y0_57 g57 → V p l e rmX5_pass s m args below meth c 8 G (frA P sz) (MQ below (QcV G P sz K) args s 0 0 (frA P sz)) 0 0 P [(0, .ref a), (1, .int p1), (2, .int p2), (3, .int x3_57), (4, .int x4_57), (5, .int x5_57), (6, .int x6_57)] [.int y0_57] 57 g57 := by
    intro x3_57 x4_57 x5_57 x6_57 y0_57 g57  h
    unfold jX5_pass_57 at h
    refine v_istore o (lv' := [(7, .int y0_57), (0, .ref a), (1, .int p1), (2, .int p2), (3, .int x3_57), (4, .int x4_57), (5, .int x5_57), (6, .int x6_57)]) dX5_pass_57 (by decide) rfl ?_
    refine v_aload_n o 1 dX5_pass_59 rfl ?_
    refine v_gfR o lkX5_20 (by decide) (wfTrace_o ha) (wfTrace_r1 ha) dX5_pass_60 ?_
    refine v_iload_n o 2 dX5_pass_63 rfl ?_
    refine v_iload o 7 dX5_pass_64 rfl ?_
    refine v_cVv o [.int p1, .int x6_57] [] (fun sz => metX3_put l G P g57 sz (a + 3) (wfTrace_t1 ha) p1 x6_57 _ h) (cwX5_47 o.1.2.2.2.2 (by decide)) ⟨_, _, rfl⟩ (by decide) (wfRow_o (wfTrace_t1 ha)) rfl (Nat.le_of_ble_eq_true rfl) ⟨Nat.zero_le _, Nat.zero_le _⟩ dX5_pass_66 rfl (fun g66 h => ?_)
    refine v_aload_n o 1 dX5_pass_69 rfl ?_
    refine v_gfR o lkX5_32 (by decide) (wfTrace_o ha) (wfTrace_r5 ha) dX5_pass_70 ?_
    refine v_iload o 7 dX5_pass_73 rfl ?_
    refine v_aload_n o 1 dX5_pass_75 rfl ?_
    refine v_gfR o lkX5_32 (by decide) (wfTrace_o ha) (wfTrace_r5 ha) dX5_pass_76 ?_
    refine v_iload o 7 dX5_pass_79 rfl ?_
    refine v_cVi o [.int x6_57] [.int x6_57, .ref (a + 11)] (fun sz => metX3_at l G P g66 sz (a + 11) (wfTrace_t5 ha) x6_57 _ h) (cwX5_61 o.1.2.2.2.2 (by decide)) ⟨_, _, rfl⟩ (by decide) (wfRow_o (wfTrace_t5 ha)) rfl (Nat.le_of_ble_eq_true rfl) ⟨Nat.zero_le _, Nat.zero_le _⟩ dX5_pass_81 rfl (fun r81 g81 h => ?_)
    refine v_iconst o (v := 1) dX5_pass_84 (by decide) ?_
    refine v_iadd o dX5_pass_85 ?_
    refine v_cVv o [.int x6_57, .int (r81 + 1)] [] (fun sz => metX3_put l G P g81 sz (a + 11) (wfTrace_t5 ha) x6_57 (r81 + 1) _ h) (cwX5_47 o.1.2.2.2.2 (by decide)) ⟨_, _, rfl⟩ (by decide) (wfRow_o (wfTrace_t5 ha)) rfl (Nat.le_of_ble_eq_true rfl) ⟨Nat.zero_le _, Nat.zero_le _⟩ dX5_pass_86 rfl (fun g86 h => ?_)
    refine v_aload_n o 1 dX5_pass_89 rfl ?_
    refine v_gfR o lkX5_14 (by decide) (wfTrace_o ha) (wfTrace_r0 ha) dX5_pass_90 ?_
    refine v_iload_n o 2 dX5_pass_93 rfl ?_
    refine v_iload o 0 dX5_pass_94 rfl ?_
    refine v_cVv o [.int p1, .int y0_57] [] (fun sz => metX3_put l G P g86 sz (a + 1) (wfTrace_t0 ha) p1 y0_57 _ h) (cwX5_47 o.1.2.2.2.2 (by decide)) ⟨_, _, rfl⟩ (by decide) (wfRow_o (wfTrace_t0 ha)) rfl (Nat.le_of_ble_eq_true rfl) ⟨Nat.zero_le _, Nat.zero_le _⟩ dX5_pass_96 rfl (fun g96 h => ?_)
    refine v_aload_n o 1 dX5_pass_99 rfl ?_
    refine v_gfR o lkX5_29 (by decide) (wfTrace_o ha) (wfTrace_r4 ha) dX5_pass_100 ?_
    refine v_iload o 0 dX5_pass_103 rfl ?_
    refine v_aload_n o 1 dX5_pass_105 rfl ?_
    refine v_gfR o lkX5_29 (by decide) (wfTrace_o ha) (wfTrace_r4 ha) dX5_pass_106 ?_
    refine v_iload o 0 dX5_pass_109 rfl ?_
    refine v_cVi o [.int y0_57] [.int y0_57, .ref (a + 9)] (fun sz => metX3_at l G P g96 sz (a + 9) (wfTrace_t4 ha) y0_57 _ h) (cwX5_61 o.1.2.2.2.2 (by decide)) ⟨_, _, rfl⟩ (by decide) (wfRow_o (wfTrace_t4 ha)) rfl (Nat.le_of_ble_eq_true rfl) ⟨Nat.zero_le _, Nat.zero_le _⟩ dX5_pass_111 rfl (fun r111 g111 h => ?_)
    refine v_iconst o (v := 1) dX5_pass_114 (by decide) ?_
    refine v_iadd o dX5_pass_115 ?_
    refine v_cVv o [.int y0_57, .int (r111 + 1)] [] (fun sz => metX3_put l G P g111 sz (a + 9) (wfTrace_t4 ha) y0_57 (r111 + 1) _ h) (cwX5_47 o.1.2.2.2.2 (by decide)) ⟨_, _, rfl⟩ (by decide) (wfRow_o (wfTrace_t4 ha)) rfl (Nat.le_of_ble_eq_true rfl) ⟨Nat.zero_le _, Nat.zero_le _⟩ dX5_pass_116 rfl (fun g116 h => ?_)
    refine v_aload_n o 1 dX5_pass_119 rfl ?_
    refine v_gfR o lkX5_23 (by decide) (wfTrace_o ha) (wfTrace_r2 ha) dX5_pass_120 ?_
    refine v_iload_n o 4 dX5_pass_123 rfl ?_
    refine v_iload o 6 dX5_pass_124 rfl ?_
    refine v_cVv o [.int x3_57, .int x5_57] [] (fun sz => metX3_put l G P g116 sz (a + 5) (wfTrace_t2 ha) x3_57 x5_57 _ h) (cwX5_47 o.1.2.2.2.2 (by decide)) ⟨_, _, rfl⟩ (by decide) (wfRow_o (wfTrace_t2 ha)) rfl (Nat.le_of_ble_eq_true rfl) ⟨Nat.zero_le _, Nat.zero_le _⟩ dX5_pass_126 rfl (fun g126 h => ?_)
    refine v_aload_n o 1 dX5_pass_129 rfl ?_
    refine v_gfR o lkX5_23 (by decide) (wfTrace_o ha) (wfTrace_r2 ha) dX5_pass_130 ?_
    refine v_iload_n o 4 dX5_pass_133 rfl ?_
    refine v_iconst o (v := 1) dX5_pass_134 (by decide) ?_
    refine v_iadd o dX5_pass_135 ?_
    refine v_iload o 5 dX5_pass_136 rfl ?_
    refine v_cVv o [.int (x3_57 + 1), .int x4_57] [] (fun sz => metX3_put l G P g126 sz (a + 5) (wfTrace_t2 ha) (x3_57 + 1) x4_57 _ h) (cwX5_47 o.1.2.2.2.2 (by decide)) ⟨_, _, rfl⟩ (by decide) (wfRow_o (wfTrace_t2 ha)) rfl (Nat.le_of_ble_eq_true rfl) ⟨Nat.zero_le _, Nat.zero_le _⟩ dX5_pass_138 rfl (fun g138 h => ?_)
    exact v_vret o rfl hr dX5_pass_141 h
  have J41 : ∀ (x3_41 : Int32) (x4_41 : Int32) (x5_41 : Int32) (y0_41 : Int32) (g41 : St), jX5_pass_41 P a p1 p2 K x3_41 x4_41 x5_41 y0_41 g41 → V p l e rmX5_pass s m args below meth c 8 G (frA P sz) (MQ below (QcV G P sz K) args s 0 0 (frA P sz)) 0 0 P [(0, .ref a), (1, .int p1), (2, .int p2), (3, .int x3_41), (4, .int x4_41), (5, .int x5_41)] [.int y0_41] 41 g41 := by
    intro x3_41 x4_41 x5_41 y0_41 g41  h
    unfold jX5_pass_41 at h
    refine v_istore o (lv' := [(6, .int y0_41), (0, .ref a), (1, .int p1), (2, .int p2), (3, .int x3_41), (4, .int x4_41), (5, .int x5_41)]) dX5_pass_41 (by decide) rfl ?_
    refine v_iload_n o 3 dX5_pass_43 rfl ?_
    refine v_cSi o [.int p2] [] (fun sz => metX6_isRight l G P g41 sz p2 _ h) (cwX5_67 o.1.2.2.2.2 (by decide)) rfl (Nat.le_of_ble_eq_true rfl) ⟨Nat.zero_le _, Nat.zero_le _⟩ dX5_pass_44 rfl (fun r44 g44 h => ?_)
    refine v_if_eq o (tgt := 55) dX5_pass_47 (by decide) (fun c47 => ?_) (fun c47 => ?_)
    · replace h := h.1 c47
      refine v_iload o 5 dX5_pass_55 rfl ?_
      refine v_sub [1, 2, 3, 4, 5, 6, 0] (lv2 := [(0, .ref a), (1, .int p1), (2, .int p2), (3, .int x3_41), (4, .int x4_41), (5, .int x5_41), (6, .int y0_41)]) rfl ?_
      exact J57 x3_41 x4_41 x5_41 y0_41 x4_41 g44  h
    · replace h := h.2 c47
      refine v_iload o 6 dX5_pass_50 rfl ?_
      refine v_goto o (tgt := 57) dX5_pass_52 (by decide) ?_
      refine v_sub [1, 2, 3, 4, 5, 6, 0] (lv2 := [(0, .ref a), (1, .int p1), (2, .int p2), (3, .int x3_41), (4, .int x4_41), (5, .int x5_41), (6, .int y0_41)]) rfl ?_
      exact J57 x3_41 x4_41 x5_41 y0_41 x5_41 g44  h
  unfold vX5_pass at h
  refine v_iload_n o 2 dX5_pass_0 rfl ?_
  refine v_cSi o [.int p2] [] (fun sz => metX6_placeOf l G P f sz p2 _ h) (cwX5_64 o.1.2.2.2.2 (by decide)) rfl (Nat.le_of_ble_eq_true rfl) ⟨Nat.zero_le _, Nat.zero_le _⟩ dX5_pass_1 rfl (fun r1 g1 h => ?_)
  refine v_istore_n o (lv' := [(3, .int r1), (0, .ref a), (1, .int p1), (2, .int p2)]) dX5_pass_4 rfl (by decide) rfl ?_
  refine v_aload_n o 1 dX5_pass_5 rfl ?_
  refine v_gfR o lkX5_23 (by decide) (wfTrace_o ha) (wfTrace_r2 ha) dX5_pass_6 ?_
  refine v_iload_n o 0 dX5_pass_9 rfl ?_
  refine v_cVi o [.int r1] [] (fun sz => metX3_at l G P g1 sz (a + 5) (wfTrace_t2 ha) r1 _ h) (cwX5_61 o.1.2.2.2.2 (by decide)) ⟨_, _, rfl⟩ (by decide) (wfRow_o (wfTrace_t2 ha)) rfl (Nat.le_of_ble_eq_true rfl) ⟨Nat.zero_le _, Nat.zero_le _⟩ dX5_pass_10 rfl (fun r10 g10 h => ?_)
  refine v_istore o (lv' := [(4, .int r10), (3, .int r1), (0, .ref a), (1, .int p1), (2, .int p2)]) dX5_pass_13 (by decide) rfl ?_
  refine v_aload_n o 2 dX5_pass_15 rfl ?_
  refine v_gfR o lkX5_23 (by decide) (wfTrace_o ha) (wfTrace_r2 ha) dX5_pass_16 ?_
  refine v_iload_n o 1 dX5_pass_19 rfl ?_
  refine v_iconst o (v := 1) dX5_pass_20 (by decide) ?_
  refine v_iadd o dX5_pass_21 ?_
  refine v_cVi o [.int (r1 + 1)] [] (fun sz => metX3_at l G P g10 sz (a + 5) (wfTrace_t2 ha) (r1 + 1) _ h) (cwX5_61 o.1.2.2.2.2 (by decide)) ⟨_, _, rfl⟩ (by decide) (wfRow_o (wfTrace_t2 ha)) rfl (Nat.le_of_ble_eq_true rfl) ⟨Nat.zero_le _, Nat.zero_le _⟩ dX5_pass_22 rfl (fun r22 g22 h => ?_)
  refine v_istore o (lv' := [(5, .int r22), (4, .int r10), (3, .int r1), (0, .ref a), (1, .int p1), (2, .int p2)]) dX5_pass_25 (by decide) rfl ?_
  refine v_iload_n o 5 dX5_pass_27 rfl ?_
  refine v_cSi o [.int p2] [] (fun sz => metX6_isRight l G P g22 sz p2 _ h) (cwX5_67 o.1.2.2.2.2 (by decide)) rfl (Nat.le_of_ble_eq_true rfl) ⟨Nat.zero_le _, Nat.zero_le _⟩ dX5_pass_28 rfl (fun r28 g28 h => ?_)
  refine v_if_eq o (tgt := 39) dX5_pass_31 (by decide) (fun c31 => ?_) (fun c31 => ?_)
  · replace h := h.1 c31
    refine v_iload o 0 dX5_pass_39 rfl ?_
    refine v_sub [3, 4, 5, 2, 1, 0] (lv2 := [(0, .ref a), (1, .int p1), (2, .int p2), (3, .int r1), (4, .int r10), (5, .int r22)]) rfl ?_
    exact J41 r1 r10 r22 r22 g28  h
  · replace h := h.2 c31
    refine v_iload o 1 dX5_pass_34 rfl ?_
    refine v_goto o (tgt := 41) dX5_pass_36 (by decide) ?_
    refine v_sub [3, 4, 5, 2, 1, 0] (lv2 := [(0, .ref a), (1, .int p1), (2, .int p2), (3, .int r1), (4, .int r10), (5, .int r22)]) rfl ?_
    exact J41 r1 r10 r22 r10 g28  h
abbrev kX5_pass := @vX5_pass
abbrev metX5_pass := @mX5_pass

def bX5_follow_10 (P : Sk) (a : Nat) (b1 : Nat) (L10 : St → Int32 → Prop) (L53 : St → Int32 → Prop) (L79 : St → Int32 → Prop) (K : St → Prop) (f : St) (x2 : Int32) : Prop :=
  (f a 7 ≤ x2 → L53 f 0) ∧ (¬ f a 7 ≤ x2 → kX3_put P f (a + 5) x2 x2 (fun g24 => kX3_put P g24 (a + 9) x2 0 (fun g33 => kX3_put P g33 (a + 11) x2 0 (fun g42 => ∀ x2_45 : Int32, x2_45 = x2 + 1 → L10 g42 x2_45))))
def bX5_follow_53 (P : Sk) (a : Nat) (b1 : Nat) (L10 : St → Int32 → Prop) (L53 : St → Int32 → Prop) (L79 : St → Int32 → Prop) (K : St → Prop) (f : St) (x2 : Int32) : Prop :=
  kX6_size P f b1 (fun r55 g55 => (r55 ≤ x2 → L79 g55 0) ∧ (¬ r55 ≤ x2 → kX6_codeAt P g55 b1 x2 (fun r65 g65 => kX5_pass P g65 a x2 r65 (fun g68 => ∀ x2_71 : Int32, x2_71 = x2 + 1 → L53 g68 x2_71))))
def bX5_follow_79 (P : Sk) (a : Nat) (b1 : Nat) (L10 : St → Int32 → Prop) (L53 : St → Int32 → Prop) (L79 : St → Int32 → Prop) (K : St → Prop) (f : St) (x2 : Int32) : Prop :=
  (f a 7 ≤ x2 → K f) ∧ (¬ f a 7 ≤ x2 → kX3_at P f (a + 5) x2 (fun r96 g96 => kX3_put P g96 (a + 7) r96 x2 (fun g100 => ∀ x2_103 : Int32, x2_103 = x2 + 1 → L79 g100 x2_103)))
def vX5_follow (P : Sk) (f : St) (a : Nat) (b1 : Nat) (L10 : St → Int32 → Prop) (L53 : St → Int32 → Prop) (L79 : St → Int32 → Prop) (K : St → Prop) : Prop :=
  kX6_strands P f b1 (fun r2 g2 => ∀ g5 : St, g5 = setf g2 a 7 r2 → L10 g5 0)
set_option maxRecDepth 20000 in
set_option maxHeartbeats 4000000 in
theorem mX5_follow (l : Launch) (G : Gl) (P : Sk) (f : St) (sz : Nat) (a : Nat) (ha : IsTrace P a) (b1 : Nat) (hb1 : IsWord P b1) (K : St → Prop) (I10 : St → Int32 → Prop) (μ10 : St → Int32 → Nat) (I53 : St → Int32 → Prop) (μ53 : St → Int32 → Nat) (I79 : St → Int32 → Prop) (μ79 : St → Int32 → Nat) 
  (h : vX5_follow P f a b1 I10 I53 I79 K)
  (h10 : ∀ (g : St) (x2 : Int32) , I10 g x2 → bX5_follow_10 P a b1 (fun g' z0 => I10 g' z0 ∧ μ10 g' z0 < μ10 g x2) (fun g' z0 => I53 g' z0 ∧ μ53 g' z0 < μ10 g x2) (fun g' z0 => I79 g' z0 ∧ μ79 g' z0 < μ10 g x2) K g x2)
  (h53 : ∀ (g : St) (x2 : Int32) , I53 g x2 → bX5_follow_53 P a b1 (fun g' z0 => I10 g' z0 ∧ μ10 g' z0 < μ53 g x2) (fun g' z0 => I53 g' z0 ∧ μ53 g' z0 < μ53 g x2) (fun g' z0 => I79 g' z0 ∧ μ79 g' z0 < μ53 g x2) K g x2)
  (h79 : ∀ (g : St) (x2 : Int32) , I79 g x2 → bX5_follow_79 P a b1 (fun g' z0 => I10 g' z0 ∧ μ10 g' z0 < μ79 g x2) (fun g' z0 => I53 g' z0 ∧ μ53 g' z0 < μ79 g x2) (fun g' z0 => I79 g' z0 ∧ μ79 g' z0 < μ79 g x2) K g x2) :
  Met l yX5_follow (wU yX5_follow cX5_follow 3 none) rmX5_follow (PcW G P f sz [.ref a, .ref b1]) (QcV G P sz K) 0 0 (frA P sz) := by
  refine v_met (own := RX5) [.ref a, .ref b1] (by decide +kernel) rfl (Nat.le_of_ble_eq_true rfl) (fun p e s m args below meth c hsz o hr hnm => ?_)
  refine v_lv (lv2 := [(0, .ref a), (1, .ref b1)]) rfl ?_
  have main : ∀ n : Nat, (∀ (g : St) (x2 : Int32) , I10 g x2 → μ10 g x2 < n → V p l e rmX5_follow s m args below meth c 3 G (frA P sz) (MQ below (QcV G P sz K) args s 0 0 (frA P sz)) 0 0 P [(0, .ref a), (1, .ref b1), (2, .int x2)] [] 10 g) ∧ (∀ (g : St) (x2 : Int32) , I53 g x2 → μ53 g x2 < n → V p l e rmX5_follow s m args below meth c 3 G (frA P sz) (MQ below (QcV G P sz K) args s 0 0 (frA P sz)) 0 0 P [(0, .ref a), (1, .ref b1), (2, .int x2)] [] 53 g) ∧ (∀ (g : St) (x2 : Int32) , I79 g x2 → μ79 g x2 < n → V p l e rmX5_follow s m args below meth c 3 G (frA P sz) (MQ below (QcV G P sz K) args s 0 0 (frA P sz)) 0 0 P [(0, .ref a), (1, .ref b1), (2, .int x2)] [] 79 g) := by
    intro n
    induction n with
    | zero => exact ⟨fun g x2 hI hm => absurd hm (Nat.not_lt_zero _), fun g x2 hI hm => absurd hm (Nat.not_lt_zero _), fun g x2 hI hm => absurd hm (Nat.not_lt_zero _)⟩
    | succ n ih =>
      refine ⟨?_, ?_, ?_⟩
      · intro g x2 hI hm
        have h := h10 g x2 hI
        clear hI
        unfold bX5_follow_10 at h
        refine v_iload_n o 2 dX5_follow_10 rfl ?_
        refine v_aload_n o 0 dX5_follow_11 rfl ?_
        refine v_gfI o lkX5_38 (by decide) (wfTrace_o ha) dX5_follow_12 ?_
        refine v_icmp_ge o (tgt := 51) dX5_follow_15 (by decide) (fun c15 => ?_) (fun c15 => ?_)
        · replace h := h.1 c15
          refine v_iconst o (v := 0) dX5_follow_51 (by decide) ?_
          refine v_istore_n o (lv' := [(2, .int 0), (0, .ref a), (1, .ref b1)]) dX5_follow_52 rfl (by decide) rfl ?_
          refine v_sub [1, 2, 0] (lv2 := [(0, .ref a), (1, .ref b1), (2, .int 0)]) rfl ?_
          exact ih.2.1 g 0  h.1 (by have := h.2; omega)
        · replace h := h.2 c15
          refine v_aload_n o 0 dX5_follow_18 rfl ?_
          refine v_gfR o lkX5_23 (by decide) (wfTrace_o ha) (wfTrace_r2 ha) dX5_follow_19 ?_
          refine v_iload_n o 2 dX5_follow_22 rfl ?_
          refine v_iload_n o 2 dX5_follow_23 rfl ?_
          refine v_cVv o [.int x2, .int x2] [] (fun sz => metX3_put l G P g sz (a + 5) (wfTrace_t2 ha) x2 x2 _ h) (cwX5_47 o.1.2.2.2.2 (by decide)) ⟨_, _, rfl⟩ (by decide) (wfRow_o (wfTrace_t2 ha)) rfl (Nat.le_of_ble_eq_true rfl) ⟨Nat.zero_le _, Nat.zero_le _⟩ dX5_follow_24 rfl (fun g24 h => ?_)
          refine v_aload_n o 0 dX5_follow_27 rfl ?_
          refine v_gfR o lkX5_29 (by decide) (wfTrace_o ha) (wfTrace_r4 ha) dX5_follow_28 ?_
          refine v_iload_n o 2 dX5_follow_31 rfl ?_
          refine v_iconst o (v := 0) dX5_follow_32 (by decide) ?_
          refine v_cVv o [.int x2, .int 0] [] (fun sz => metX3_put l G P g24 sz (a + 9) (wfTrace_t4 ha) x2 0 _ h) (cwX5_47 o.1.2.2.2.2 (by decide)) ⟨_, _, rfl⟩ (by decide) (wfRow_o (wfTrace_t4 ha)) rfl (Nat.le_of_ble_eq_true rfl) ⟨Nat.zero_le _, Nat.zero_le _⟩ dX5_follow_33 rfl (fun g33 h => ?_)
          refine v_aload_n o 0 dX5_follow_36 rfl ?_
          refine v_gfR o lkX5_32 (by decide) (wfTrace_o ha) (wfTrace_r5 ha) dX5_follow_37 ?_
          refine v_iload_n o 2 dX5_follow_40 rfl ?_
          refine v_iconst o (v := 0) dX5_follow_41 (by decide) ?_
          refine v_cVv o [.int x2, .int 0] [] (fun sz => metX3_put l G P g33 sz (a + 11) (wfTrace_t5 ha) x2 0 _ h) (cwX5_47 o.1.2.2.2.2 (by decide)) ⟨_, _, rfl⟩ (by decide) (wfRow_o (wfTrace_t5 ha)) rfl (Nat.le_of_ble_eq_true rfl) ⟨Nat.zero_le _, Nat.zero_le _⟩ dX5_follow_42 rfl (fun g42 h => ?_)
          obtain ⟨x2_45, ex2_45⟩ : ∃ y : Int32, y = x2 + 1 := ⟨_, rfl⟩
          replace h := h x2_45 ex2_45
          refine v_iinc o (v := x2_45) (lv' := [(2, .int x2_45), (0, .ref a), (1, .ref b1)]) 2 dX5_follow_45 rfl (by rw [ex2_45]; rfl) (by decide) rfl ?_
          refine v_goto o (tgt := 10) dX5_follow_48 (by decide) ?_
          refine v_sub [1, 2, 0] (lv2 := [(0, .ref a), (1, .ref b1), (2, .int x2_45)]) rfl ?_
          exact ih.1 g42 x2_45  h.1 (by have := h.2; omega)
      · intro g x2 hI hm
        have h := h53 g x2 hI
        clear hI
        unfold bX5_follow_53 at h
        refine v_iload_n o 2 dX5_follow_53 rfl ?_
        refine v_aload_n o 1 dX5_follow_54 rfl ?_
        refine v_cVi o [] [.int x2] (fun sz => metX6_size l G P g sz b1 hb1 _ h) (cwX5_51 o.1.2.2.2.2 (by decide)) ⟨_, _, rfl⟩ (by decide) (wfWord_o hb1) rfl (Nat.le_of_ble_eq_true rfl) ⟨Nat.zero_le _, Nat.zero_le _⟩ dX5_follow_55 rfl (fun r55 g55 h => ?_)
        refine v_icmp_ge o (tgt := 77) dX5_follow_58 (by decide) (fun c58 => ?_) (fun c58 => ?_)
        · replace h := h.1 c58
          refine v_iconst o (v := 0) dX5_follow_77 (by decide) ?_
          refine v_istore_n o (lv' := [(2, .int 0), (0, .ref a), (1, .ref b1)]) dX5_follow_78 rfl (by decide) rfl ?_
          refine v_sub [1, 2, 0] (lv2 := [(0, .ref a), (1, .ref b1), (2, .int 0)]) rfl ?_
          exact ih.2.2 g55 0  h.1 (by have := h.2; omega)
        · replace h := h.2 c58
          refine v_aload_n o 0 dX5_follow_61 rfl ?_
          refine v_iload_n o 2 dX5_follow_62 rfl ?_
          refine v_aload_n o 1 dX5_follow_63 rfl ?_
          refine v_iload_n o 2 dX5_follow_64 rfl ?_
          refine v_cVi o [.int x2] [.int x2, .ref a] (fun sz => metX6_codeAt l G P g55 sz b1 hb1 x2 _ h) (cwX5_54 o.1.2.2.2.2 (by decide)) ⟨_, _, rfl⟩ (by decide) (wfWord_o hb1) rfl (Nat.le_of_ble_eq_true rfl) ⟨Nat.zero_le _, Nat.zero_le _⟩ dX5_follow_65 rfl (fun r65 g65 h => ?_)
          refine v_cVv o [.int x2, .int r65] [] (fun sz => metX5_pass l G P g65 sz a ha x2 r65 _ h) (cwX5_58 o.1.2.2.2.2 (by decide)) ⟨_, _, rfl⟩ (by decide) (wfTrace_o ha) rfl (Nat.le_of_ble_eq_true rfl) ⟨Nat.zero_le _, Nat.zero_le _⟩ dX5_follow_68 rfl (fun g68 h => ?_)
          obtain ⟨x2_71, ex2_71⟩ : ∃ y : Int32, y = x2 + 1 := ⟨_, rfl⟩
          replace h := h x2_71 ex2_71
          refine v_iinc o (v := x2_71) (lv' := [(2, .int x2_71), (0, .ref a), (1, .ref b1)]) 2 dX5_follow_71 rfl (by rw [ex2_71]; rfl) (by decide) rfl ?_
          refine v_goto o (tgt := 53) dX5_follow_74 (by decide) ?_
          refine v_sub [1, 2, 0] (lv2 := [(0, .ref a), (1, .ref b1), (2, .int x2_71)]) rfl ?_
          exact ih.2.1 g68 x2_71  h.1 (by have := h.2; omega)
      · intro g x2 hI hm
        have h := h79 g x2 hI
        clear hI
        unfold bX5_follow_79 at h
        refine v_iload_n o 2 dX5_follow_79 rfl ?_
        refine v_aload_n o 0 dX5_follow_80 rfl ?_
        refine v_gfI o lkX5_38 (by decide) (wfTrace_o ha) dX5_follow_81 ?_
        refine v_icmp_ge o (tgt := 109) dX5_follow_84 (by decide) (fun c84 => ?_) (fun c84 => ?_)
        · replace h := h.1 c84
          exact v_vret o rfl hr dX5_follow_109 h
        · replace h := h.2 c84
          refine v_aload_n o 0 dX5_follow_87 rfl ?_
          refine v_gfR o lkX5_26 (by decide) (wfTrace_o ha) (wfTrace_r3 ha) dX5_follow_88 ?_
          refine v_aload_n o 0 dX5_follow_91 rfl ?_
          refine v_gfR o lkX5_23 (by decide) (wfTrace_o ha) (wfTrace_r2 ha) dX5_follow_92 ?_
          refine v_iload_n o 2 dX5_follow_95 rfl ?_
          refine v_cVi o [.int x2] [.ref (a + 7)] (fun sz => metX3_at l G P g sz (a + 5) (wfTrace_t2 ha) x2 _ h) (cwX5_61 o.1.2.2.2.2 (by decide)) ⟨_, _, rfl⟩ (by decide) (wfRow_o (wfTrace_t2 ha)) rfl (Nat.le_of_ble_eq_true rfl) ⟨Nat.zero_le _, Nat.zero_le _⟩ dX5_follow_96 rfl (fun r96 g96 h => ?_)
          refine v_iload_n o 2 dX5_follow_99 rfl ?_
          refine v_cVv o [.int r96, .int x2] [] (fun sz => metX3_put l G P g96 sz (a + 7) (wfTrace_t3 ha) r96 x2 _ h) (cwX5_47 o.1.2.2.2.2 (by decide)) ⟨_, _, rfl⟩ (by decide) (wfRow_o (wfTrace_t3 ha)) rfl (Nat.le_of_ble_eq_true rfl) ⟨Nat.zero_le _, Nat.zero_le _⟩ dX5_follow_100 rfl (fun g100 h => ?_)
          obtain ⟨x2_103, ex2_103⟩ : ∃ y : Int32, y = x2 + 1 := ⟨_, rfl⟩
          replace h := h x2_103 ex2_103
          refine v_iinc o (v := x2_103) (lv' := [(2, .int x2_103), (0, .ref a), (1, .ref b1)]) 2 dX5_follow_103 rfl (by rw [ex2_103]; rfl) (by decide) rfl ?_
          refine v_goto o (tgt := 79) dX5_follow_106 (by decide) ?_
          refine v_sub [1, 2, 0] (lv2 := [(0, .ref a), (1, .ref b1), (2, .int x2_103)]) rfl ?_
          exact ih.2.2 g100 x2_103  h.1 (by have := h.2; omega)
  unfold vX5_follow at h
  refine v_aload_n o 0 dX5_follow_0 rfl ?_
  refine v_aload_n o 1 dX5_follow_1 rfl ?_
  refine v_cVi o [] [.ref a] (fun sz => metX6_strands l G P f sz b1 hb1 _ h) (cwX5_42 o.1.2.2.2.2 (by decide)) ⟨_, _, rfl⟩ (by decide) (wfWord_o hb1) rfl (Nat.le_of_ble_eq_true rfl) ⟨Nat.zero_le _, Nat.zero_le _⟩ dX5_follow_2 rfl (fun r2 g2 h => ?_)
  refine v_pf o lpX5_38 (wfTrace_o ha) ⟨rfl, rfl⟩ dX5_follow_5 ?_
  refine v_nmf (fun g5 eg5 => ?_)
  replace h := h g5 eg5
  refine v_iconst o (v := 0) dX5_follow_8 (by decide) ?_
  refine v_istore_n o (lv' := [(2, .int 0), (0, .ref a), (1, .ref b1)]) dX5_follow_9 rfl (by decide) rfl ?_
  refine v_sub [1, 2, 0] (lv2 := [(0, .ref a), (1, .ref b1), (2, .int 0)]) rfl ?_
  exact (main (μ10 g5 0 + 1)).1 g5 0  h (Nat.lt_succ_self _)
def kX5_follow (P : Sk) (f : St) (a : Nat) (b1 : Nat) (K : St → Prop) : Prop := False
theorem metX5_follow (l : Launch) (G : Gl) (P : Sk) (f : St) (sz : Nat) (a : Nat) (ha : IsTrace P a) (b1 : Nat) (hb1 : IsWord P b1) (K : St → Prop) (h : kX5_follow P f a b1 K) : Met l yX5_follow (wU yX5_follow cX5_follow 3 none) rmX5_follow (PcW G P f sz [.ref a, .ref b1]) (QcV G P sz K) 0 0 (frA P sz) := sorry

def vX5_doughUsed (P : Sk) (f : St) (a : Nat) (p1 : Int32) (K : Int32 → St → Prop) : Prop :=
  kX3_at P f (a + 11) p1 (fun r5 g5 => kX3_at P g5 (a + 9) p1 (fun r14 g14 => K (r5 + (2 * r14)) g14))
set_option maxRecDepth 20000 in
set_option maxHeartbeats 4000000 in
theorem mX5_doughUsed (l : Launch) (G : Gl) (P : Sk) (f : St) (sz : Nat) (a : Nat) (ha : IsTrace P a) (p1 : Int32) (K : Int32 → St → Prop) (h : vX5_doughUsed P f a p1 K)  :
  Met l yX5_doughUsed (wU yX5_doughUsed cX5_doughUsed 2 (some .int)) rmX5_doughUsed (PcW G P f sz [.ref a, .int p1]) (QcI G P sz K) 0 0 (frA P sz) := by
  refine v_met (own := RX5) [.ref a, .int p1] (by decide +kernel) rfl (Nat.le_of_ble_eq_true rfl) (fun p e s m args below meth c hsz o hr hnm => ?_)
  refine v_lv (lv2 := [(0, .ref a), (1, .int p1)]) rfl ?_
  unfold vX5_doughUsed at h
  refine v_aload_n o 0 dX5_doughUsed_0 rfl ?_
  refine v_gfR o lkX5_32 (by decide) (wfTrace_o ha) (wfTrace_r5 ha) dX5_doughUsed_1 ?_
  refine v_iload_n o 1 dX5_doughUsed_4 rfl ?_
  refine v_cVi o [.int p1] [] (fun sz => metX3_at l G P f sz (a + 11) (wfTrace_t5 ha) p1 _ h) (cwX5_61 o.1.2.2.2.2 (by decide)) ⟨_, _, rfl⟩ (by decide) (wfRow_o (wfTrace_t5 ha)) rfl (Nat.le_of_ble_eq_true rfl) ⟨Nat.zero_le _, Nat.zero_le _⟩ dX5_doughUsed_5 rfl (fun r5 g5 h => ?_)
  refine v_iconst o (v := 2) dX5_doughUsed_8 (by decide) ?_
  refine v_aload_n o 0 dX5_doughUsed_9 rfl ?_
  refine v_gfR o lkX5_29 (by decide) (wfTrace_o ha) (wfTrace_r4 ha) dX5_doughUsed_10 ?_
  refine v_iload_n o 1 dX5_doughUsed_13 rfl ?_
  refine v_cVi o [.int p1] [.int 2, .int r5] (fun sz => metX3_at l G P g5 sz (a + 9) (wfTrace_t4 ha) p1 _ h) (cwX5_61 o.1.2.2.2.2 (by decide)) ⟨_, _, rfl⟩ (by decide) (wfRow_o (wfTrace_t4 ha)) rfl (Nat.le_of_ble_eq_true rfl) ⟨Nat.zero_le _, Nat.zero_le _⟩ dX5_doughUsed_14 rfl (fun r14 g14 h => ?_)
  refine v_imul o dX5_doughUsed_17 ?_
  refine v_iadd o dX5_doughUsed_18 ?_
  exact v_iret o rfl hr dX5_doughUsed_19 h
abbrev kX5_doughUsed := @vX5_doughUsed
abbrev metX5_doughUsed := @mX5_doughUsed

def bX5_hasDoughForAll_2 (P : Sk) (a : Nat) (L2 : St → Int32 → Prop) (K : Int32 → St → Prop) (f : St) (x1 : Int32) : Prop :=
  (f a 7 ≤ x1 → K 1 f) ∧ (¬ f a 7 ≤ x1 → kX5_doughUsed P f a x1 (fun r12 g12 => (r12 ≤ 30 → ∀ x1_22 : Int32, x1_22 = x1 + 1 → L2 g12 x1_22) ∧ (¬ r12 ≤ 30 → K 0 g12)))
def vX5_hasDoughForAll (P : Sk) (f : St) (a : Nat) (L2 : St → Int32 → Prop) (K : Int32 → St → Prop) : Prop :=
  L2 f 0
set_option maxRecDepth 20000 in
set_option maxHeartbeats 4000000 in
theorem mX5_hasDoughForAll (l : Launch) (G : Gl) (P : Sk) (f : St) (sz : Nat) (a : Nat) (ha : IsTrace P a) (K : Int32 → St → Prop) (I2 : St → Int32 → Prop) (μ2 : St → Int32 → Nat) 
  (h : vX5_hasDoughForAll P f a I2 K)
  (h2 : ∀ (g : St) (x1 : Int32) , I2 g x1 → bX5_hasDoughForAll_2 P a (fun g' z0 => I2 g' z0 ∧ μ2 g' z0 < μ2 g x1) K g x1) :
  Met l yX5_hasDoughForAll (wU yX5_hasDoughForAll cX5_hasDoughForAll 2 (some .boolean)) rmX5_hasDoughForAll (PcW G P f sz [.ref a]) (QcI G P sz K) 0 0 (frA P sz) := by
  refine v_met (own := RX5) [.ref a] (by decide +kernel) rfl (Nat.le_of_ble_eq_true rfl) (fun p e s m args below meth c hsz o hr hnm => ?_)
  refine v_lv (lv2 := [(0, .ref a)]) rfl ?_
  have main : ∀ n : Nat, (∀ (g : St) (x1 : Int32) , I2 g x1 → μ2 g x1 < n → V p l e rmX5_hasDoughForAll s m args below meth c 2 G (frA P sz) (MQ below (QcI G P sz K) args s 0 0 (frA P sz)) 0 0 P [(0, .ref a), (1, .int x1)] [] 2 g) := by
    intro n
    induction n with
    | zero => exact fun g x1 hI hm => absurd hm (Nat.not_lt_zero _)
    | succ n ih =>
      intro g x1 hI hm
      have h := h2 g x1 hI
      clear hI
      unfold bX5_hasDoughForAll_2 at h
      refine v_iload_n o 1 dX5_hasDoughForAll_2 rfl ?_
      refine v_aload_n o 0 dX5_hasDoughForAll_3 rfl ?_
      refine v_gfI o lkX5_38 (by decide) (wfTrace_o ha) dX5_hasDoughForAll_4 ?_
      refine v_icmp_ge o (tgt := 28) dX5_hasDoughForAll_7 (by decide) (fun c7 => ?_) (fun c7 => ?_)
      · replace h := h.1 c7
        refine v_iconst o (v := 1) dX5_hasDoughForAll_28 (by decide) ?_
        exact v_zret o rfl hr bz1.1 dX5_hasDoughForAll_29 h
      · replace h := h.2 c7
        refine v_aload_n o 0 dX5_hasDoughForAll_10 rfl ?_
        refine v_iload_n o 1 dX5_hasDoughForAll_11 rfl ?_
        refine v_cVi o [.int x1] [] (fun sz => metX5_doughUsed l G P g sz a ha x1 _ h) (cwX5_75 o.1.2.2.2.2 (by decide)) ⟨_, _, rfl⟩ (by decide) (wfTrace_o ha) rfl (Nat.le_of_ble_eq_true rfl) ⟨Nat.zero_le _, Nat.zero_le _⟩ dX5_hasDoughForAll_12 rfl (fun r12 g12 h => ?_)
        refine v_bipush o (v := 30) dX5_hasDoughForAll_15 (by decide) ?_
        refine v_icmp_le o (tgt := 22) dX5_hasDoughForAll_17 (by decide) (fun c17 => ?_) (fun c17 => ?_)
        · replace h := h.1 c17
          obtain ⟨x1_22, ex1_22⟩ : ∃ y : Int32, y = x1 + 1 := ⟨_, rfl⟩
          replace h := h x1_22 ex1_22
          refine v_iinc o (v := x1_22) (lv' := [(1, .int x1_22), (0, .ref a)]) 1 dX5_hasDoughForAll_22 rfl (by rw [ex1_22]; rfl) (by decide) rfl ?_
          refine v_goto o (tgt := 2) dX5_hasDoughForAll_25 (by decide) ?_
          refine v_sub [1, 0] (lv2 := [(0, .ref a), (1, .int x1_22)]) rfl ?_
          exact ih g12 x1_22  h.1 (by have := h.2; omega)
        · replace h := h.2 c17
          refine v_iconst o (v := 0) dX5_hasDoughForAll_20 (by decide) ?_
          exact v_zret o rfl hr bz0.1 dX5_hasDoughForAll_21 h
  unfold vX5_hasDoughForAll at h
  refine v_iconst o (v := 0) dX5_hasDoughForAll_0 (by decide) ?_
  refine v_istore_n o (lv' := [(1, .int 0), (0, .ref a)]) dX5_hasDoughForAll_1 rfl (by decide) rfl ?_
  refine v_sub [1, 0] (lv2 := [(0, .ref a), (1, .int 0)]) rfl ?_
  exact (main (μ2 f 0 + 1)) f 0  h (Nat.lt_succ_self _)
def kX5_hasDoughForAll (P : Sk) (f : St) (a : Nat) (K : Int32 → St → Prop) : Prop := False
theorem metX5_hasDoughForAll (l : Launch) (G : Gl) (P : Sk) (f : St) (sz : Nat) (a : Nat) (ha : IsTrace P a) (K : Int32 → St → Prop) (h : kX5_hasDoughForAll P f a K) : Met l yX5_hasDoughForAll (wU yX5_hasDoughForAll cX5_hasDoughForAll 2 (some .boolean)) rmX5_hasDoughForAll (PcW G P f sz [.ref a]) (QcI G P sz K) 0 0 (frA P sz) := sorry

def vX2_settle (P : Sk) (f : St) (a : Nat) (K : Int32 → St → Prop) : Prop :=
  kX6_makeLoose P f (a + 4) (a + 1) (fun g8 => kX5_follow P g8 (a + 7) (a + 1) (fun g19 => kX5_hasDoughForAll P g19 (a + 7) (fun r26 g26 => (r26 = 0 → K 2 g26) ∧ (¬ r26 = 0 → K 0 g26))))
set_option maxRecDepth 20000 in
set_option maxHeartbeats 4000000 in
theorem mX2_settle (l : Launch) (G : Gl) (P : Sk) (f : St) (sz : Nat) (a : Nat) (ha : IsLoaf P a) (K : Int32 → St → Prop) (h : vX2_settle P f a K)  :
  Met l yX2_settle (wU yX2_settle cX2_settle 1 (some .int)) rmX2_settle (PcW G P f sz [.ref a]) (QcI G P sz K) 0 0 (frA P sz) := by
  refine v_met (own := RX2) [.ref a] (by decide +kernel) rfl (Nat.le_of_ble_eq_true rfl) (fun p e s m args below meth c hsz o hr hnm => ?_)
  refine v_lv (lv2 := [(0, .ref a)]) rfl ?_
  unfold vX2_settle at h
  refine v_aload_n o 0 dX2_settle_0 rfl ?_
  refine v_gfR o lkX2_18 (by decide) (wfLoaf_o ha) (wfLoaf_r1 ha) dX2_settle_1 ?_
  refine v_aload_n o 0 dX2_settle_4 rfl ?_
  refine v_gfR o lkX2_12 (by decide) (wfLoaf_o ha) (wfLoaf_r0 ha) dX2_settle_5 ?_
  refine v_cVv o [.ref (a + 1)] [] (fun sz => metX6_makeLoose l G P f sz (a + 4) (wfLoaf_t1 ha) (a + 1) (wfLoaf_t0 ha) _ h) (cwX2_28 o.1.2.2.2.2 (by decide)) ⟨_, _, rfl⟩ (by decide) (wfWord_o (wfLoaf_t1 ha)) rfl (Nat.le_of_ble_eq_true rfl) ⟨Nat.zero_le _, Nat.zero_le _⟩ dX2_settle_8 rfl (fun g8 h => ?_)
  refine v_aload_n o 0 dX2_settle_11 rfl ?_
  refine v_gfR o lkX2_24 (by decide) (wfLoaf_o ha) (wfLoaf_r2 ha) dX2_settle_12 ?_
  refine v_aload_n o 0 dX2_settle_15 rfl ?_
  refine v_gfR o lkX2_12 (by decide) (wfLoaf_o ha) (wfLoaf_r0 ha) dX2_settle_16 ?_
  refine v_cVv o [.ref (a + 1)] [] (fun sz => metX5_follow l G P g8 sz (a + 7) (wfLoaf_t2 ha) (a + 1) (wfLoaf_t0 ha) _ h) (cwX2_32 o.1.2.2.2.2 (by decide)) ⟨_, _, rfl⟩ (by decide) (wfTrace_o (wfLoaf_t2 ha)) rfl (Nat.le_of_ble_eq_true rfl) ⟨Nat.zero_le _, Nat.zero_le _⟩ dX2_settle_19 rfl (fun g19 h => ?_)
  refine v_aload_n o 0 dX2_settle_22 rfl ?_
  refine v_gfR o lkX2_24 (by decide) (wfLoaf_o ha) (wfLoaf_r2 ha) dX2_settle_23 ?_
  refine v_cVi o [] [] (fun sz => metX5_hasDoughForAll l G P g19 sz (a + 7) (wfLoaf_t2 ha) _ h) (cwX2_35 o.1.2.2.2.2 (by decide)) ⟨_, _, rfl⟩ (by decide) (wfTrace_o (wfLoaf_t2 ha)) rfl (Nat.le_of_ble_eq_true rfl) ⟨Nat.zero_le _, Nat.zero_le _⟩ dX2_settle_26 rfl (fun r26 g26 h => ?_)
  refine v_if_eq o (tgt := 36) dX2_settle_29 (by decide) (fun c29 => ?_) (fun c29 => ?_)
  · replace h := h.1 c29
    refine v_iconst o (v := 2) dX2_settle_36 (by decide) ?_
    exact v_iret o rfl hr dX2_settle_37 h
  · replace h := h.2 c29
    refine v_iconst o (v := 0) dX2_settle_32 (by decide) ?_
    refine v_goto o (tgt := 37) dX2_settle_33 (by decide) ?_
    exact v_iret o rfl hr dX2_settle_37 h
abbrev kX2_settle := @vX2_settle
abbrev metX2_settle := @mX2_settle

def vX5_hiddenAt (P : Sk) (f : St) (a : Nat) (p1 : Int32) (K : Int32 → St → Prop) : Prop :=
  kX3_at P f (a + 1) p1 (fun r5 g5 => K r5 g5)
set_option maxRecDepth 20000 in
set_option maxHeartbeats 4000000 in
theorem mX5_hiddenAt (l : Launch) (G : Gl) (P : Sk) (f : St) (sz : Nat) (a : Nat) (ha : IsTrace P a) (p1 : Int32) (K : Int32 → St → Prop) (h : vX5_hiddenAt P f a p1 K)  :
  Met l yX5_hiddenAt (wU yX5_hiddenAt cX5_hiddenAt 2 (some .int)) rmX5_hiddenAt (PcW G P f sz [.ref a, .int p1]) (QcI G P sz K) 0 0 (frA P sz) := by
  refine v_met (own := RX5) [.ref a, .int p1] (by decide +kernel) rfl (Nat.le_of_ble_eq_true rfl) (fun p e s m args below meth c hsz o hr hnm => ?_)
  refine v_lv (lv2 := [(0, .ref a), (1, .int p1)]) rfl ?_
  unfold vX5_hiddenAt at h
  refine v_aload_n o 0 dX5_hiddenAt_0 rfl ?_
  refine v_gfR o lkX5_14 (by decide) (wfTrace_o ha) (wfTrace_r0 ha) dX5_hiddenAt_1 ?_
  refine v_iload_n o 1 dX5_hiddenAt_4 rfl ?_
  refine v_cVi o [.int p1] [] (fun sz => metX3_at l G P f sz (a + 1) (wfTrace_t0 ha) p1 _ h) (cwX5_61 o.1.2.2.2.2 (by decide)) ⟨_, _, rfl⟩ (by decide) (wfRow_o (wfTrace_t0 ha)) rfl (Nat.le_of_ble_eq_true rfl) ⟨Nat.zero_le _, Nat.zero_le _⟩ dX5_hiddenAt_5 rfl (fun r5 g5 h => ?_)
  exact v_iret o rfl hr dX5_hiddenAt_8 h
abbrev kX5_hiddenAt := @vX5_hiddenAt
abbrev metX5_hiddenAt := @mX5_hiddenAt

def vX5_aboveAt (P : Sk) (f : St) (a : Nat) (p1 : Int32) (K : Int32 → St → Prop) : Prop :=
  kX3_at P f (a + 3) p1 (fun r5 g5 => K r5 g5)
set_option maxRecDepth 20000 in
set_option maxHeartbeats 4000000 in
theorem mX5_aboveAt (l : Launch) (G : Gl) (P : Sk) (f : St) (sz : Nat) (a : Nat) (ha : IsTrace P a) (p1 : Int32) (K : Int32 → St → Prop) (h : vX5_aboveAt P f a p1 K)  :
  Met l yX5_aboveAt (wU yX5_aboveAt cX5_aboveAt 2 (some .int)) rmX5_aboveAt (PcW G P f sz [.ref a, .int p1]) (QcI G P sz K) 0 0 (frA P sz) := by
  refine v_met (own := RX5) [.ref a, .int p1] (by decide +kernel) rfl (Nat.le_of_ble_eq_true rfl) (fun p e s m args below meth c hsz o hr hnm => ?_)
  refine v_lv (lv2 := [(0, .ref a), (1, .int p1)]) rfl ?_
  unfold vX5_aboveAt at h
  refine v_aload_n o 0 dX5_aboveAt_0 rfl ?_
  refine v_gfR o lkX5_20 (by decide) (wfTrace_o ha) (wfTrace_r1 ha) dX5_aboveAt_1 ?_
  refine v_iload_n o 1 dX5_aboveAt_4 rfl ?_
  refine v_cVi o [.int p1] [] (fun sz => metX3_at l G P f sz (a + 3) (wfTrace_t1 ha) p1 _ h) (cwX5_61 o.1.2.2.2.2 (by decide)) ⟨_, _, rfl⟩ (by decide) (wfRow_o (wfTrace_t1 ha)) rfl (Nat.le_of_ble_eq_true rfl) ⟨Nat.zero_le _, Nat.zero_le _⟩ dX5_aboveAt_5 rfl (fun r5 g5 h => ?_)
  exact v_iret o rfl hr dX5_aboveAt_8 h
abbrev kX5_aboveAt := @vX5_aboveAt
abbrev metX5_aboveAt := @mX5_aboveAt

def vX2_numberOfCrossing (P : Sk) (f : St) (a : Nat) (p1 : Int32) (p2 : Int32) (K : Int32 → St → Prop) : Prop :=
  (p1 < 0 → K (-1) f) ∧ (¬ p1 < 0 → kX6_size P f (a + 1) (fun r9 g9 => (p1 < r9 → (p2 = 0 → kX6_codeAt P g9 (a + 1) p1 (fun r49 g49 => kX6_placeOf P g49 r49 (fun r52 g52 => K r52 g52))) ∧ (¬ p2 = 0 → (p2 = 1 → kX6_codeAt P g9 (a + 1) p1 (fun r61 g61 => kX6_isRight P g61 r61 (fun r64 g64 => (r64 = 0 → K 0 g64) ∧ (¬ r64 = 0 → K 1 g64)))) ∧ (¬ p2 = 1 → (p2 = 2 → kX5_hiddenAt P g9 (a + 7) p1 (fun r81 g81 => K r81 g81)) ∧ (¬ p2 = 2 → kX5_aboveAt P g9 (a + 7) p1 (fun r90 g90 => K r90 g90))))) ∧ (¬ p1 < r9 → K (-1) g9)))
set_option maxRecDepth 20000 in
set_option maxHeartbeats 4000000 in
theorem mX2_numberOfCrossing (l : Launch) (G : Gl) (P : Sk) (f : St) (sz : Nat) (a : Nat) (ha : IsLoaf P a) (p1 : Int32) (p2 : Int32) (K : Int32 → St → Prop) (h : vX2_numberOfCrossing P f a p1 p2 K)  :
  Met l yX2_numberOfCrossing (wU yX2_numberOfCrossing cX2_numberOfCrossing 3 (some .int)) rmX2_numberOfCrossing (PcW G P f sz [.ref a, .int p1, .int p2]) (QcI G P sz K) 0 0 (frA P sz) := by
  refine v_met (own := RX2) [.ref a, .int p1, .int p2] (by decide +kernel) rfl (Nat.le_of_ble_eq_true rfl) (fun p e s m args below meth c hsz o hr hnm => ?_)
  refine v_lv (lv2 := [(0, .ref a), (1, .int p1), (2, .int p2)]) rfl ?_
  unfold vX2_numberOfCrossing at h
  refine v_iload_n o 1 dX2_numberOfCrossing_0 rfl ?_
  refine v_if_lt o (tgt := 15) dX2_numberOfCrossing_1 (by decide) (fun c1 => ?_) (fun c1 => ?_)
  · replace h := h.1 c1
    refine v_iconst o (v := (-1)) dX2_numberOfCrossing_15 (by decide) ?_
    exact v_iret o rfl hr dX2_numberOfCrossing_16 h
  · replace h := h.2 c1
    refine v_iload_n o 1 dX2_numberOfCrossing_4 rfl ?_
    refine v_aload_n o 0 dX2_numberOfCrossing_5 rfl ?_
    refine v_gfR o lkX2_12 (by decide) (wfLoaf_o ha) (wfLoaf_r0 ha) dX2_numberOfCrossing_6 ?_
    refine v_cVi o [] [.int p1] (fun sz => metX6_size l G P f sz (a + 1) (wfLoaf_t0 ha) _ h) (cwX2_45 o.1.2.2.2.2 (by decide)) ⟨_, _, rfl⟩ (by decide) (wfWord_o (wfLoaf_t0 ha)) rfl (Nat.le_of_ble_eq_true rfl) ⟨Nat.zero_le _, Nat.zero_le _⟩ dX2_numberOfCrossing_9 rfl (fun r9 g9 h => ?_)
    refine v_icmp_lt o (tgt := 17) dX2_numberOfCrossing_12 (by decide) (fun c12 => ?_) (fun c12 => ?_)
    · replace h := h.1 c12
      refine v_iload_n o 2 dX2_numberOfCrossing_17 rfl ?_
      by_cases c18_0 : p2 = 0
      · replace h := h.1 c18_0
        refine v_tableIn o (off := 26) (tgt := 44) dX2_numberOfCrossing_18 (by rw [c18_0]; decide) (by rw [c18_0]; decide) (by rw [c18_0]; decide) (by decide) ?_
        refine v_aload_n o 0 dX2_numberOfCrossing_44 rfl ?_
        refine v_gfR o lkX2_12 (by decide) (wfLoaf_o ha) (wfLoaf_r0 ha) dX2_numberOfCrossing_45 ?_
        refine v_iload_n o 1 dX2_numberOfCrossing_48 rfl ?_
        refine v_cVi o [.int p1] [] (fun sz => metX6_codeAt l G P g9 sz (a + 1) (wfLoaf_t0 ha) p1 _ h) (cwX2_49 o.1.2.2.2.2 (by decide)) ⟨_, _, rfl⟩ (by decide) (wfWord_o (wfLoaf_t0 ha)) rfl (Nat.le_of_ble_eq_true rfl) ⟨Nat.zero_le _, Nat.zero_le _⟩ dX2_numberOfCrossing_49 rfl (fun r49 g49 h => ?_)
        refine v_cSi o [.int r49] [] (fun sz => metX6_placeOf l G P g49 sz r49 _ h) (cwX2_53 o.1.2.2.2.2 (by decide)) rfl (Nat.le_of_ble_eq_true rfl) ⟨Nat.zero_le _, Nat.zero_le _⟩ dX2_numberOfCrossing_52 rfl (fun r52 g52 h => ?_)
        exact v_iret o rfl hr dX2_numberOfCrossing_55 h
      · replace h := h.2 c18_0
        by_cases c18_1 : p2 = 1
        · replace h := h.1 c18_1
          refine v_tableIn o (off := 38) (tgt := 56) dX2_numberOfCrossing_18 (by rw [c18_1]; decide) (by rw [c18_1]; decide) (by rw [c18_1]; decide) (by decide) ?_
          refine v_aload_n o 0 dX2_numberOfCrossing_56 rfl ?_
          refine v_gfR o lkX2_12 (by decide) (wfLoaf_o ha) (wfLoaf_r0 ha) dX2_numberOfCrossing_57 ?_
          refine v_iload_n o 1 dX2_numberOfCrossing_60 rfl ?_
          refine v_cVi o [.int p1] [] (fun sz => metX6_codeAt l G P g9 sz (a + 1) (wfLoaf_t0 ha) p1 _ h) (cwX2_49 o.1.2.2.2.2 (by decide)) ⟨_, _, rfl⟩ (by decide) (wfWord_o (wfLoaf_t0 ha)) rfl (Nat.le_of_ble_eq_true rfl) ⟨Nat.zero_le _, Nat.zero_le _⟩ dX2_numberOfCrossing_61 rfl (fun r61 g61 h => ?_)
          refine v_cSi o [.int r61] [] (fun sz => metX6_isRight l G P g61 sz r61 _ h) (cwX2_56 o.1.2.2.2.2 (by decide)) rfl (Nat.le_of_ble_eq_true rfl) ⟨Nat.zero_le _, Nat.zero_le _⟩ dX2_numberOfCrossing_64 rfl (fun r64 g64 h => ?_)
          refine v_if_eq o (tgt := 74) dX2_numberOfCrossing_67 (by decide) (fun c67 => ?_) (fun c67 => ?_)
          · replace h := h.1 c67
            refine v_iconst o (v := 0) dX2_numberOfCrossing_74 (by decide) ?_
            exact v_iret o rfl hr dX2_numberOfCrossing_75 h
          · replace h := h.2 c67
            refine v_iconst o (v := 1) dX2_numberOfCrossing_70 (by decide) ?_
            refine v_goto o (tgt := 75) dX2_numberOfCrossing_71 (by decide) ?_
            exact v_iret o rfl hr dX2_numberOfCrossing_75 h
        · replace h := h.2 c18_1
          by_cases c18_2 : p2 = 2
          · replace h := h.1 c18_2
            refine v_tableIn o (off := 58) (tgt := 76) dX2_numberOfCrossing_18 (by rw [c18_2]; decide) (by rw [c18_2]; decide) (by rw [c18_2]; decide) (by decide) ?_
            refine v_aload_n o 0 dX2_numberOfCrossing_76 rfl ?_
            refine v_gfR o lkX2_24 (by decide) (wfLoaf_o ha) (wfLoaf_r2 ha) dX2_numberOfCrossing_77 ?_
            refine v_iload_n o 1 dX2_numberOfCrossing_80 rfl ?_
            refine v_cVi o [.int p1] [] (fun sz => metX5_hiddenAt l G P g9 sz (a + 7) (wfLoaf_t2 ha) p1 _ h) (cwX2_60 o.1.2.2.2.2 (by decide)) ⟨_, _, rfl⟩ (by decide) (wfTrace_o (wfLoaf_t2 ha)) rfl (Nat.le_of_ble_eq_true rfl) ⟨Nat.zero_le _, Nat.zero_le _⟩ dX2_numberOfCrossing_81 rfl (fun r81 g81 h => ?_)
            exact v_iret o rfl hr dX2_numberOfCrossing_84 h
          · replace h := h.2 c18_2
            refine v_tableOut o (tgt := 85) dX2_numberOfCrossing_18 (by have q0 := lv_neT c18_0 (a := 0) (by decide); have q1 := lv_neT c18_1 (a := 1) (by decide); have q2 := lv_neT c18_2 (a := 2) (by decide); omega) (by decide) ?_
            refine v_aload_n o 0 dX2_numberOfCrossing_85 rfl ?_
            refine v_gfR o lkX2_24 (by decide) (wfLoaf_o ha) (wfLoaf_r2 ha) dX2_numberOfCrossing_86 ?_
            refine v_iload_n o 1 dX2_numberOfCrossing_89 rfl ?_
            refine v_cVi o [.int p1] [] (fun sz => metX5_aboveAt l G P g9 sz (a + 7) (wfLoaf_t2 ha) p1 _ h) (cwX2_63 o.1.2.2.2.2 (by decide)) ⟨_, _, rfl⟩ (by decide) (wfTrace_o (wfLoaf_t2 ha)) rfl (Nat.le_of_ble_eq_true rfl) ⟨Nat.zero_le _, Nat.zero_le _⟩ dX2_numberOfCrossing_90 rfl (fun r90 g90 h => ?_)
            exact v_iret o rfl hr dX2_numberOfCrossing_93 h
    · replace h := h.2 c12
      refine v_iconst o (v := (-1)) dX2_numberOfCrossing_15 (by decide) ?_
      exact v_iret o rfl hr dX2_numberOfCrossing_16 h
abbrev kX2_numberOfCrossing := @vX2_numberOfCrossing
abbrev metX2_numberOfCrossing := @mX2_numberOfCrossing

def vX5_numberOfStrand (P : Sk) (f : St) (a : Nat) (p1 : Int32) (p2 : Int32) (K : Int32 → St → Prop) : Prop :=
  (p1 < 0 → K (-1) f) ∧ (¬ p1 < 0 → (p1 < f a 7 → (p2 = 0 → kX3_at P f (a + 7) p1 (fun r49 g49 => K r49 g49)) ∧ (¬ p2 = 0 → (p2 = 1 → kX3_at P f (a + 9) p1 (fun r58 g58 => K r58 g58)) ∧ (¬ p2 = 1 → (p2 = 2 → kX3_at P f (a + 11) p1 (fun r67 g67 => K r67 g67)) ∧ (¬ p2 = 2 → (p2 = 3 → kX5_doughUsed P f a p1 (fun r75 g75 => K (30 - r75) g75)) ∧ (¬ p2 = 3 → kX3_at P f (a + 5) p1 (fun r85 g85 => K r85 g85)))))) ∧ (¬ p1 < f a 7 → K (-1) f))
set_option maxRecDepth 20000 in
set_option maxHeartbeats 4000000 in
theorem mX5_numberOfStrand (l : Launch) (G : Gl) (P : Sk) (f : St) (sz : Nat) (a : Nat) (ha : IsTrace P a) (p1 : Int32) (p2 : Int32) (K : Int32 → St → Prop) (h : vX5_numberOfStrand P f a p1 p2 K)  :
  Met l yX5_numberOfStrand (wU yX5_numberOfStrand cX5_numberOfStrand 3 (some .int)) rmX5_numberOfStrand (PcW G P f sz [.ref a, .int p1, .int p2]) (QcI G P sz K) 0 0 (frA P sz) := by
  refine v_met (own := RX5) [.ref a, .int p1, .int p2] (by decide +kernel) rfl (Nat.le_of_ble_eq_true rfl) (fun p e s m args below meth c hsz o hr hnm => ?_)
  refine v_lv (lv2 := [(0, .ref a), (1, .int p1), (2, .int p2)]) rfl ?_
  unfold vX5_numberOfStrand at h
  refine v_iload_n o 1 dX5_numberOfStrand_0 rfl ?_
  refine v_if_lt o (tgt := 12) dX5_numberOfStrand_1 (by decide) (fun c1 => ?_) (fun c1 => ?_)
  · replace h := h.1 c1
    refine v_iconst o (v := (-1)) dX5_numberOfStrand_12 (by decide) ?_
    exact v_iret o rfl hr dX5_numberOfStrand_13 h
  · replace h := h.2 c1
    refine v_iload_n o 1 dX5_numberOfStrand_4 rfl ?_
    refine v_aload_n o 0 dX5_numberOfStrand_5 rfl ?_
    refine v_gfI o lkX5_38 (by decide) (wfTrace_o ha) dX5_numberOfStrand_6 ?_
    refine v_icmp_lt o (tgt := 14) dX5_numberOfStrand_9 (by decide) (fun c9 => ?_) (fun c9 => ?_)
    · replace h := h.1 c9
      refine v_iload_n o 2 dX5_numberOfStrand_14 rfl ?_
      by_cases c15_0 : p2 = 0
      · replace h := h.1 c15_0
        refine v_tableIn o (off := 29) (tgt := 44) dX5_numberOfStrand_15 (by rw [c15_0]; decide) (by rw [c15_0]; decide) (by rw [c15_0]; decide) (by decide) ?_
        refine v_aload_n o 0 dX5_numberOfStrand_44 rfl ?_
        refine v_gfR o lkX5_26 (by decide) (wfTrace_o ha) (wfTrace_r3 ha) dX5_numberOfStrand_45 ?_
        refine v_iload_n o 1 dX5_numberOfStrand_48 rfl ?_
        refine v_cVi o [.int p1] [] (fun sz => metX3_at l G P f sz (a + 7) (wfTrace_t3 ha) p1 _ h) (cwX5_61 o.1.2.2.2.2 (by decide)) ⟨_, _, rfl⟩ (by decide) (wfRow_o (wfTrace_t3 ha)) rfl (Nat.le_of_ble_eq_true rfl) ⟨Nat.zero_le _, Nat.zero_le _⟩ dX5_numberOfStrand_49 rfl (fun r49 g49 h => ?_)
        exact v_iret o rfl hr dX5_numberOfStrand_52 h
      · replace h := h.2 c15_0
        by_cases c15_1 : p2 = 1
        · replace h := h.1 c15_1
          refine v_tableIn o (off := 38) (tgt := 53) dX5_numberOfStrand_15 (by rw [c15_1]; decide) (by rw [c15_1]; decide) (by rw [c15_1]; decide) (by decide) ?_
          refine v_aload_n o 0 dX5_numberOfStrand_53 rfl ?_
          refine v_gfR o lkX5_29 (by decide) (wfTrace_o ha) (wfTrace_r4 ha) dX5_numberOfStrand_54 ?_
          refine v_iload_n o 1 dX5_numberOfStrand_57 rfl ?_
          refine v_cVi o [.int p1] [] (fun sz => metX3_at l G P f sz (a + 9) (wfTrace_t4 ha) p1 _ h) (cwX5_61 o.1.2.2.2.2 (by decide)) ⟨_, _, rfl⟩ (by decide) (wfRow_o (wfTrace_t4 ha)) rfl (Nat.le_of_ble_eq_true rfl) ⟨Nat.zero_le _, Nat.zero_le _⟩ dX5_numberOfStrand_58 rfl (fun r58 g58 h => ?_)
          exact v_iret o rfl hr dX5_numberOfStrand_61 h
        · replace h := h.2 c15_1
          by_cases c15_2 : p2 = 2
          · replace h := h.1 c15_2
            refine v_tableIn o (off := 47) (tgt := 62) dX5_numberOfStrand_15 (by rw [c15_2]; decide) (by rw [c15_2]; decide) (by rw [c15_2]; decide) (by decide) ?_
            refine v_aload_n o 0 dX5_numberOfStrand_62 rfl ?_
            refine v_gfR o lkX5_32 (by decide) (wfTrace_o ha) (wfTrace_r5 ha) dX5_numberOfStrand_63 ?_
            refine v_iload_n o 1 dX5_numberOfStrand_66 rfl ?_
            refine v_cVi o [.int p1] [] (fun sz => metX3_at l G P f sz (a + 11) (wfTrace_t5 ha) p1 _ h) (cwX5_61 o.1.2.2.2.2 (by decide)) ⟨_, _, rfl⟩ (by decide) (wfRow_o (wfTrace_t5 ha)) rfl (Nat.le_of_ble_eq_true rfl) ⟨Nat.zero_le _, Nat.zero_le _⟩ dX5_numberOfStrand_67 rfl (fun r67 g67 h => ?_)
            exact v_iret o rfl hr dX5_numberOfStrand_70 h
          · replace h := h.2 c15_2
            by_cases c15_3 : p2 = 3
            · replace h := h.1 c15_3
              refine v_tableIn o (off := 56) (tgt := 71) dX5_numberOfStrand_15 (by rw [c15_3]; decide) (by rw [c15_3]; decide) (by rw [c15_3]; decide) (by decide) ?_
              refine v_bipush o (v := 30) dX5_numberOfStrand_71 (by decide) ?_
              refine v_aload_n o 0 dX5_numberOfStrand_73 rfl ?_
              refine v_iload_n o 1 dX5_numberOfStrand_74 rfl ?_
              refine v_cVi o [.int p1] [.int 30] (fun sz => metX5_doughUsed l G P f sz a ha p1 _ h) (cwX5_75 o.1.2.2.2.2 (by decide)) ⟨_, _, rfl⟩ (by decide) (wfTrace_o ha) rfl (Nat.le_of_ble_eq_true rfl) ⟨Nat.zero_le _, Nat.zero_le _⟩ dX5_numberOfStrand_75 rfl (fun r75 g75 h => ?_)
              refine v_isub o dX5_numberOfStrand_78 ?_
              exact v_iret o rfl hr dX5_numberOfStrand_79 h
            · replace h := h.2 c15_3
              refine v_tableOut o (tgt := 80) dX5_numberOfStrand_15 (by have q0 := lv_neT c15_0 (a := 0) (by decide); have q1 := lv_neT c15_1 (a := 1) (by decide); have q2 := lv_neT c15_2 (a := 2) (by decide); have q3 := lv_neT c15_3 (a := 3) (by decide); omega) (by decide) ?_
              refine v_aload_n o 0 dX5_numberOfStrand_80 rfl ?_
              refine v_gfR o lkX5_23 (by decide) (wfTrace_o ha) (wfTrace_r2 ha) dX5_numberOfStrand_81 ?_
              refine v_iload_n o 1 dX5_numberOfStrand_84 rfl ?_
              refine v_cVi o [.int p1] [] (fun sz => metX3_at l G P f sz (a + 5) (wfTrace_t2 ha) p1 _ h) (cwX5_61 o.1.2.2.2.2 (by decide)) ⟨_, _, rfl⟩ (by decide) (wfRow_o (wfTrace_t2 ha)) rfl (Nat.le_of_ble_eq_true rfl) ⟨Nat.zero_le _, Nat.zero_le _⟩ dX5_numberOfStrand_85 rfl (fun r85 g85 h => ?_)
              exact v_iret o rfl hr dX5_numberOfStrand_88 h
    · replace h := h.2 c9
      refine v_iconst o (v := (-1)) dX5_numberOfStrand_12 (by decide) ?_
      exact v_iret o rfl hr dX5_numberOfStrand_13 h
abbrev kX5_numberOfStrand := @vX5_numberOfStrand
abbrev metX5_numberOfStrand := @mX5_numberOfStrand

def bX2_hashOfParts_5 (P : Sk) (a : Nat) (p1 : Int64) (L5 : St → Int64 → Int32 → Prop) (L20 : St → Int64 → Int32 → Int32 → Prop) (L57 : St → Int64 → Int32 → Prop) (L95 : St → Int64 → Int32 → Prop) (L110 : St → Int64 → Int32 → Int32 → Prop) (K : Int64 → St → Prop) (f : St) (x3 : Int64) (x5 : Int32) : Prop :=
  kX6_size P f (a + 1) (fun r11 g11 => (r11 ≤ x5 → L57 g11 x3 0) ∧ (¬ r11 ≤ x5 → L20 g11 x3 x5 0))
def bX2_hashOfParts_20 (P : Sk) (a : Nat) (p1 : Int64) (L5 : St → Int64 → Int32 → Prop) (L20 : St → Int64 → Int32 → Int32 → Prop) (L57 : St → Int64 → Int32 → Prop) (L95 : St → Int64 → Int32 → Prop) (L110 : St → Int64 → Int32 → Int32 → Prop) (K : Int64 → St → Prop) (f : St) (x3 : Int64) (x5 : Int32) (x6 : Int32) : Prop :=
  (3 < x6 → ∀ x5_48 : Int32, x5_48 = x5 + 1 → L5 f x3 x5_48) ∧ (¬ 3 < x6 → kX2_numberOfCrossing P f a x5 x6 (fun r36 g36 => ∀ x3_41 : Int64, x3_41 = (31 * x3) + (r36.toInt64) → ∀ x6_42 : Int32, x6_42 = x6 + 1 → L20 g36 x3_41 x5 x6_42))
def bX2_hashOfParts_57 (P : Sk) (a : Nat) (p1 : Int64) (L5 : St → Int64 → Int32 → Prop) (L20 : St → Int64 → Int32 → Int32 → Prop) (L57 : St → Int64 → Int32 → Prop) (L95 : St → Int64 → Int32 → Prop) (L110 : St → Int64 → Int32 → Int32 → Prop) (K : Int64 → St → Prop) (f : St) (x3 : Int64) (x5 : Int32) : Prop :=
  kX6_size P f (a + 4) (fun r63 g63 => (r63 ≤ x5 → L95 g63 x3 0) ∧ (¬ r63 ≤ x5 → kX6_codeAt P g63 (a + 4) x5 (fun r80 g80 => ∀ x3_85 : Int64, x3_85 = (31 * x3) + (r80.toInt64) → ∀ x5_86 : Int32, x5_86 = x5 + 1 → L57 g80 x3_85 x5_86)))
def bX2_hashOfParts_95 (P : Sk) (a : Nat) (p1 : Int64) (L5 : St → Int64 → Int32 → Prop) (L20 : St → Int64 → Int32 → Int32 → Prop) (L57 : St → Int64 → Int32 → Prop) (L95 : St → Int64 → Int32 → Prop) (L110 : St → Int64 → Int32 → Int32 → Prop) (K : Int64 → St → Prop) (f : St) (x3 : Int64) (x5 : Int32) : Prop :=
  kX6_strands P f (a + 1) (fun r101 g101 => (r101 ≤ x5 → K x3 g101) ∧ (¬ r101 ≤ x5 → L110 g101 x3 x5 0))
def bX2_hashOfParts_110 (P : Sk) (a : Nat) (p1 : Int64) (L5 : St → Int64 → Int32 → Prop) (L20 : St → Int64 → Int32 → Int32 → Prop) (L57 : St → Int64 → Int32 → Prop) (L95 : St → Int64 → Int32 → Prop) (L110 : St → Int64 → Int32 → Int32 → Prop) (K : Int64 → St → Prop) (f : St) (x3 : Int64) (x5 : Int32) (x6 : Int32) : Prop :=
  (4 < x6 → ∀ x5_141 : Int32, x5_141 = x5 + 1 → L95 f x3 x5_141) ∧ (¬ 4 < x6 → kX5_numberOfStrand P f (a + 7) x5 x6 (fun r129 g129 => ∀ x3_134 : Int64, x3_134 = (31 * x3) + (r129.toInt64) → ∀ x6_135 : Int32, x6_135 = x6 + 1 → L110 g129 x3_134 x5 x6_135))
def vX2_hashOfParts (P : Sk) (f : St) (a : Nat) (p1 : Int64) (L5 : St → Int64 → Int32 → Prop) (L20 : St → Int64 → Int32 → Int32 → Prop) (L57 : St → Int64 → Int32 → Prop) (L95 : St → Int64 → Int32 → Prop) (L110 : St → Int64 → Int32 → Int32 → Prop) (K : Int64 → St → Prop) : Prop :=
  L5 f p1 0
set_option maxRecDepth 20000 in
set_option maxHeartbeats 4000000 in
theorem mX2_hashOfParts (l : Launch) (G : Gl) (P : Sk) (f : St) (sz : Nat) (a : Nat) (ha : IsLoaf P a) (p1 : Int64) (K : Int64 → St → Prop) (I5 : St → Int64 → Int32 → Prop) (μ5 : St → Int64 → Int32 → Nat) (I20 : St → Int64 → Int32 → Int32 → Prop) (μ20 : St → Int64 → Int32 → Int32 → Nat) (I57 : St → Int64 → Int32 → Prop) (μ57 : St → Int64 → Int32 → Nat) (I95 : St → Int64 → Int32 → Prop) (μ95 : St → Int64 → Int32 → Nat) (I110 : St → Int64 → Int32 → Int32 → Prop) (μ110 : St → Int64 → Int32 → Int32 → Nat) 
  (h : vX2_hashOfParts P f a p1 I5 I20 I57 I95 I110 K)
  (h5 : ∀ (g : St) (x3 : Int64) (x5 : Int32) , I5 g x3 x5 → bX2_hashOfParts_5 P a p1 (fun g' z0 z1 => I5 g' z0 z1 ∧ μ5 g' z0 z1 < μ5 g x3 x5) (fun g' z0 z1 z2 => I20 g' z0 z1 z2 ∧ μ20 g' z0 z1 z2 < μ5 g x3 x5) (fun g' z0 z1 => I57 g' z0 z1 ∧ μ57 g' z0 z1 < μ5 g x3 x5) (fun g' z0 z1 => I95 g' z0 z1 ∧ μ95 g' z0 z1 < μ5 g x3 x5) (fun g' z0 z1 z2 => I110 g' z0 z1 z2 ∧ μ110 g' z0 z1 z2 < μ5 g x3 x5) K g x3 x5)
  (h20 : ∀ (g : St) (x3 : Int64) (x5 : Int32) (x6 : Int32) , I20 g x3 x5 x6 → bX2_hashOfParts_20 P a p1 (fun g' z0 z1 => I5 g' z0 z1 ∧ μ5 g' z0 z1 < μ20 g x3 x5 x6) (fun g' z0 z1 z2 => I20 g' z0 z1 z2 ∧ μ20 g' z0 z1 z2 < μ20 g x3 x5 x6) (fun g' z0 z1 => I57 g' z0 z1 ∧ μ57 g' z0 z1 < μ20 g x3 x5 x6) (fun g' z0 z1 => I95 g' z0 z1 ∧ μ95 g' z0 z1 < μ20 g x3 x5 x6) (fun g' z0 z1 z2 => I110 g' z0 z1 z2 ∧ μ110 g' z0 z1 z2 < μ20 g x3 x5 x6) K g x3 x5 x6)
  (h57 : ∀ (g : St) (x3 : Int64) (x5 : Int32) , I57 g x3 x5 → bX2_hashOfParts_57 P a p1 (fun g' z0 z1 => I5 g' z0 z1 ∧ μ5 g' z0 z1 < μ57 g x3 x5) (fun g' z0 z1 z2 => I20 g' z0 z1 z2 ∧ μ20 g' z0 z1 z2 < μ57 g x3 x5) (fun g' z0 z1 => I57 g' z0 z1 ∧ μ57 g' z0 z1 < μ57 g x3 x5) (fun g' z0 z1 => I95 g' z0 z1 ∧ μ95 g' z0 z1 < μ57 g x3 x5) (fun g' z0 z1 z2 => I110 g' z0 z1 z2 ∧ μ110 g' z0 z1 z2 < μ57 g x3 x5) K g x3 x5)
  (h95 : ∀ (g : St) (x3 : Int64) (x5 : Int32) , I95 g x3 x5 → bX2_hashOfParts_95 P a p1 (fun g' z0 z1 => I5 g' z0 z1 ∧ μ5 g' z0 z1 < μ95 g x3 x5) (fun g' z0 z1 z2 => I20 g' z0 z1 z2 ∧ μ20 g' z0 z1 z2 < μ95 g x3 x5) (fun g' z0 z1 => I57 g' z0 z1 ∧ μ57 g' z0 z1 < μ95 g x3 x5) (fun g' z0 z1 => I95 g' z0 z1 ∧ μ95 g' z0 z1 < μ95 g x3 x5) (fun g' z0 z1 z2 => I110 g' z0 z1 z2 ∧ μ110 g' z0 z1 z2 < μ95 g x3 x5) K g x3 x5)
  (h110 : ∀ (g : St) (x3 : Int64) (x5 : Int32) (x6 : Int32) , I110 g x3 x5 x6 → bX2_hashOfParts_110 P a p1 (fun g' z0 z1 => I5 g' z0 z1 ∧ μ5 g' z0 z1 < μ110 g x3 x5 x6) (fun g' z0 z1 z2 => I20 g' z0 z1 z2 ∧ μ20 g' z0 z1 z2 < μ110 g x3 x5 x6) (fun g' z0 z1 => I57 g' z0 z1 ∧ μ57 g' z0 z1 < μ110 g x3 x5 x6) (fun g' z0 z1 => I95 g' z0 z1 ∧ μ95 g' z0 z1 < μ110 g x3 x5 x6) (fun g' z0 z1 z2 => I110 g' z0 z1 z2 ∧ μ110 g' z0 z1 z2 < μ110 g x3 x5 x6) K g x3 x5 x6) :
  Met l yX2_hashOfParts (wU yX2_hashOfParts cX2_hashOfParts 7 (some .long)) rmX2_hashOfParts (PcW G P f sz [.ref a, .long p1]) (QcL G P sz K) 0 0 (frA P sz) := by
  refine v_met (own := RX2) [.ref a, .long p1] (by decide +kernel) rfl (Nat.le_of_ble_eq_true rfl) (fun p e s m args below meth c hsz o hr hnm => ?_)
  refine v_lv (lv2 := [(0, .ref a), (1, .long p1)]) rfl ?_
  have main : ∀ n : Nat, (∀ (g : St) (x3 : Int64) (x5 : Int32) , I5 g x3 x5 → μ5 g x3 x5 < n → V p l e rmX2_hashOfParts s m args below meth c 7 G (frA P sz) (MQ below (QcL G P sz K) args s 0 0 (frA P sz)) 0 0 P [(0, .ref a), (1, .long p1), (3, .long x3), (5, .int x5)] [] 5 g) ∧ (∀ (g : St) (x3 : Int64) (x5 : Int32) (x6 : Int32) , I20 g x3 x5 x6 → μ20 g x3 x5 x6 < n → V p l e rmX2_hashOfParts s m args below meth c 7 G (frA P sz) (MQ below (QcL G P sz K) args s 0 0 (frA P sz)) 0 0 P [(0, .ref a), (1, .long p1), (3, .long x3), (5, .int x5), (6, .int x6)] [] 20 g) ∧ (∀ (g : St) (x3 : Int64) (x5 : Int32) , I57 g x3 x5 → μ57 g x3 x5 < n → V p l e rmX2_hashOfParts s m args below meth c 7 G (frA P sz) (MQ below (QcL G P sz K) args s 0 0 (frA P sz)) 0 0 P [(0, .ref a), (1, .long p1), (3, .long x3), (5, .int x5)] [] 57 g) ∧ (∀ (g : St) (x3 : Int64) (x5 : Int32) , I95 g x3 x5 → μ95 g x3 x5 < n → V p l e rmX2_hashOfParts s m args below meth c 7 G (frA P sz) (MQ below (QcL G P sz K) args s 0 0 (frA P sz)) 0 0 P [(0, .ref a), (1, .long p1), (3, .long x3), (5, .int x5)] [] 95 g) ∧ (∀ (g : St) (x3 : Int64) (x5 : Int32) (x6 : Int32) , I110 g x3 x5 x6 → μ110 g x3 x5 x6 < n → V p l e rmX2_hashOfParts s m args below meth c 7 G (frA P sz) (MQ below (QcL G P sz K) args s 0 0 (frA P sz)) 0 0 P [(0, .ref a), (1, .long p1), (3, .long x3), (5, .int x5), (6, .int x6)] [] 110 g) := by
    intro n
    induction n with
    | zero => exact ⟨fun g x3 x5 hI hm => absurd hm (Nat.not_lt_zero _), fun g x3 x5 x6 hI hm => absurd hm (Nat.not_lt_zero _), fun g x3 x5 hI hm => absurd hm (Nat.not_lt_zero _), fun g x3 x5 hI hm => absurd hm (Nat.not_lt_zero _), fun g x3 x5 x6 hI hm => absurd hm (Nat.not_lt_zero _)⟩
    | succ n ih =>
      refine ⟨?_, ?_, ?_, ?_, ?_⟩
      · intro g x3 x5 hI hm
        have h := h5 g x3 x5 hI
        clear hI
        unfold bX2_hashOfParts_5 at h
        refine v_iload o 3 dX2_hashOfParts_5 rfl ?_
        refine v_aload_n o 0 dX2_hashOfParts_7 rfl ?_
        refine v_gfR o lkX2_12 (by decide) (wfLoaf_o ha) (wfLoaf_r0 ha) dX2_hashOfParts_8 ?_
        refine v_cVi o [] [.int x5] (fun sz => metX6_size l G P g sz (a + 1) (wfLoaf_t0 ha) _ h) (cwX2_45 o.1.2.2.2.2 (by decide)) ⟨_, _, rfl⟩ (by decide) (wfWord_o (wfLoaf_t0 ha)) rfl (Nat.le_of_ble_eq_true rfl) ⟨Nat.zero_le _, Nat.zero_le _⟩ dX2_hashOfParts_11 rfl (fun r11 g11 h => ?_)
        refine v_icmp_ge o (tgt := 54) dX2_hashOfParts_14 (by decide) (fun c14 => ?_) (fun c14 => ?_)
        · replace h := h.1 c14
          refine v_iconst o (v := 0) dX2_hashOfParts_54 (by decide) ?_
          refine v_istore o (lv' := [(5, .int 0), (0, .ref a), (1, .long p1), (3, .long x3)]) dX2_hashOfParts_55 (by decide) rfl ?_
          refine v_sub [1, 2, 3, 0] (lv2 := [(0, .ref a), (1, .long p1), (3, .long x3), (5, .int 0)]) rfl ?_
          exact ih.2.2.1 g11 x3 0  h.1 (by have := h.2; omega)
        · replace h := h.2 c14
          refine v_iconst o (v := 0) dX2_hashOfParts_17 (by decide) ?_
          refine v_istore o (lv' := [(6, .int 0), (0, .ref a), (1, .long p1), (3, .long x3), (5, .int x5)]) dX2_hashOfParts_18 (by decide) rfl ?_
          refine v_sub [1, 2, 3, 4, 0] (lv2 := [(0, .ref a), (1, .long p1), (3, .long x3), (5, .int x5), (6, .int 0)]) rfl ?_
          exact ih.2.1 g11 x3 x5 0  h.1 (by have := h.2; omega)
      · intro g x3 x5 x6 hI hm
        have h := h20 g x3 x5 x6 hI
        clear hI
        unfold bX2_hashOfParts_20 at h
        refine v_iload o 4 dX2_hashOfParts_20 rfl ?_
        refine v_iconst o (v := 3) dX2_hashOfParts_22 (by decide) ?_
        refine v_icmp_gt o (tgt := 48) dX2_hashOfParts_23 (by decide) (fun c23 => ?_) (fun c23 => ?_)
        · replace h := h.1 c23
          obtain ⟨x5_48, ex5_48⟩ : ∃ y : Int32, y = x5 + 1 := ⟨_, rfl⟩
          replace h := h x5_48 ex5_48
          refine v_iinc o (v := x5_48) (lv' := [(5, .int x5_48), (0, .ref a), (1, .long p1), (3, .long x3), (6, .int x6)]) 3 dX2_hashOfParts_48 rfl (by rw [ex5_48]; rfl) (by decide) rfl ?_
          refine v_goto o (tgt := 5) dX2_hashOfParts_51 (by decide) ?_
          refine v_sub [1, 2, 3, 0] (lv2 := [(0, .ref a), (1, .long p1), (3, .long x3), (5, .int x5_48)]) rfl ?_
          exact ih.1 g x3 x5_48  h.1 (by have := h.2; omega)
        · replace h := h.2 c23
          refine v_ldc2 o (v := 31) dX2_hashOfParts_26 (mU 562 (by decide +kernel) rfl) ?_
          refine v_lload_n o 2 dX2_hashOfParts_29 rfl ?_
          refine v_lmul o dX2_hashOfParts_30 ?_
          refine v_aload_n o 0 dX2_hashOfParts_31 rfl ?_
          refine v_iload o 3 dX2_hashOfParts_32 rfl ?_
          refine v_iload o 4 dX2_hashOfParts_34 rfl ?_
          refine v_cVi o [.int x5, .int x6] [.long (31 * x3)] (fun sz => metX2_numberOfCrossing l G P g sz a ha x5 x6 _ h) (cwX2_68 o.1.2.2.2.2 (by decide)) ⟨_, _, rfl⟩ (by decide) (wfLoaf_o ha) rfl (Nat.le_of_ble_eq_true rfl) ⟨Nat.zero_le _, Nat.zero_le _⟩ dX2_hashOfParts_36 rfl (fun r36 g36 h => ?_)
          refine v_i2l o dX2_hashOfParts_39 ?_
          refine v_ladd o dX2_hashOfParts_40 ?_
          refine v_topl (fun x3_41 ex3_41 => ?_)
          replace h := h x3_41 ex3_41
          refine v_lstore_n o (lv' := [(3, .long x3_41), (0, .ref a), (1, .long p1), (5, .int x5), (6, .int x6)]) dX2_hashOfParts_41 rfl (by decide) rfl ?_
          obtain ⟨x6_42, ex6_42⟩ : ∃ y : Int32, y = x6 + 1 := ⟨_, rfl⟩
          replace h := h x6_42 ex6_42
          refine v_iinc o (v := x6_42) (lv' := [(6, .int x6_42), (3, .long x3_41), (0, .ref a), (1, .long p1), (5, .int x5)]) 4 dX2_hashOfParts_42 rfl (by rw [ex6_42]; rfl) (by decide) rfl ?_
          refine v_goto o (tgt := 20) dX2_hashOfParts_45 (by decide) ?_
          refine v_sub [2, 3, 1, 4, 0] (lv2 := [(0, .ref a), (1, .long p1), (3, .long x3_41), (5, .int x5), (6, .int x6_42)]) rfl ?_
          exact ih.2.1 g36 x3_41 x5 x6_42  h.1 (by have := h.2; omega)
      · intro g x3 x5 hI hm
        have h := h57 g x3 x5 hI
        clear hI
        unfold bX2_hashOfParts_57 at h
        refine v_iload o 3 dX2_hashOfParts_57 rfl ?_
        refine v_aload_n o 0 dX2_hashOfParts_59 rfl ?_
        refine v_gfR o lkX2_18 (by decide) (wfLoaf_o ha) (wfLoaf_r1 ha) dX2_hashOfParts_60 ?_
        refine v_cVi o [] [.int x5] (fun sz => metX6_size l G P g sz (a + 4) (wfLoaf_t1 ha) _ h) (cwX2_45 o.1.2.2.2.2 (by decide)) ⟨_, _, rfl⟩ (by decide) (wfWord_o (wfLoaf_t1 ha)) rfl (Nat.le_of_ble_eq_true rfl) ⟨Nat.zero_le _, Nat.zero_le _⟩ dX2_hashOfParts_63 rfl (fun r63 g63 h => ?_)
        refine v_icmp_ge o (tgt := 92) dX2_hashOfParts_66 (by decide) (fun c66 => ?_) (fun c66 => ?_)
        · replace h := h.1 c66
          refine v_iconst o (v := 0) dX2_hashOfParts_92 (by decide) ?_
          refine v_istore o (lv' := [(5, .int 0), (0, .ref a), (1, .long p1), (3, .long x3)]) dX2_hashOfParts_93 (by decide) rfl ?_
          refine v_sub [1, 2, 3, 0] (lv2 := [(0, .ref a), (1, .long p1), (3, .long x3), (5, .int 0)]) rfl ?_
          exact ih.2.2.2.1 g63 x3 0  h.1 (by have := h.2; omega)
        · replace h := h.2 c66
          refine v_ldc2 o (v := 31) dX2_hashOfParts_69 (mU 562 (by decide +kernel) rfl) ?_
          refine v_lload_n o 2 dX2_hashOfParts_72 rfl ?_
          refine v_lmul o dX2_hashOfParts_73 ?_
          refine v_aload_n o 0 dX2_hashOfParts_74 rfl ?_
          refine v_gfR o lkX2_18 (by decide) (wfLoaf_o ha) (wfLoaf_r1 ha) dX2_hashOfParts_75 ?_
          refine v_iload o 3 dX2_hashOfParts_78 rfl ?_
          refine v_cVi o [.int x5] [.long (31 * x3)] (fun sz => metX6_codeAt l G P g63 sz (a + 4) (wfLoaf_t1 ha) x5 _ h) (cwX2_49 o.1.2.2.2.2 (by decide)) ⟨_, _, rfl⟩ (by decide) (wfWord_o (wfLoaf_t1 ha)) rfl (Nat.le_of_ble_eq_true rfl) ⟨Nat.zero_le _, Nat.zero_le _⟩ dX2_hashOfParts_80 rfl (fun r80 g80 h => ?_)
          refine v_i2l o dX2_hashOfParts_83 ?_
          refine v_ladd o dX2_hashOfParts_84 ?_
          refine v_topl (fun x3_85 ex3_85 => ?_)
          replace h := h x3_85 ex3_85
          refine v_lstore_n o (lv' := [(3, .long x3_85), (0, .ref a), (1, .long p1), (5, .int x5)]) dX2_hashOfParts_85 rfl (by decide) rfl ?_
          obtain ⟨x5_86, ex5_86⟩ : ∃ y : Int32, y = x5 + 1 := ⟨_, rfl⟩
          replace h := h x5_86 ex5_86
          refine v_iinc o (v := x5_86) (lv' := [(5, .int x5_86), (3, .long x3_85), (0, .ref a), (1, .long p1)]) 3 dX2_hashOfParts_86 rfl (by rw [ex5_86]; rfl) (by decide) rfl ?_
          refine v_goto o (tgt := 57) dX2_hashOfParts_89 (by decide) ?_
          refine v_sub [2, 3, 1, 0] (lv2 := [(0, .ref a), (1, .long p1), (3, .long x3_85), (5, .int x5_86)]) rfl ?_
          exact ih.2.2.1 g80 x3_85 x5_86  h.1 (by have := h.2; omega)
      · intro g x3 x5 hI hm
        have h := h95 g x3 x5 hI
        clear hI
        unfold bX2_hashOfParts_95 at h
        refine v_iload o 3 dX2_hashOfParts_95 rfl ?_
        refine v_aload_n o 0 dX2_hashOfParts_97 rfl ?_
        refine v_gfR o lkX2_12 (by decide) (wfLoaf_o ha) (wfLoaf_r0 ha) dX2_hashOfParts_98 ?_
        refine v_cVi o [] [.int x5] (fun sz => metX6_strands l G P g sz (a + 1) (wfLoaf_t0 ha) _ h) (cwX2_72 o.1.2.2.2.2 (by decide)) ⟨_, _, rfl⟩ (by decide) (wfWord_o (wfLoaf_t0 ha)) rfl (Nat.le_of_ble_eq_true rfl) ⟨Nat.zero_le _, Nat.zero_le _⟩ dX2_hashOfParts_101 rfl (fun r101 g101 h => ?_)
        refine v_icmp_ge o (tgt := 147) dX2_hashOfParts_104 (by decide) (fun c104 => ?_) (fun c104 => ?_)
        · replace h := h.1 c104
          refine v_lload_n o 2 dX2_hashOfParts_147 rfl ?_
          exact v_lret o rfl hr dX2_hashOfParts_148 h
        · replace h := h.2 c104
          refine v_iconst o (v := 0) dX2_hashOfParts_107 (by decide) ?_
          refine v_istore o (lv' := [(6, .int 0), (0, .ref a), (1, .long p1), (3, .long x3), (5, .int x5)]) dX2_hashOfParts_108 (by decide) rfl ?_
          refine v_sub [1, 2, 3, 4, 0] (lv2 := [(0, .ref a), (1, .long p1), (3, .long x3), (5, .int x5), (6, .int 0)]) rfl ?_
          exact ih.2.2.2.2 g101 x3 x5 0  h.1 (by have := h.2; omega)
      · intro g x3 x5 x6 hI hm
        have h := h110 g x3 x5 x6 hI
        clear hI
        unfold bX2_hashOfParts_110 at h
        refine v_iload o 4 dX2_hashOfParts_110 rfl ?_
        refine v_iconst o (v := 4) dX2_hashOfParts_112 (by decide) ?_
        refine v_icmp_gt o (tgt := 141) dX2_hashOfParts_113 (by decide) (fun c113 => ?_) (fun c113 => ?_)
        · replace h := h.1 c113
          obtain ⟨x5_141, ex5_141⟩ : ∃ y : Int32, y = x5 + 1 := ⟨_, rfl⟩
          replace h := h x5_141 ex5_141
          refine v_iinc o (v := x5_141) (lv' := [(5, .int x5_141), (0, .ref a), (1, .long p1), (3, .long x3), (6, .int x6)]) 3 dX2_hashOfParts_141 rfl (by rw [ex5_141]; rfl) (by decide) rfl ?_
          refine v_goto o (tgt := 95) dX2_hashOfParts_144 (by decide) ?_
          refine v_sub [1, 2, 3, 0] (lv2 := [(0, .ref a), (1, .long p1), (3, .long x3), (5, .int x5_141)]) rfl ?_
          exact ih.2.2.2.1 g x3 x5_141  h.1 (by have := h.2; omega)
        · replace h := h.2 c113
          refine v_ldc2 o (v := 31) dX2_hashOfParts_116 (mU 562 (by decide +kernel) rfl) ?_
          refine v_lload_n o 2 dX2_hashOfParts_119 rfl ?_
          refine v_lmul o dX2_hashOfParts_120 ?_
          refine v_aload_n o 0 dX2_hashOfParts_121 rfl ?_
          refine v_gfR o lkX2_24 (by decide) (wfLoaf_o ha) (wfLoaf_r2 ha) dX2_hashOfParts_122 ?_
          refine v_iload o 3 dX2_hashOfParts_125 rfl ?_
          refine v_iload o 4 dX2_hashOfParts_127 rfl ?_
          refine v_cVi o [.int x5, .int x6] [.long (31 * x3)] (fun sz => metX5_numberOfStrand l G P g sz (a + 7) (wfLoaf_t2 ha) x5 x6 _ h) (cwX2_75 o.1.2.2.2.2 (by decide)) ⟨_, _, rfl⟩ (by decide) (wfTrace_o (wfLoaf_t2 ha)) rfl (Nat.le_of_ble_eq_true rfl) ⟨Nat.zero_le _, Nat.zero_le _⟩ dX2_hashOfParts_129 rfl (fun r129 g129 h => ?_)
          refine v_i2l o dX2_hashOfParts_132 ?_
          refine v_ladd o dX2_hashOfParts_133 ?_
          refine v_topl (fun x3_134 ex3_134 => ?_)
          replace h := h x3_134 ex3_134
          refine v_lstore_n o (lv' := [(3, .long x3_134), (0, .ref a), (1, .long p1), (5, .int x5), (6, .int x6)]) dX2_hashOfParts_134 rfl (by decide) rfl ?_
          obtain ⟨x6_135, ex6_135⟩ : ∃ y : Int32, y = x6 + 1 := ⟨_, rfl⟩
          replace h := h x6_135 ex6_135
          refine v_iinc o (v := x6_135) (lv' := [(6, .int x6_135), (3, .long x3_134), (0, .ref a), (1, .long p1), (5, .int x5)]) 4 dX2_hashOfParts_135 rfl (by rw [ex6_135]; rfl) (by decide) rfl ?_
          refine v_goto o (tgt := 110) dX2_hashOfParts_138 (by decide) ?_
          refine v_sub [2, 3, 1, 4, 0] (lv2 := [(0, .ref a), (1, .long p1), (3, .long x3_134), (5, .int x5), (6, .int x6_135)]) rfl ?_
          exact ih.2.2.2.2 g129 x3_134 x5 x6_135  h.1 (by have := h.2; omega)
  unfold vX2_hashOfParts at h
  refine v_lload_n o 1 dX2_hashOfParts_0 rfl ?_
  refine v_lstore_n o (lv' := [(3, .long p1), (0, .ref a), (1, .long p1)]) dX2_hashOfParts_1 rfl (by decide) rfl ?_
  refine v_iconst o (v := 0) dX2_hashOfParts_2 (by decide) ?_
  refine v_istore o (lv' := [(5, .int 0), (3, .long p1), (0, .ref a), (1, .long p1)]) dX2_hashOfParts_3 (by decide) rfl ?_
  refine v_sub [2, 3, 1, 0] (lv2 := [(0, .ref a), (1, .long p1), (3, .long p1), (5, .int 0)]) rfl ?_
  exact (main (μ5 f p1 0 + 1)).1 f p1 0  h (Nat.lt_succ_self _)
def kX2_hashOfParts (P : Sk) (f : St) (a : Nat) (p1 : Int64) (K : Int64 → St → Prop) : Prop := False
theorem metX2_hashOfParts (l : Launch) (G : Gl) (P : Sk) (f : St) (sz : Nat) (a : Nat) (ha : IsLoaf P a) (p1 : Int64) (K : Int64 → St → Prop) (h : kX2_hashOfParts P f a p1 K) : Met l yX2_hashOfParts (wU yX2_hashOfParts cX2_hashOfParts 7 (some .long)) rmX2_hashOfParts (PcW G P f sz [.ref a, .long p1]) (QcL G P sz K) 0 0 (frA P sz) := sorry

def vX4_size (P : Sk) (f : St) (a : Nat) (K : Int32 → St → Prop) : Prop :=
  K (f a 1) f
set_option maxRecDepth 20000 in
set_option maxHeartbeats 4000000 in
theorem mX4_size (l : Launch) (G : Gl) (P : Sk) (f : St) (sz : Nat) (a : Nat) (ha : IsText P a) (K : Int32 → St → Prop) (h : vX4_size P f a K)  :
  Met l yX4_size (wU yX4_size cX4_size 1 (some .int)) rmX4_size (PcW G P f sz [.ref a]) (QcI G P sz K) 0 0 (frA P sz) := by
  refine v_met (own := RX4) [.ref a] (by decide +kernel) rfl (Nat.le_of_ble_eq_true rfl) (fun p e s m args below meth c hsz o hr hnm => ?_)
  refine v_lv (lv2 := [(0, .ref a)]) rfl ?_
  unfold vX4_size at h
  refine v_aload_n o 0 dX4_size_0 rfl ?_
  refine v_gfI o lkX4_20 (by decide) (wfText_o ha) dX4_size_1 ?_
  exact v_iret o rfl hr dX4_size_4 h
abbrev kX4_size := @vX4_size
abbrev metX4_size := @mX4_size

def vX4_signAt (P : Sk) (f : St) (a : Nat) (p1 : Int32) (K : Int32 → St → Prop) : Prop :=
  kX3_at P f (a + 1) p1 (fun r5 g5 => K r5 g5)
set_option maxRecDepth 20000 in
set_option maxHeartbeats 4000000 in
theorem mX4_signAt (l : Launch) (G : Gl) (P : Sk) (f : St) (sz : Nat) (a : Nat) (ha : IsText P a) (p1 : Int32) (K : Int32 → St → Prop) (h : vX4_signAt P f a p1 K)  :
  Met l yX4_signAt (wU yX4_signAt cX4_signAt 2 (some .int)) rmX4_signAt (PcW G P f sz [.ref a, .int p1]) (QcI G P sz K) 0 0 (frA P sz) := by
  refine v_met (own := RX4) [.ref a, .int p1] (by decide +kernel) rfl (Nat.le_of_ble_eq_true rfl) (fun p e s m args below meth c hsz o hr hnm => ?_)
  refine v_lv (lv2 := [(0, .ref a), (1, .int p1)]) rfl ?_
  unfold vX4_signAt at h
  refine v_aload_n o 0 dX4_signAt_0 rfl ?_
  refine v_gfR o lkX4_14 (by decide) (wfText_o ha) (wfText_r0 ha) dX4_signAt_1 ?_
  refine v_iload_n o 1 dX4_signAt_4 rfl ?_
  refine v_cVi o [.int p1] [] (fun sz => metX3_at l G P f sz (a + 1) (wfText_t0 ha) p1 _ h) (cwX4_24 o.1.2.2.2.2 (by decide)) ⟨_, _, rfl⟩ (by decide) (wfRow_o (wfText_t0 ha)) rfl (Nat.le_of_ble_eq_true rfl) ⟨Nat.zero_le _, Nat.zero_le _⟩ dX4_signAt_5 rfl (fun r5 g5 h => ?_)
  exact v_iret o rfl hr dX4_signAt_8 h
abbrev kX4_signAt := @vX4_signAt
abbrev metX4_signAt := @mX4_signAt

def vX4_addSign (P : Sk) (f : St) (a : Nat) (p1 : Int32) (K : St → Prop) : Prop :=
  (60 ≤ f a 1 → K f) ∧ (¬ 60 ≤ f a 1 → kX3_put P f (a + 1) (f a 1) p1 (fun g18 => ∀ g28 : St, g28 = setf g18 a 1 ((g18 a 1) + 1) → K g28))
set_option maxRecDepth 20000 in
set_option maxHeartbeats 4000000 in
theorem mX4_addSign (l : Launch) (G : Gl) (P : Sk) (f : St) (sz : Nat) (a : Nat) (ha : IsText P a) (p1 : Int32) (K : St → Prop) (h : vX4_addSign P f a p1 K)  :
  Met l yX4_addSign (wU yX4_addSign cX4_addSign 2 none) rmX4_addSign (PcW G P f sz [.ref a, .int p1]) (QcV G P sz K) 0 0 (frA P sz) := by
  refine v_met (own := RX4) [.ref a, .int p1] (by decide +kernel) rfl (Nat.le_of_ble_eq_true rfl) (fun p e s m args below meth c hsz o hr hnm => ?_)
  refine v_lv (lv2 := [(0, .ref a), (1, .int p1)]) rfl ?_
  unfold vX4_addSign at h
  refine v_aload_n o 0 dX4_addSign_0 rfl ?_
  refine v_gfI o lkX4_20 (by decide) (wfText_o ha) dX4_addSign_1 ?_
  refine v_bipush o (v := 60) dX4_addSign_4 (by decide) ?_
  refine v_icmp_ge o (tgt := 31) dX4_addSign_6 (by decide) (fun c6 => ?_) (fun c6 => ?_)
  · replace h := h.1 c6
    exact v_vret o rfl hr dX4_addSign_31 h
  · replace h := h.2 c6
    refine v_aload_n o 0 dX4_addSign_9 rfl ?_
    refine v_gfR o lkX4_14 (by decide) (wfText_o ha) (wfText_r0 ha) dX4_addSign_10 ?_
    refine v_aload_n o 0 dX4_addSign_13 rfl ?_
    refine v_gfI o lkX4_20 (by decide) (wfText_o ha) dX4_addSign_14 ?_
    refine v_iload_n o 1 dX4_addSign_17 rfl ?_
    refine v_cVv o [.int (f a 1), .int p1] [] (fun sz => metX3_put l G P f sz (a + 1) (wfText_t0 ha) (f a 1) p1 _ h) (cwX4_28 o.1.2.2.2.2 (by decide)) ⟨_, _, rfl⟩ (by decide) (wfRow_o (wfText_t0 ha)) rfl (Nat.le_of_ble_eq_true rfl) ⟨Nat.zero_le _, Nat.zero_le _⟩ dX4_addSign_18 rfl (fun g18 h => ?_)
    refine v_aload_n o 0 dX4_addSign_21 rfl ?_
    refine v_dup o dX4_addSign_22 rfl ?_
    refine v_gfI o lkX4_20 (by decide) (wfText_o ha) dX4_addSign_23 ?_
    refine v_iconst o (v := 1) dX4_addSign_26 (by decide) ?_
    refine v_iadd o dX4_addSign_27 ?_
    refine v_pf o lpX4_20 (wfText_o ha) ⟨rfl, rfl⟩ dX4_addSign_28 ?_
    refine v_nmf (fun g28 eg28 => ?_)
    replace h := h g28 eg28
    exact v_vret o rfl hr dX4_addSign_31 h
abbrev kX4_addSign := @vX4_addSign
abbrev metX4_addSign := @mX4_addSign

def vX4_clear (P : Sk) (f : St) (a : Nat) (K : St → Prop) : Prop :=
  ∀ g2 : St, g2 = setf f a 1 0 → K g2
set_option maxRecDepth 20000 in
set_option maxHeartbeats 4000000 in
theorem mX4_clear (l : Launch) (G : Gl) (P : Sk) (f : St) (sz : Nat) (a : Nat) (ha : IsText P a) (K : St → Prop) (h : vX4_clear P f a K)  :
  Met l yX4_clear (wU yX4_clear cX4_clear 1 none) rmX4_clear (PcW G P f sz [.ref a]) (QcV G P sz K) 0 0 (frA P sz) := by
  refine v_met (own := RX4) [.ref a] (by decide +kernel) rfl (Nat.le_of_ble_eq_true rfl) (fun p e s m args below meth c hsz o hr hnm => ?_)
  refine v_lv (lv2 := [(0, .ref a)]) rfl ?_
  unfold vX4_clear at h
  refine v_aload_n o 0 dX4_clear_0 rfl ?_
  refine v_iconst o (v := 0) dX4_clear_1 (by decide) ?_
  refine v_pf o lpX4_20 (wfText_o ha) ⟨rfl, rfl⟩ dX4_clear_2 ?_
  refine v_nmf (fun g2 eg2 => ?_)
  replace h := h g2 eg2
  exact v_vret o rfl hr dX4_clear_5 h
abbrev kX4_clear := @vX4_clear
abbrev metX4_clear := @mX4_clear

def vX4_digitAt (P : Sk) (f : St) (a : Nat) (p1 : Int32) (K : Int32 → St → Prop) : Prop :=
  kX4_signAt P f a p1 (fun r2 g2 => K (r2 - 48) g2)
set_option maxRecDepth 20000 in
set_option maxHeartbeats 4000000 in
theorem mX4_digitAt (l : Launch) (G : Gl) (P : Sk) (f : St) (sz : Nat) (a : Nat) (ha : IsText P a) (p1 : Int32) (K : Int32 → St → Prop) (h : vX4_digitAt P f a p1 K)  :
  Met l yX4_digitAt (wU yX4_digitAt cX4_digitAt 2 (some .int)) rmX4_digitAt (PcW G P f sz [.ref a, .int p1]) (QcI G P sz K) 0 0 (frA P sz) := by
  refine v_met (own := RX4) [.ref a, .int p1] (by decide +kernel) rfl (Nat.le_of_ble_eq_true rfl) (fun p e s m args below meth c hsz o hr hnm => ?_)
  refine v_lv (lv2 := [(0, .ref a), (1, .int p1)]) rfl ?_
  unfold vX4_digitAt at h
  refine v_aload_n o 0 dX4_digitAt_0 rfl ?_
  refine v_iload_n o 1 dX4_digitAt_1 rfl ?_
  refine v_cVi o [.int p1] [] (fun sz => metX4_signAt l G P f sz a ha p1 _ h) (cwX4_32 o.1.2.2.2.2 (by decide)) ⟨_, _, rfl⟩ (by decide) (wfText_o ha) rfl (Nat.le_of_ble_eq_true rfl) ⟨Nat.zero_le _, Nat.zero_le _⟩ dX4_digitAt_2 rfl (fun r2 g2 h => ?_)
  refine v_bipush o (v := 48) dX4_digitAt_5 (by decide) ?_
  refine v_isub o dX4_digitAt_7 ?_
  exact v_iret o rfl hr dX4_digitAt_8 h
abbrev kX4_digitAt := @vX4_digitAt
abbrev metX4_digitAt := @mX4_digitAt

def vX4_placeAt (P : Sk) (f : St) (a : Nat) (p1 : Int32) (K : Int32 → St → Prop) : Prop :=
  kX4_signAt P f a p1 (fun r2 g2 => K (r2 - 97) g2)
set_option maxRecDepth 20000 in
set_option maxHeartbeats 4000000 in
theorem mX4_placeAt (l : Launch) (G : Gl) (P : Sk) (f : St) (sz : Nat) (a : Nat) (ha : IsText P a) (p1 : Int32) (K : Int32 → St → Prop) (h : vX4_placeAt P f a p1 K)  :
  Met l yX4_placeAt (wU yX4_placeAt cX4_placeAt 2 (some .int)) rmX4_placeAt (PcW G P f sz [.ref a, .int p1]) (QcI G P sz K) 0 0 (frA P sz) := by
  refine v_met (own := RX4) [.ref a, .int p1] (by decide +kernel) rfl (Nat.le_of_ble_eq_true rfl) (fun p e s m args below meth c hsz o hr hnm => ?_)
  refine v_lv (lv2 := [(0, .ref a), (1, .int p1)]) rfl ?_
  unfold vX4_placeAt at h
  refine v_aload_n o 0 dX4_placeAt_0 rfl ?_
  refine v_iload_n o 1 dX4_placeAt_1 rfl ?_
  refine v_cVi o [.int p1] [] (fun sz => metX4_signAt l G P f sz a ha p1 _ h) (cwX4_32 o.1.2.2.2.2 (by decide)) ⟨_, _, rfl⟩ (by decide) (wfText_o ha) rfl (Nat.le_of_ble_eq_true rfl) ⟨Nat.zero_le _, Nat.zero_le _⟩ dX4_placeAt_2 rfl (fun r2 g2 h => ?_)
  refine v_bipush o (v := 97) dX4_placeAt_5 (by decide) ?_
  refine v_isub o dX4_placeAt_7 ?_
  exact v_iret o rfl hr dX4_placeAt_8 h
abbrev kX4_placeAt := @vX4_placeAt
abbrev metX4_placeAt := @mX4_placeAt

def vX4_isBetween (P : Sk) (f : St) (p0 : Int32) (p1 : Int32) (p2 : Int32) (K : Int32 → St → Prop) : Prop :=
  (p0 < p1 → K 0 f) ∧ (¬ p0 < p1 → (p2 < p0 → K 0 f) ∧ (¬ p2 < p0 → K 1 f))
set_option maxRecDepth 20000 in
set_option maxHeartbeats 4000000 in
theorem mX4_isBetween (l : Launch) (G : Gl) (P : Sk) (f : St) (sz : Nat) (p0 : Int32) (p1 : Int32) (p2 : Int32) (K : Int32 → St → Prop) (h : vX4_isBetween P f p0 p1 p2 K)  :
  Met l yX4_isBetween (wU yX4_isBetween cX4_isBetween 3 (some .boolean)) rmX4_isBetween (PcW G P f sz [.int p0, .int p1, .int p2]) (QcI G P sz K) 0 0 (frA P sz) := by
  refine v_met (own := RX4) [.int p0, .int p1, .int p2] (by decide +kernel) rfl (Nat.le_of_ble_eq_true rfl) (fun p e s m args below meth c hsz o hr hnm => ?_)
  refine v_lv (lv2 := [(0, .int p0), (1, .int p1), (2, .int p2)]) rfl ?_
  unfold vX4_isBetween at h
  refine v_iload_n o 0 dX4_isBetween_0 rfl ?_
  refine v_iload_n o 1 dX4_isBetween_1 rfl ?_
  refine v_icmp_lt o (tgt := 14) dX4_isBetween_2 (by decide) (fun c2 => ?_) (fun c2 => ?_)
  · replace h := h.1 c2
    refine v_iconst o (v := 0) dX4_isBetween_14 (by decide) ?_
    exact v_zret o rfl hr bz0.1 dX4_isBetween_15 h
  · replace h := h.2 c2
    refine v_iload_n o 0 dX4_isBetween_5 rfl ?_
    refine v_iload_n o 2 dX4_isBetween_6 rfl ?_
    refine v_icmp_gt o (tgt := 14) dX4_isBetween_7 (by decide) (fun c7 => ?_) (fun c7 => ?_)
    · replace h := h.1 c7
      refine v_iconst o (v := 0) dX4_isBetween_14 (by decide) ?_
      exact v_zret o rfl hr bz0.1 dX4_isBetween_15 h
    · replace h := h.2 c7
      refine v_iconst o (v := 1) dX4_isBetween_10 (by decide) ?_
      refine v_goto o (tgt := 15) dX4_isBetween_11 (by decide) ?_
      exact v_zret o rfl hr bz1.1 dX4_isBetween_15 h
abbrev kX4_isBetween := @vX4_isBetween
abbrev metX4_isBetween := @mX4_isBetween

def vX4_isSide (P : Sk) (f : St) (p0 : Int32) (K : Int32 → St → Prop) : Prop :=
  (p0 = 43 → K 1 f) ∧ (¬ p0 = 43 → (¬ p0 = 45 → K 0 f) ∧ (p0 = 45 → K 1 f))
set_option maxRecDepth 20000 in
set_option maxHeartbeats 4000000 in
theorem mX4_isSide (l : Launch) (G : Gl) (P : Sk) (f : St) (sz : Nat) (p0 : Int32) (K : Int32 → St → Prop) (h : vX4_isSide P f p0 K)  :
  Met l yX4_isSide (wU yX4_isSide cX4_isSide 1 (some .boolean)) rmX4_isSide (PcW G P f sz [.int p0]) (QcI G P sz K) 0 0 (frA P sz) := by
  refine v_met (own := RX4) [.int p0] (by decide +kernel) rfl (Nat.le_of_ble_eq_true rfl) (fun p e s m args below meth c hsz o hr hnm => ?_)
  refine v_lv (lv2 := [(0, .int p0)]) rfl ?_
  unfold vX4_isSide at h
  refine v_iload_n o 0 dX4_isSide_0 rfl ?_
  refine v_bipush o (v := 43) dX4_isSide_1 (by decide) ?_
  refine v_icmp_eq o (tgt := 12) dX4_isSide_3 (by decide) (fun c3 => ?_) (fun c3 => ?_)
  · replace h := h.1 c3
    refine v_iconst o (v := 1) dX4_isSide_12 (by decide) ?_
    refine v_goto o (tgt := 17) dX4_isSide_13 (by decide) ?_
    exact v_zret o rfl hr bz1.1 dX4_isSide_17 h
  · replace h := h.2 c3
    refine v_iload_n o 0 dX4_isSide_6 rfl ?_
    refine v_bipush o (v := 45) dX4_isSide_7 (by decide) ?_
    refine v_icmp_ne o (tgt := 16) dX4_isSide_9 (by decide) (fun c9 => ?_) (fun c9 => ?_)
    · replace h := h.1 c9
      refine v_iconst o (v := 0) dX4_isSide_16 (by decide) ?_
      exact v_zret o rfl hr bz0.1 dX4_isSide_17 h
    · replace h := h.2 c9
      refine v_iconst o (v := 1) dX4_isSide_12 (by decide) ?_
      refine v_goto o (tgt := 17) dX4_isSide_13 (by decide) ?_
      exact v_zret o rfl hr bz1.1 dX4_isSide_17 h
abbrev kX4_isSide := @vX4_isSide
abbrev metX4_isSide := @mX4_isSide

def vX4_canFollowInLoaf (P : Sk) (f : St) (a : Nat) (p1 : Int32) (K : Int32 → St → Prop) : Prop :=
  kX4_signAt P f a p1 (fun r2 g2 => (¬ p1 = 0 → (¬ p1 = 1 → (p1 < 50 → (¬ p1 - p1 / 2 * 2 = 0 → kX4_isSide P g2 r2 (fun r70 g70 => (r70 = 0 ∨ r70 = 1) ∧ K r70 g70)) ∧ (p1 - p1 / 2 * 2 = 0 → kX4_digitAt P g2 a 0 (fun r57 g57 => kX4_isBetween P g57 r2 97 ((97 + r57) - 2) (fun r63 g63 => (r63 = 0 ∨ r63 = 1) ∧ K r63 g63)))) ∧ (¬ p1 < 50 → K 0 g2)) ∧ (p1 = 1 → (¬ r2 = 58 → K 0 g2) ∧ (r2 = 58 → K 1 g2))) ∧ (p1 = 0 → kX4_isBetween P g2 r2 50 55 (fun r15 g15 => (r15 = 0 ∨ r15 = 1) ∧ K r15 g15)))
set_option maxRecDepth 20000 in
set_option maxHeartbeats 4000000 in
theorem mX4_canFollowInLoaf (l : Launch) (G : Gl) (P : Sk) (f : St) (sz : Nat) (a : Nat) (ha : IsText P a) (p1 : Int32) (K : Int32 → St → Prop) (h : vX4_canFollowInLoaf P f a p1 K)  :
  Met l yX4_canFollowInLoaf (wU yX4_canFollowInLoaf cX4_canFollowInLoaf 3 (some .boolean)) rmX4_canFollowInLoaf (PcW G P f sz [.ref a, .int p1]) (QcI G P sz K) 0 0 (frA P sz) := by
  refine v_met (own := RX4) [.ref a, .int p1] (by decide +kernel) rfl (Nat.le_of_ble_eq_true rfl) (fun p e s m args below meth c hsz o hr hnm => ?_)
  refine v_lv (lv2 := [(0, .ref a), (1, .int p1)]) rfl ?_
  unfold vX4_canFollowInLoaf at h
  refine v_aload_n o 0 dX4_canFollowInLoaf_0 rfl ?_
  refine v_iload_n o 1 dX4_canFollowInLoaf_1 rfl ?_
  refine v_cVi o [.int p1] [] (fun sz => metX4_signAt l G P f sz a ha p1 _ h) (cwX4_32 o.1.2.2.2.2 (by decide)) ⟨_, _, rfl⟩ (by decide) (wfText_o ha) rfl (Nat.le_of_ble_eq_true rfl) ⟨Nat.zero_le _, Nat.zero_le _⟩ dX4_canFollowInLoaf_2 rfl (fun r2 g2 h => ?_)
  refine v_istore_n o (lv' := [(2, .int r2), (0, .ref a), (1, .int p1)]) dX4_canFollowInLoaf_5 rfl (by decide) rfl ?_
  refine v_iload_n o 2 dX4_canFollowInLoaf_6 rfl ?_
  refine v_if_ne o (tgt := 19) dX4_canFollowInLoaf_7 (by decide) (fun c7 => ?_) (fun c7 => ?_)
  · replace h := h.1 c7
    refine v_iload_n o 2 dX4_canFollowInLoaf_19 rfl ?_
    refine v_iconst o (v := 1) dX4_canFollowInLoaf_20 (by decide) ?_
    refine v_icmp_ne o (tgt := 36) dX4_canFollowInLoaf_21 (by decide) (fun c21 => ?_) (fun c21 => ?_)
    · replace h := h.1 c21
      refine v_iload_n o 2 dX4_canFollowInLoaf_36 rfl ?_
      refine v_bipush o (v := 50) dX4_canFollowInLoaf_37 (by decide) ?_
      refine v_icmp_lt o (tgt := 44) dX4_canFollowInLoaf_39 (by decide) (fun c39 => ?_) (fun c39 => ?_)
      · replace h := h.1 c39
        refine v_iload_n o 2 dX4_canFollowInLoaf_44 rfl ?_
        refine v_iconst o (v := 2) dX4_canFollowInLoaf_45 (by decide) ?_
        refine v_irem o dX4_canFollowInLoaf_46 (by decide) ?_
        refine v_if_ne o (tgt := 69) dX4_canFollowInLoaf_47 (by decide) (fun c47 => ?_) (fun c47 => ?_)
        · replace h := h.1 c47
          refine v_iload_n o 0 dX4_canFollowInLoaf_69 rfl ?_
          refine v_cSi o [.int r2] [] (fun sz => metX4_isSide l G P g2 sz r2 _ h) (cwX4_50 o.1.2.2.2.2 (by decide)) rfl (Nat.le_of_ble_eq_true rfl) ⟨Nat.zero_le _, Nat.zero_le _⟩ dX4_canFollowInLoaf_70 rfl (fun r70 g70 h => ?_)
          exact v_zret o rfl hr (bzz h.1).1 dX4_canFollowInLoaf_73 h.2
        · replace h := h.2 c47
          refine v_iload_n o 0 dX4_canFollowInLoaf_50 rfl ?_
          refine v_bipush o (v := 97) dX4_canFollowInLoaf_51 (by decide) ?_
          refine v_bipush o (v := 97) dX4_canFollowInLoaf_53 (by decide) ?_
          refine v_aload_n o 1 dX4_canFollowInLoaf_55 rfl ?_
          refine v_iconst o (v := 0) dX4_canFollowInLoaf_56 (by decide) ?_
          refine v_cVi o [.int 0] [.int 97, .int 97, .int r2] (fun sz => metX4_digitAt l G P g2 sz a ha 0 _ h) (cwX4_47 o.1.2.2.2.2 (by decide)) ⟨_, _, rfl⟩ (by decide) (wfText_o ha) rfl (Nat.le_of_ble_eq_true rfl) ⟨Nat.zero_le _, Nat.zero_le _⟩ dX4_canFollowInLoaf_57 rfl (fun r57 g57 h => ?_)
          refine v_iadd o dX4_canFollowInLoaf_60 ?_
          refine v_iconst o (v := 2) dX4_canFollowInLoaf_61 (by decide) ?_
          refine v_isub o dX4_canFollowInLoaf_62 ?_
          refine v_cSi o [.int r2, .int 97, .int ((97 + r57) - 2)] [] (fun sz => metX4_isBetween l G P g57 sz r2 97 ((97 + r57) - 2) _ h) (cwX4_43 o.1.2.2.2.2 (by decide)) rfl (Nat.le_of_ble_eq_true rfl) ⟨Nat.zero_le _, Nat.zero_le _⟩ dX4_canFollowInLoaf_63 rfl (fun r63 g63 h => ?_)
          refine v_goto o (tgt := 73) dX4_canFollowInLoaf_66 (by decide) ?_
          exact v_zret o rfl hr (bzz h.1).1 dX4_canFollowInLoaf_73 h.2
      · replace h := h.2 c39
        refine v_iconst o (v := 0) dX4_canFollowInLoaf_42 (by decide) ?_
        exact v_zret o rfl hr bz0.1 dX4_canFollowInLoaf_43 h
    · replace h := h.2 c21
      refine v_iload_n o 0 dX4_canFollowInLoaf_24 rfl ?_
      refine v_bipush o (v := 58) dX4_canFollowInLoaf_25 (by decide) ?_
      refine v_icmp_ne o (tgt := 34) dX4_canFollowInLoaf_27 (by decide) (fun c27 => ?_) (fun c27 => ?_)
      · replace h := h.1 c27
        refine v_iconst o (v := 0) dX4_canFollowInLoaf_34 (by decide) ?_
        exact v_zret o rfl hr bz0.1 dX4_canFollowInLoaf_35 h
      · replace h := h.2 c27
        refine v_iconst o (v := 1) dX4_canFollowInLoaf_30 (by decide) ?_
        refine v_goto o (tgt := 35) dX4_canFollowInLoaf_31 (by decide) ?_
        exact v_zret o rfl hr bz1.1 dX4_canFollowInLoaf_35 h
  · replace h := h.2 c7
    refine v_iload_n o 0 dX4_canFollowInLoaf_10 rfl ?_
    refine v_bipush o (v := 50) dX4_canFollowInLoaf_11 (by decide) ?_
    refine v_bipush o (v := 55) dX4_canFollowInLoaf_13 (by decide) ?_
    refine v_cSi o [.int r2, .int 50, .int 55] [] (fun sz => metX4_isBetween l G P g2 sz r2 50 55 _ h) (cwX4_43 o.1.2.2.2.2 (by decide)) rfl (Nat.le_of_ble_eq_true rfl) ⟨Nat.zero_le _, Nat.zero_le _⟩ dX4_canFollowInLoaf_15 rfl (fun r15 g15 h => ?_)
    exact v_zret o rfl hr (bzz h.1).1 dX4_canFollowInLoaf_18 h.2
abbrev kX4_canFollowInLoaf := @vX4_canFollowInLoaf
abbrev metX4_canFollowInLoaf := @mX4_canFollowInLoaf

def bX4_firstErrorOfLoaf_2 (P : Sk) (a : Nat) (L2 : St → Int32 → Prop) (K : Int32 → St → Prop) (f : St) (x1 : Int32) : Prop :=
  (f a 1 ≤ x1 → K (f a 1) f) ∧ (¬ f a 1 ≤ x1 → kX4_canFollowInLoaf P f a x1 (fun r12 g12 => (¬ r12 = 0 → ∀ x1_20 : Int32, x1_20 = x1 + 1 → L2 g12 x1_20) ∧ (r12 = 0 → K x1 g12)))
def vX4_firstErrorOfLoaf (P : Sk) (f : St) (a : Nat) (L2 : St → Int32 → Prop) (K : Int32 → St → Prop) : Prop :=
  L2 f 0
set_option maxRecDepth 20000 in
set_option maxHeartbeats 4000000 in
theorem mX4_firstErrorOfLoaf (l : Launch) (G : Gl) (P : Sk) (f : St) (sz : Nat) (a : Nat) (ha : IsText P a) (K : Int32 → St → Prop) (I2 : St → Int32 → Prop) (μ2 : St → Int32 → Nat) 
  (h : vX4_firstErrorOfLoaf P f a I2 K)
  (h2 : ∀ (g : St) (x1 : Int32) , I2 g x1 → bX4_firstErrorOfLoaf_2 P a (fun g' z0 => I2 g' z0 ∧ μ2 g' z0 < μ2 g x1) K g x1) :
  Met l yX4_firstErrorOfLoaf (wU yX4_firstErrorOfLoaf cX4_firstErrorOfLoaf 2 (some .int)) rmX4_firstErrorOfLoaf (PcW G P f sz [.ref a]) (QcI G P sz K) 0 0 (frA P sz) := by
  refine v_met (own := RX4) [.ref a] (by decide +kernel) rfl (Nat.le_of_ble_eq_true rfl) (fun p e s m args below meth c hsz o hr hnm => ?_)
  refine v_lv (lv2 := [(0, .ref a)]) rfl ?_
  have main : ∀ n : Nat, (∀ (g : St) (x1 : Int32) , I2 g x1 → μ2 g x1 < n → V p l e rmX4_firstErrorOfLoaf s m args below meth c 2 G (frA P sz) (MQ below (QcI G P sz K) args s 0 0 (frA P sz)) 0 0 P [(0, .ref a), (1, .int x1)] [] 2 g) := by
    intro n
    induction n with
    | zero => exact fun g x1 hI hm => absurd hm (Nat.not_lt_zero _)
    | succ n ih =>
      intro g x1 hI hm
      have h := h2 g x1 hI
      clear hI
      unfold bX4_firstErrorOfLoaf_2 at h
      refine v_iload_n o 1 dX4_firstErrorOfLoaf_2 rfl ?_
      refine v_aload_n o 0 dX4_firstErrorOfLoaf_3 rfl ?_
      refine v_gfI o lkX4_20 (by decide) (wfText_o ha) dX4_firstErrorOfLoaf_4 ?_
      refine v_icmp_ge o (tgt := 26) dX4_firstErrorOfLoaf_7 (by decide) (fun c7 => ?_) (fun c7 => ?_)
      · replace h := h.1 c7
        refine v_aload_n o 0 dX4_firstErrorOfLoaf_26 rfl ?_
        refine v_gfI o lkX4_20 (by decide) (wfText_o ha) dX4_firstErrorOfLoaf_27 ?_
        exact v_iret o rfl hr dX4_firstErrorOfLoaf_30 h
      · replace h := h.2 c7
        refine v_aload_n o 0 dX4_firstErrorOfLoaf_10 rfl ?_
        refine v_iload_n o 1 dX4_firstErrorOfLoaf_11 rfl ?_
        refine v_cVi o [.int x1] [] (fun sz => metX4_canFollowInLoaf l G P g sz a ha x1 _ h) (cwX4_39 o.1.2.2.2.2 (by decide)) ⟨_, _, rfl⟩ (by decide) (wfText_o ha) rfl (Nat.le_of_ble_eq_true rfl) ⟨Nat.zero_le _, Nat.zero_le _⟩ dX4_firstErrorOfLoaf_12 rfl (fun r12 g12 h => ?_)
        refine v_if_ne o (tgt := 20) dX4_firstErrorOfLoaf_15 (by decide) (fun c15 => ?_) (fun c15 => ?_)
        · replace h := h.1 c15
          obtain ⟨x1_20, ex1_20⟩ : ∃ y : Int32, y = x1 + 1 := ⟨_, rfl⟩
          replace h := h x1_20 ex1_20
          refine v_iinc o (v := x1_20) (lv' := [(1, .int x1_20), (0, .ref a)]) 1 dX4_firstErrorOfLoaf_20 rfl (by rw [ex1_20]; rfl) (by decide) rfl ?_
          refine v_goto o (tgt := 2) dX4_firstErrorOfLoaf_23 (by decide) ?_
          refine v_sub [1, 0] (lv2 := [(0, .ref a), (1, .int x1_20)]) rfl ?_
          exact ih g12 x1_20  h.1 (by have := h.2; omega)
        · replace h := h.2 c15
          refine v_iload_n o 1 dX4_firstErrorOfLoaf_18 rfl ?_
          exact v_iret o rfl hr dX4_firstErrorOfLoaf_19 h
  unfold vX4_firstErrorOfLoaf at h
  refine v_iconst o (v := 0) dX4_firstErrorOfLoaf_0 (by decide) ?_
  refine v_istore_n o (lv' := [(1, .int 0), (0, .ref a)]) dX4_firstErrorOfLoaf_1 rfl (by decide) rfl ?_
  refine v_sub [1, 0] (lv2 := [(0, .ref a), (1, .int 0)]) rfl ?_
  exact (main (μ2 f 0 + 1)) f 0  h (Nat.lt_succ_self _)
def kX4_firstErrorOfLoaf (P : Sk) (f : St) (a : Nat) (K : Int32 → St → Prop) : Prop := False
theorem metX4_firstErrorOfLoaf (l : Launch) (G : Gl) (P : Sk) (f : St) (sz : Nat) (a : Nat) (ha : IsText P a) (K : Int32 → St → Prop) (h : kX4_firstErrorOfLoaf P f a K) : Met l yX4_firstErrorOfLoaf (wU yX4_firstErrorOfLoaf cX4_firstErrorOfLoaf 2 (some .int)) rmX4_firstErrorOfLoaf (PcW G P f sz [.ref a]) (QcI G P sz K) 0 0 (frA P sz) := sorry

def vX4_isLoaf (P : Sk) (f : St) (a : Nat) (K : Int32 → St → Prop) : Prop :=
  (f a 1 < 2 → K 0 f) ∧ (¬ f a 1 < 2 → (¬ (f a 1) - (f a 1) / 2 * 2 = 0 → K 0 f) ∧ ((f a 1) - (f a 1) / 2 * 2 = 0 → kX4_firstErrorOfLoaf P f a (fun r18 g18 => (¬ r18 = g18 a 1 → K 0 g18) ∧ (r18 = g18 a 1 → K 1 g18))))
set_option maxRecDepth 20000 in
set_option maxHeartbeats 4000000 in
theorem mX4_isLoaf (l : Launch) (G : Gl) (P : Sk) (f : St) (sz : Nat) (a : Nat) (ha : IsText P a) (K : Int32 → St → Prop) (h : vX4_isLoaf P f a K)  :
  Met l yX4_isLoaf (wU yX4_isLoaf cX4_isLoaf 1 (some .boolean)) rmX4_isLoaf (PcW G P f sz [.ref a]) (QcI G P sz K) 0 0 (frA P sz) := by
  refine v_met (own := RX4) [.ref a] (by decide +kernel) rfl (Nat.le_of_ble_eq_true rfl) (fun p e s m args below meth c hsz o hr hnm => ?_)
  refine v_lv (lv2 := [(0, .ref a)]) rfl ?_
  unfold vX4_isLoaf at h
  refine v_aload_n o 0 dX4_isLoaf_0 rfl ?_
  refine v_gfI o lkX4_20 (by decide) (wfText_o ha) dX4_isLoaf_1 ?_
  refine v_iconst o (v := 2) dX4_isLoaf_4 (by decide) ?_
  refine v_icmp_lt o (tgt := 32) dX4_isLoaf_5 (by decide) (fun c5 => ?_) (fun c5 => ?_)
  · replace h := h.1 c5
    refine v_iconst o (v := 0) dX4_isLoaf_32 (by decide) ?_
    exact v_zret o rfl hr bz0.1 dX4_isLoaf_33 h
  · replace h := h.2 c5
    refine v_aload_n o 0 dX4_isLoaf_8 rfl ?_
    refine v_gfI o lkX4_20 (by decide) (wfText_o ha) dX4_isLoaf_9 ?_
    refine v_iconst o (v := 2) dX4_isLoaf_12 (by decide) ?_
    refine v_irem o dX4_isLoaf_13 (by decide) ?_
    refine v_if_ne o (tgt := 32) dX4_isLoaf_14 (by decide) (fun c14 => ?_) (fun c14 => ?_)
    · replace h := h.1 c14
      refine v_iconst o (v := 0) dX4_isLoaf_32 (by decide) ?_
      exact v_zret o rfl hr bz0.1 dX4_isLoaf_33 h
    · replace h := h.2 c14
      refine v_aload_n o 0 dX4_isLoaf_17 rfl ?_
      refine v_cVi o [] [] (fun sz => metX4_firstErrorOfLoaf l G P f sz a ha _ h) (cwX4_35 o.1.2.2.2.2 (by decide)) ⟨_, _, rfl⟩ (by decide) (wfText_o ha) rfl (Nat.le_of_ble_eq_true rfl) ⟨Nat.zero_le _, Nat.zero_le _⟩ dX4_isLoaf_18 rfl (fun r18 g18 h => ?_)
      refine v_aload_n o 0 dX4_isLoaf_21 rfl ?_
      refine v_gfI o lkX4_20 (by decide) (wfText_o ha) dX4_isLoaf_22 ?_
      refine v_icmp_ne o (tgt := 32) dX4_isLoaf_25 (by decide) (fun c25 => ?_) (fun c25 => ?_)
      · replace h := h.1 c25
        refine v_iconst o (v := 0) dX4_isLoaf_32 (by decide) ?_
        exact v_zret o rfl hr bz0.1 dX4_isLoaf_33 h
      · replace h := h.2 c25
        refine v_iconst o (v := 1) dX4_isLoaf_28 (by decide) ?_
        refine v_goto o (tgt := 33) dX4_isLoaf_29 (by decide) ?_
        exact v_zret o rfl hr bz1.1 dX4_isLoaf_33 h
abbrev kX4_isLoaf := @vX4_isLoaf
abbrev metX4_isLoaf := @mX4_isLoaf

def vX6_codeOf (P : Sk) (f : St) (p0 : Int32) (p1 : Int32) (K : Int32 → St → Prop) : Prop :=
  (p1 = 0 → K ((2 * p0) + 0) f) ∧ (¬ p1 = 0 → K ((2 * p0) + 1) f)
set_option maxRecDepth 20000 in
set_option maxHeartbeats 4000000 in
theorem mX6_codeOf (l : Launch) (G : Gl) (P : Sk) (f : St) (sz : Nat) (p0 : Int32) (p1 : Int32) (K : Int32 → St → Prop) (h : vX6_codeOf P f p0 p1 K)  :
  Met l yX6_codeOf (wU yX6_codeOf cX6_codeOf 2 (some .int)) rmX6_codeOf (PcW G P f sz [.int p0, .int p1]) (QcI G P sz K) 0 0 (frA P sz) := by
  refine v_met (own := RX6) [.int p0, .int p1] (by decide +kernel) rfl (Nat.le_of_ble_eq_true rfl) (fun p e s m args below meth c hsz o hr hnm => ?_)
  refine v_lv (lv2 := [(0, .int p0), (1, .int p1)]) rfl ?_
  unfold vX6_codeOf at h
  refine v_iconst o (v := 2) dX6_codeOf_0 (by decide) ?_
  refine v_iload_n o 0 dX6_codeOf_1 rfl ?_
  refine v_imul o dX6_codeOf_2 ?_
  refine v_iload_n o 1 dX6_codeOf_3 rfl ?_
  refine v_if_eq o (tgt := 11) dX6_codeOf_4 (by decide) (fun c4 => ?_) (fun c4 => ?_)
  · replace h := h.1 c4
    refine v_iconst o (v := 0) dX6_codeOf_11 (by decide) ?_
    refine v_iadd o dX6_codeOf_12 ?_
    exact v_iret o rfl hr dX6_codeOf_13 h
  · replace h := h.2 c4
    refine v_iconst o (v := 1) dX6_codeOf_7 (by decide) ?_
    refine v_goto o (tgt := 12) dX6_codeOf_8 (by decide) ?_
    refine v_iadd o dX6_codeOf_12 ?_
    exact v_iret o rfl hr dX6_codeOf_13 h
abbrev kX6_codeOf := @vX6_codeOf
abbrev metX6_codeOf := @mX6_codeOf

def vX6_add (P : Sk) (f : St) (a : Nat) (p1 : Int32) (K : St → Prop) : Prop :=
  kX6_insertAt P f a (f a 2) p1 (fun g6 => K g6)
set_option maxRecDepth 20000 in
set_option maxHeartbeats 4000000 in
theorem mX6_add (l : Launch) (G : Gl) (P : Sk) (f : St) (sz : Nat) (a : Nat) (ha : IsWord P a) (p1 : Int32) (K : St → Prop) (h : vX6_add P f a p1 K)  :
  Met l yX6_add (wU yX6_add cX6_add 2 none) rmX6_add (PcW G P f sz [.ref a, .int p1]) (QcV G P sz K) 0 0 (frA P sz) := by
  refine v_met (own := RX6) [.ref a, .int p1] (by decide +kernel) rfl (Nat.le_of_ble_eq_true rfl) (fun p e s m args below meth c hsz o hr hnm => ?_)
  refine v_lv (lv2 := [(0, .ref a), (1, .int p1)]) rfl ?_
  unfold vX6_add at h
  refine v_aload_n o 0 dX6_add_0 rfl ?_
  refine v_aload_n o 0 dX6_add_1 rfl ?_
  refine v_gfI o lkX6_24 (by decide) (wfWord_o ha) dX6_add_2 ?_
  refine v_iload_n o 1 dX6_add_5 rfl ?_
  refine v_cVv o [.int (f a 2), .int p1] [] (fun sz => metX6_insertAt l G P f sz a ha (f a 2) p1 _ h) (cwX6_31 o.1.2.2.2.2 (by decide)) ⟨_, _, rfl⟩ (by decide) (wfWord_o ha) rfl (Nat.le_of_ble_eq_true rfl) ⟨Nat.zero_le _, Nat.zero_le _⟩ dX6_add_6 rfl (fun g6 h => ?_)
  exact v_vret o rfl hr dX6_add_9 h
abbrev kX6_add := @vX6_add
abbrev metX6_add := @mX6_add

def jX4_readLoaf_42 (P : Sk) (a : Nat) (b1 : Nat) (L11 : St → Int32 → Prop) (K : St → Prop) (x2 : Int32) (y1 : Int32) (y2 : Int32) (f : St) : Prop :=
  kX6_codeOf P f y1 y2 (fun r42 g42 => kX6_add P g42 b1 r42 (fun g45 => ∀ x2_48 : Int32, x2_48 = x2 + 2 → L11 g45 x2_48))
def bX4_readLoaf_11 (P : Sk) (a : Nat) (b1 : Nat) (L11 : St → Int32 → Prop) (K : St → Prop) (f : St) (x2 : Int32) : Prop :=
  (f a 1 ≤ x2 → K f) ∧ (¬ f a 1 ≤ x2 → kX4_placeAt P f a x2 (fun r22 g22 => kX4_signAt P g22 a (x2 + 1) (fun r29 g29 => (¬ r29 = 43 → jX4_readLoaf_42 P a b1 L11 K x2 r22 0 g29) ∧ (r29 = 43 → jX4_readLoaf_42 P a b1 L11 K x2 r22 1 g29))))
def vX4_readLoaf (P : Sk) (f : St) (a : Nat) (b1 : Nat) (L11 : St → Int32 → Prop) (K : St → Prop) : Prop :=
  kX4_digitAt P f a 0 (fun r3 g3 => kX6_begin P g3 b1 r3 (fun g6 => L11 g6 2))
set_option maxRecDepth 20000 in
set_option maxHeartbeats 4000000 in
theorem mX4_readLoaf (l : Launch) (G : Gl) (P : Sk) (f : St) (sz : Nat) (a : Nat) (ha : IsText P a) (b1 : Nat) (hb1 : IsWord P b1) (K : St → Prop) (I11 : St → Int32 → Prop) (μ11 : St → Int32 → Nat) 
  (h : vX4_readLoaf P f a b1 I11 K)
  (h11 : ∀ (g : St) (x2 : Int32) , I11 g x2 → bX4_readLoaf_11 P a b1 (fun g' z0 => I11 g' z0 ∧ μ11 g' z0 < μ11 g x2) K g x2) :
  Met l yX4_readLoaf (wU yX4_readLoaf cX4_readLoaf 3 none) rmX4_readLoaf (PcW G P f sz [.ref a, .ref b1]) (QcV G P sz K) 0 0 (frA P sz) := by
  refine v_met (own := RX4) [.ref a, .ref b1] (by decide +kernel) rfl (Nat.le_of_ble_eq_true rfl) (fun p e s m args below meth c hsz o hr hnm => ?_)
  refine v_lv (lv2 := [(0, .ref a), (1, .ref b1)]) rfl ?_
  have main : ∀ n : Nat, (∀ (g : St) (x2 : Int32) , I11 g x2 → μ11 g x2 < n → V p l e rmX4_readLoaf s m args below meth c 3 G (frA P sz) (MQ below (QcV G P sz K) args s 0 0 (frA P sz)) 0 0 P [(0, .ref a), (1, .ref b1), (2, .int x2)] [] 11 g) := by
    intro n
    induction n with
    | zero => exact fun g x2 hI hm => absurd hm (Nat.not_lt_zero _)
    | succ n ih =>
      intro g x2 hI hm
      have h := h11 g x2 hI
      clear hI
      have J42 : ∀ (x2_42 : Int32) (y1_42 : Int32) (y2_42 : Int32) (g42 : St), jX4_readLoaf_42 P a b1 (fun g' z0 => I11 g' z0 ∧ μ11 g' z0 < μ11 g x2) K x2_42 y1_42 y2_42 g42 → V p l e rmX4_readLoaf s m args below meth c 3 G (frA P sz) (MQ below (QcV G P sz K) args s 0 0 (frA P sz)) 0 0 P [(0, .ref a), (1, .ref b1), (2, .int x2_42)] [.int y2_42, .int y1_42, .ref b1] 42 g42 := by
        intro x2_42 y1_42 y2_42 g42  h
        unfold jX4_readLoaf_42 at h
        refine v_cSi o [.int y1_42, .int y2_42] [.ref b1] (fun sz => metX6_codeOf l G P g42 sz y1_42 y2_42 _ h) (cwX4_61 o.1.2.2.2.2 (by decide)) rfl (Nat.le_of_ble_eq_true rfl) ⟨Nat.zero_le _, Nat.zero_le _⟩ dX4_readLoaf_42 rfl (fun r42 g42 h => ?_)
        refine v_cVv o [.int r42] [] (fun sz => metX6_add l G P g42 sz b1 hb1 r42 _ h) (cwX4_65 o.1.2.2.2.2 (by decide)) ⟨_, _, rfl⟩ (by decide) (wfWord_o hb1) rfl (Nat.le_of_ble_eq_true rfl) ⟨Nat.zero_le _, Nat.zero_le _⟩ dX4_readLoaf_45 rfl (fun g45 h => ?_)
        obtain ⟨x2_48, ex2_48⟩ : ∃ y : Int32, y = x2_42 + 2 := ⟨_, rfl⟩
        replace h := h x2_48 ex2_48
        refine v_iinc o (v := x2_48) (lv' := [(2, .int x2_48), (0, .ref a), (1, .ref b1)]) 2 dX4_readLoaf_48 rfl (by rw [ex2_48]; rfl) (by decide) rfl ?_
        refine v_goto o (tgt := 11) dX4_readLoaf_51 (by decide) ?_
        refine v_sub [1, 2, 0] (lv2 := [(0, .ref a), (1, .ref b1), (2, .int x2_48)]) rfl ?_
        exact ih g45 x2_48  h.1 (by have := h.2; omega)
      unfold bX4_readLoaf_11 at h
      refine v_iload_n o 2 dX4_readLoaf_11 rfl ?_
      refine v_aload_n o 0 dX4_readLoaf_12 rfl ?_
      refine v_gfI o lkX4_20 (by decide) (wfText_o ha) dX4_readLoaf_13 ?_
      refine v_icmp_ge o (tgt := 54) dX4_readLoaf_16 (by decide) (fun c16 => ?_) (fun c16 => ?_)
      · replace h := h.1 c16
        exact v_vret o rfl hr dX4_readLoaf_54 h
      · replace h := h.2 c16
        refine v_aload_n o 1 dX4_readLoaf_19 rfl ?_
        refine v_aload_n o 0 dX4_readLoaf_20 rfl ?_
        refine v_iload_n o 2 dX4_readLoaf_21 rfl ?_
        refine v_cVi o [.int x2] [.ref b1] (fun sz => metX4_placeAt l G P g sz a ha x2 _ h) (cwX4_58 o.1.2.2.2.2 (by decide)) ⟨_, _, rfl⟩ (by decide) (wfText_o ha) rfl (Nat.le_of_ble_eq_true rfl) ⟨Nat.zero_le _, Nat.zero_le _⟩ dX4_readLoaf_22 rfl (fun r22 g22 h => ?_)
        refine v_aload_n o 0 dX4_readLoaf_25 rfl ?_
        refine v_iload_n o 2 dX4_readLoaf_26 rfl ?_
        refine v_iconst o (v := 1) dX4_readLoaf_27 (by decide) ?_
        refine v_iadd o dX4_readLoaf_28 ?_
        refine v_cVi o [.int (x2 + 1)] [.int r22, .ref b1] (fun sz => metX4_signAt l G P g22 sz a ha (x2 + 1) _ h) (cwX4_32 o.1.2.2.2.2 (by decide)) ⟨_, _, rfl⟩ (by decide) (wfText_o ha) rfl (Nat.le_of_ble_eq_true rfl) ⟨Nat.zero_le _, Nat.zero_le _⟩ dX4_readLoaf_29 rfl (fun r29 g29 h => ?_)
        refine v_bipush o (v := 43) dX4_readLoaf_32 (by decide) ?_
        refine v_icmp_ne o (tgt := 41) dX4_readLoaf_34 (by decide) (fun c34 => ?_) (fun c34 => ?_)
        · replace h := h.1 c34
          refine v_iconst o (v := 0) dX4_readLoaf_41 (by decide) ?_
          refine v_sub [0, 1, 2] (lv2 := [(0, .ref a), (1, .ref b1), (2, .int x2)]) rfl ?_
          exact J42 x2 r22 0 g29  h
        · replace h := h.2 c34
          refine v_iconst o (v := 1) dX4_readLoaf_37 (by decide) ?_
          refine v_goto o (tgt := 42) dX4_readLoaf_38 (by decide) ?_
          refine v_sub [0, 1, 2] (lv2 := [(0, .ref a), (1, .ref b1), (2, .int x2)]) rfl ?_
          exact J42 x2 r22 1 g29  h
  unfold vX4_readLoaf at h
  refine v_aload_n o 1 dX4_readLoaf_0 rfl ?_
  refine v_aload_n o 0 dX4_readLoaf_1 rfl ?_
  refine v_iconst o (v := 0) dX4_readLoaf_2 (by decide) ?_
  refine v_cVi o [.int 0] [.ref b1] (fun sz => metX4_digitAt l G P f sz a ha 0 _ h) (cwX4_47 o.1.2.2.2.2 (by decide)) ⟨_, _, rfl⟩ (by decide) (wfText_o ha) rfl (Nat.le_of_ble_eq_true rfl) ⟨Nat.zero_le _, Nat.zero_le _⟩ dX4_readLoaf_3 rfl (fun r3 g3 h => ?_)
  refine v_cVv o [.int r3] [] (fun sz => metX6_begin l G P g3 sz b1 hb1 r3 _ h) (cwX4_53 o.1.2.2.2.2 (by decide)) ⟨_, _, rfl⟩ (by decide) (wfWord_o hb1) rfl (Nat.le_of_ble_eq_true rfl) ⟨Nat.zero_le _, Nat.zero_le _⟩ dX4_readLoaf_6 rfl (fun g6 h => ?_)
  refine v_iconst o (v := 2) dX4_readLoaf_9 (by decide) ?_
  refine v_istore_n o (lv' := [(2, .int 2), (0, .ref a), (1, .ref b1)]) dX4_readLoaf_10 rfl (by decide) rfl ?_
  refine v_sub [1, 2, 0] (lv2 := [(0, .ref a), (1, .ref b1), (2, .int 2)]) rfl ?_
  exact (main (μ11 g6 2 + 1)) g6 2  h (Nat.lt_succ_self _)
def kX4_readLoaf (P : Sk) (f : St) (a : Nat) (b1 : Nat) (K : St → Prop) : Prop := False
theorem metX4_readLoaf (l : Launch) (G : Gl) (P : Sk) (f : St) (sz : Nat) (a : Nat) (ha : IsText P a) (b1 : Nat) (hb1 : IsWord P b1) (K : St → Prop) (h : kX4_readLoaf P f a b1 K) : Met l yX4_readLoaf (wU yX4_readLoaf cX4_readLoaf 3 none) rmX4_readLoaf (PcW G P f sz [.ref a, .ref b1]) (QcV G P sz K) 0 0 (frA P sz) := sorry

def vX4_stateBehindLetter (P : Sk) (f : St) (p0 : Int32) (K : Int32 → St → Prop) : Prop :=
  (p0 = 106 → K 5 f) ∧ (¬ p0 = 106 → (p0 = 108 → K 1 f) ∧ (¬ p0 = 108 → (p0 = 109 → K 1 f) ∧ (¬ p0 = 109 → (p0 = 114 → K 1 f) ∧ (¬ p0 = 114 → (p0 = 116 → K 1 f) ∧ (¬ p0 = 116 → (p0 = 120 → K 2 f) ∧ (¬ p0 = 120 → (p0 = 122 → K 1 f) ∧ (¬ p0 = 122 → K (-1) f)))))))
set_option maxRecDepth 20000 in
set_option maxHeartbeats 4000000 in
theorem mX4_stateBehindLetter (l : Launch) (G : Gl) (P : Sk) (f : St) (sz : Nat) (p0 : Int32) (K : Int32 → St → Prop) (h : vX4_stateBehindLetter P f p0 K)  :
  Met l yX4_stateBehindLetter (wU yX4_stateBehindLetter cX4_stateBehindLetter 1 (some .int)) rmX4_stateBehindLetter (PcW G P f sz [.int p0]) (QcI G P sz K) 0 0 (frA P sz) := by
  refine v_met (own := RX4) [.int p0] (by decide +kernel) rfl (Nat.le_of_ble_eq_true rfl) (fun p e s m args below meth c hsz o hr hnm => ?_)
  refine v_lv (lv2 := [(0, .int p0)]) rfl ?_
  unfold vX4_stateBehindLetter at h
  refine v_iload_n o 0 dX4_stateBehindLetter_0 rfl ?_
  by_cases c1_106 : p0 = 106
  · replace h := h.1 c1_106
    refine v_tableIn o (off := 85) (tgt := 86) dX4_stateBehindLetter_1 (by rw [c1_106]; decide) (by rw [c1_106]; decide) (by rw [c1_106]; decide) (by decide) ?_
    refine v_iconst o (v := 5) dX4_stateBehindLetter_86 (by decide) ?_
    exact v_iret o rfl hr dX4_stateBehindLetter_87 h
  · replace h := h.2 c1_106
    by_cases c1_108 : p0 = 108
    · replace h := h.1 c1_108
      refine v_tableIn o (off := 87) (tgt := 88) dX4_stateBehindLetter_1 (by rw [c1_108]; decide) (by rw [c1_108]; decide) (by rw [c1_108]; decide) (by decide) ?_
      refine v_iconst o (v := 1) dX4_stateBehindLetter_88 (by decide) ?_
      exact v_iret o rfl hr dX4_stateBehindLetter_89 h
    · replace h := h.2 c1_108
      by_cases c1_109 : p0 = 109
      · replace h := h.1 c1_109
        refine v_tableIn o (off := 87) (tgt := 88) dX4_stateBehindLetter_1 (by rw [c1_109]; decide) (by rw [c1_109]; decide) (by rw [c1_109]; decide) (by decide) ?_
        refine v_iconst o (v := 1) dX4_stateBehindLetter_88 (by decide) ?_
        exact v_iret o rfl hr dX4_stateBehindLetter_89 h
      · replace h := h.2 c1_109
        by_cases c1_114 : p0 = 114
        · replace h := h.1 c1_114
          refine v_tableIn o (off := 87) (tgt := 88) dX4_stateBehindLetter_1 (by rw [c1_114]; decide) (by rw [c1_114]; decide) (by rw [c1_114]; decide) (by decide) ?_
          refine v_iconst o (v := 1) dX4_stateBehindLetter_88 (by decide) ?_
          exact v_iret o rfl hr dX4_stateBehindLetter_89 h
        · replace h := h.2 c1_114
          by_cases c1_116 : p0 = 116
          · replace h := h.1 c1_116
            refine v_tableIn o (off := 87) (tgt := 88) dX4_stateBehindLetter_1 (by rw [c1_116]; decide) (by rw [c1_116]; decide) (by rw [c1_116]; decide) (by decide) ?_
            refine v_iconst o (v := 1) dX4_stateBehindLetter_88 (by decide) ?_
            exact v_iret o rfl hr dX4_stateBehindLetter_89 h
          · replace h := h.2 c1_116
            by_cases c1_120 : p0 = 120
            · replace h := h.1 c1_120
              refine v_tableIn o (off := 83) (tgt := 84) dX4_stateBehindLetter_1 (by rw [c1_120]; decide) (by rw [c1_120]; decide) (by rw [c1_120]; decide) (by decide) ?_
              refine v_iconst o (v := 2) dX4_stateBehindLetter_84 (by decide) ?_
              exact v_iret o rfl hr dX4_stateBehindLetter_85 h
            · replace h := h.2 c1_120
              by_cases c1_122 : p0 = 122
              · replace h := h.1 c1_122
                refine v_tableIn o (off := 87) (tgt := 88) dX4_stateBehindLetter_1 (by rw [c1_122]; decide) (by rw [c1_122]; decide) (by rw [c1_122]; decide) (by decide) ?_
                refine v_iconst o (v := 1) dX4_stateBehindLetter_88 (by decide) ?_
                exact v_iret o rfl hr dX4_stateBehindLetter_89 h
              · replace h := h.2 c1_122
                have D1 : V p l e rmX4_stateBehindLetter s m args below meth c 1 G (frA P sz) (MQ below (QcI G P sz K) args s 0 0 (frA P sz)) 0 0 P [(0, .int p0)] [] 90 f := by
                  refine v_iconst o (v := (-1)) dX4_stateBehindLetter_90 (by decide) ?_
                  exact v_iret o rfl hr dX4_stateBehindLetter_91 h
                have E1 : (p0).toInt < 106 ∨ 122 < (p0).toInt ∨ (p0).toInt = 107 ∨ (p0).toInt = 110 ∨ (p0).toInt = 111 ∨ (p0).toInt = 112 ∨ (p0).toInt = 113 ∨ (p0).toInt = 115 ∨ (p0).toInt = 117 ∨ (p0).toInt = 118 ∨ (p0).toInt = 119 ∨ (p0).toInt = 121 := by have q0 := lv_neT c1_106 (a := 106) (by decide); have q1 := lv_neT c1_108 (a := 108) (by decide); have q2 := lv_neT c1_109 (a := 109) (by decide); have q3 := lv_neT c1_114 (a := 114) (by decide); have q4 := lv_neT c1_116 (a := 116) (by decide); have q5 := lv_neT c1_120 (a := 120) (by decide); have q6 := lv_neT c1_122 (a := 122) (by decide); omega
                rcases E1 with E | E | E | E | E | E | E | E | E | E | E | E
                · exact v_tableOut o (tgt := 90) dX4_stateBehindLetter_1 (Or.inl E) (by decide) D1
                · exact v_tableOut o (tgt := 90) dX4_stateBehindLetter_1 (Or.inr E) (by decide) D1
                · exact v_tableIn o (off := 89) (tgt := 90) dX4_stateBehindLetter_1 (by rw [E]; decide) (by rw [E]; decide) (by rw [E]; decide) (by decide) D1
                · exact v_tableIn o (off := 89) (tgt := 90) dX4_stateBehindLetter_1 (by rw [E]; decide) (by rw [E]; decide) (by rw [E]; decide) (by decide) D1
                · exact v_tableIn o (off := 89) (tgt := 90) dX4_stateBehindLetter_1 (by rw [E]; decide) (by rw [E]; decide) (by rw [E]; decide) (by decide) D1
                · exact v_tableIn o (off := 89) (tgt := 90) dX4_stateBehindLetter_1 (by rw [E]; decide) (by rw [E]; decide) (by rw [E]; decide) (by decide) D1
                · exact v_tableIn o (off := 89) (tgt := 90) dX4_stateBehindLetter_1 (by rw [E]; decide) (by rw [E]; decide) (by rw [E]; decide) (by decide) D1
                · exact v_tableIn o (off := 89) (tgt := 90) dX4_stateBehindLetter_1 (by rw [E]; decide) (by rw [E]; decide) (by rw [E]; decide) (by decide) D1
                · exact v_tableIn o (off := 89) (tgt := 90) dX4_stateBehindLetter_1 (by rw [E]; decide) (by rw [E]; decide) (by rw [E]; decide) (by decide) D1
                · exact v_tableIn o (off := 89) (tgt := 90) dX4_stateBehindLetter_1 (by rw [E]; decide) (by rw [E]; decide) (by rw [E]; decide) (by decide) D1
                · exact v_tableIn o (off := 89) (tgt := 90) dX4_stateBehindLetter_1 (by rw [E]; decide) (by rw [E]; decide) (by rw [E]; decide) (by decide) D1
                · exact v_tableIn o (off := 89) (tgt := 90) dX4_stateBehindLetter_1 (by rw [E]; decide) (by rw [E]; decide) (by rw [E]; decide) (by decide) D1
abbrev kX4_stateBehindLetter := @vX4_stateBehindLetter
abbrev metX4_stateBehindLetter := @mX4_stateBehindLetter

def vX4_isLoafDigit (P : Sk) (f : St) (p0 : Int32) (K : Int32 → St → Prop) : Prop :=
  kX4_isBetween P f p0 48 53 (fun r5 g5 => (r5 = 0 ∨ r5 = 1) ∧ K r5 g5)
set_option maxRecDepth 20000 in
set_option maxHeartbeats 4000000 in
theorem mX4_isLoafDigit (l : Launch) (G : Gl) (P : Sk) (f : St) (sz : Nat) (p0 : Int32) (K : Int32 → St → Prop) (h : vX4_isLoafDigit P f p0 K)  :
  Met l yX4_isLoafDigit (wU yX4_isLoafDigit cX4_isLoafDigit 1 (some .boolean)) rmX4_isLoafDigit (PcW G P f sz [.int p0]) (QcI G P sz K) 0 0 (frA P sz) := by
  refine v_met (own := RX4) [.int p0] (by decide +kernel) rfl (Nat.le_of_ble_eq_true rfl) (fun p e s m args below meth c hsz o hr hnm => ?_)
  refine v_lv (lv2 := [(0, .int p0)]) rfl ?_
  unfold vX4_isLoafDigit at h
  refine v_iload_n o 0 dX4_isLoafDigit_0 rfl ?_
  refine v_bipush o (v := 48) dX4_isLoafDigit_1 (by decide) ?_
  refine v_bipush o (v := 53) dX4_isLoafDigit_3 (by decide) ?_
  refine v_cSi o [.int p0, .int 48, .int 53] [] (fun sz => metX4_isBetween l G P f sz p0 48 53 _ h) (cwX4_43 o.1.2.2.2.2 (by decide)) rfl (Nat.le_of_ble_eq_true rfl) ⟨Nat.zero_le _, Nat.zero_le _⟩ dX4_isLoafDigit_5 rfl (fun r5 g5 h => ?_)
  exact v_zret o rfl hr (bzz h.1).1 dX4_isLoafDigit_8 h.2
abbrev kX4_isLoafDigit := @vX4_isLoafDigit
abbrev metX4_isLoafDigit := @mX4_isLoafDigit

def vX4_stateBehind (P : Sk) (f : St) (p0 : Int32) (p1 : Int32) (K : Int32 → St → Prop) : Prop :=
  (p0 = 0 → kX4_stateBehindLetter P f p1 (fun r49 g49 => K r49 g49)) ∧ (¬ p0 = 0 → (p0 = 1 → kX4_isLoafDigit P f p1 (fun r54 g54 => (r54 = 0 → K (-1) g54) ∧ (¬ r54 = 0 → K 7 g54))) ∧ (¬ p0 = 1 → (p0 = 2 → kX4_isLoafDigit P f p1 (fun r68 g68 => (r68 = 0 → K (-1) g68) ∧ (¬ r68 = 0 → K 3 g68))) ∧ (¬ p0 = 2 → (p0 = 3 → kX4_isBetween P f p1 97 102 (fun r85 g85 => (r85 = 0 → K (-1) g85) ∧ (¬ r85 = 0 → K 4 g85))) ∧ (¬ p0 = 3 → (p0 = 4 → kX4_isSide P f p1 (fun r98 g98 => (r98 = 0 → K (-1) g98) ∧ (¬ r98 = 0 → K 7 g98))) ∧ (¬ p0 = 4 → (p0 = 5 → kX4_isLoafDigit P f p1 (fun r112 g112 => (r112 = 0 → K (-1) g112) ∧ (¬ r112 = 0 → K 6 g112))) ∧ (¬ p0 = 5 → (p0 = 6 → (¬ p1 = 47 → K (-1) f) ∧ (p1 = 47 → K 1 f)) ∧ (¬ p0 = 6 → (p0 = 7 → (¬ p1 = 59 → K (-1) f) ∧ (p1 = 59 → K 0 f)) ∧ (¬ p0 = 7 → K (-1) f))))))))
set_option maxRecDepth 20000 in
set_option maxHeartbeats 4000000 in
theorem mX4_stateBehind (l : Launch) (G : Gl) (P : Sk) (f : St) (sz : Nat) (p0 : Int32) (p1 : Int32) (K : Int32 → St → Prop) (h : vX4_stateBehind P f p0 p1 K)  :
  Met l yX4_stateBehind (wU yX4_stateBehind cX4_stateBehind 2 (some .int)) rmX4_stateBehind (PcW G P f sz [.int p0, .int p1]) (QcI G P sz K) 0 0 (frA P sz) := by
  refine v_met (own := RX4) [.int p0, .int p1] (by decide +kernel) rfl (Nat.le_of_ble_eq_true rfl) (fun p e s m args below meth c hsz o hr hnm => ?_)
  refine v_lv (lv2 := [(0, .int p0), (1, .int p1)]) rfl ?_
  unfold vX4_stateBehind at h
  refine v_iload_n o 0 dX4_stateBehind_0 rfl ?_
  by_cases c1_0 : p0 = 0
  · replace h := h.1 c1_0
    refine v_tableIn o (off := 47) (tgt := 48) dX4_stateBehind_1 (by rw [c1_0]; decide) (by rw [c1_0]; decide) (by rw [c1_0]; decide) (by decide) ?_
    refine v_iload_n o 1 dX4_stateBehind_48 rfl ?_
    refine v_cSi o [.int p1] [] (fun sz => metX4_stateBehindLetter l G P f sz p1 _ h) (cwX4_72 o.1.2.2.2.2 (by decide)) rfl (Nat.le_of_ble_eq_true rfl) ⟨Nat.zero_le _, Nat.zero_le _⟩ dX4_stateBehind_49 rfl (fun r49 g49 h => ?_)
    exact v_iret o rfl hr dX4_stateBehind_52 h
  · replace h := h.2 c1_0
    by_cases c1_1 : p0 = 1
    · replace h := h.1 c1_1
      refine v_tableIn o (off := 52) (tgt := 53) dX4_stateBehind_1 (by rw [c1_1]; decide) (by rw [c1_1]; decide) (by rw [c1_1]; decide) (by decide) ?_
      refine v_iload_n o 1 dX4_stateBehind_53 rfl ?_
      refine v_cSi o [.int p1] [] (fun sz => metX4_isLoafDigit l G P f sz p1 _ h) (cwX4_75 o.1.2.2.2.2 (by decide)) rfl (Nat.le_of_ble_eq_true rfl) ⟨Nat.zero_le _, Nat.zero_le _⟩ dX4_stateBehind_54 rfl (fun r54 g54 h => ?_)
      refine v_if_eq o (tgt := 65) dX4_stateBehind_57 (by decide) (fun c57 => ?_) (fun c57 => ?_)
      · replace h := h.1 c57
        refine v_iconst o (v := (-1)) dX4_stateBehind_65 (by decide) ?_
        exact v_iret o rfl hr dX4_stateBehind_66 h
      · replace h := h.2 c57
        refine v_bipush o (v := 7) dX4_stateBehind_60 (by decide) ?_
        refine v_goto o (tgt := 66) dX4_stateBehind_62 (by decide) ?_
        exact v_iret o rfl hr dX4_stateBehind_66 h
    · replace h := h.2 c1_1
      by_cases c1_2 : p0 = 2
      · replace h := h.1 c1_2
        refine v_tableIn o (off := 66) (tgt := 67) dX4_stateBehind_1 (by rw [c1_2]; decide) (by rw [c1_2]; decide) (by rw [c1_2]; decide) (by decide) ?_
        refine v_iload_n o 1 dX4_stateBehind_67 rfl ?_
        refine v_cSi o [.int p1] [] (fun sz => metX4_isLoafDigit l G P f sz p1 _ h) (cwX4_75 o.1.2.2.2.2 (by decide)) rfl (Nat.le_of_ble_eq_true rfl) ⟨Nat.zero_le _, Nat.zero_le _⟩ dX4_stateBehind_68 rfl (fun r68 g68 h => ?_)
        refine v_if_eq o (tgt := 78) dX4_stateBehind_71 (by decide) (fun c71 => ?_) (fun c71 => ?_)
        · replace h := h.1 c71
          refine v_iconst o (v := (-1)) dX4_stateBehind_78 (by decide) ?_
          exact v_iret o rfl hr dX4_stateBehind_79 h
        · replace h := h.2 c71
          refine v_iconst o (v := 3) dX4_stateBehind_74 (by decide) ?_
          refine v_goto o (tgt := 79) dX4_stateBehind_75 (by decide) ?_
          exact v_iret o rfl hr dX4_stateBehind_79 h
      · replace h := h.2 c1_2
        by_cases c1_3 : p0 = 3
        · replace h := h.1 c1_3
          refine v_tableIn o (off := 79) (tgt := 80) dX4_stateBehind_1 (by rw [c1_3]; decide) (by rw [c1_3]; decide) (by rw [c1_3]; decide) (by decide) ?_
          refine v_iload_n o 1 dX4_stateBehind_80 rfl ?_
          refine v_bipush o (v := 97) dX4_stateBehind_81 (by decide) ?_
          refine v_bipush o (v := 102) dX4_stateBehind_83 (by decide) ?_
          refine v_cSi o [.int p1, .int 97, .int 102] [] (fun sz => metX4_isBetween l G P f sz p1 97 102 _ h) (cwX4_43 o.1.2.2.2.2 (by decide)) rfl (Nat.le_of_ble_eq_true rfl) ⟨Nat.zero_le _, Nat.zero_le _⟩ dX4_stateBehind_85 rfl (fun r85 g85 h => ?_)
          refine v_if_eq o (tgt := 95) dX4_stateBehind_88 (by decide) (fun c88 => ?_) (fun c88 => ?_)
          · replace h := h.1 c88
            refine v_iconst o (v := (-1)) dX4_stateBehind_95 (by decide) ?_
            exact v_iret o rfl hr dX4_stateBehind_96 h
          · replace h := h.2 c88
            refine v_iconst o (v := 4) dX4_stateBehind_91 (by decide) ?_
            refine v_goto o (tgt := 96) dX4_stateBehind_92 (by decide) ?_
            exact v_iret o rfl hr dX4_stateBehind_96 h
        · replace h := h.2 c1_3
          by_cases c1_4 : p0 = 4
          · replace h := h.1 c1_4
            refine v_tableIn o (off := 96) (tgt := 97) dX4_stateBehind_1 (by rw [c1_4]; decide) (by rw [c1_4]; decide) (by rw [c1_4]; decide) (by decide) ?_
            refine v_iload_n o 1 dX4_stateBehind_97 rfl ?_
            refine v_cSi o [.int p1] [] (fun sz => metX4_isSide l G P f sz p1 _ h) (cwX4_50 o.1.2.2.2.2 (by decide)) rfl (Nat.le_of_ble_eq_true rfl) ⟨Nat.zero_le _, Nat.zero_le _⟩ dX4_stateBehind_98 rfl (fun r98 g98 h => ?_)
            refine v_if_eq o (tgt := 109) dX4_stateBehind_101 (by decide) (fun c101 => ?_) (fun c101 => ?_)
            · replace h := h.1 c101
              refine v_iconst o (v := (-1)) dX4_stateBehind_109 (by decide) ?_
              exact v_iret o rfl hr dX4_stateBehind_110 h
            · replace h := h.2 c101
              refine v_bipush o (v := 7) dX4_stateBehind_104 (by decide) ?_
              refine v_goto o (tgt := 110) dX4_stateBehind_106 (by decide) ?_
              exact v_iret o rfl hr dX4_stateBehind_110 h
          · replace h := h.2 c1_4
            by_cases c1_5 : p0 = 5
            · replace h := h.1 c1_5
              refine v_tableIn o (off := 110) (tgt := 111) dX4_stateBehind_1 (by rw [c1_5]; decide) (by rw [c1_5]; decide) (by rw [c1_5]; decide) (by decide) ?_
              refine v_iload_n o 1 dX4_stateBehind_111 rfl ?_
              refine v_cSi o [.int p1] [] (fun sz => metX4_isLoafDigit l G P f sz p1 _ h) (cwX4_75 o.1.2.2.2.2 (by decide)) rfl (Nat.le_of_ble_eq_true rfl) ⟨Nat.zero_le _, Nat.zero_le _⟩ dX4_stateBehind_112 rfl (fun r112 g112 h => ?_)
              refine v_if_eq o (tgt := 123) dX4_stateBehind_115 (by decide) (fun c115 => ?_) (fun c115 => ?_)
              · replace h := h.1 c115
                refine v_iconst o (v := (-1)) dX4_stateBehind_123 (by decide) ?_
                exact v_iret o rfl hr dX4_stateBehind_124 h
              · replace h := h.2 c115
                refine v_bipush o (v := 6) dX4_stateBehind_118 (by decide) ?_
                refine v_goto o (tgt := 124) dX4_stateBehind_120 (by decide) ?_
                exact v_iret o rfl hr dX4_stateBehind_124 h
            · replace h := h.2 c1_5
              by_cases c1_6 : p0 = 6
              · replace h := h.1 c1_6
                refine v_tableIn o (off := 124) (tgt := 125) dX4_stateBehind_1 (by rw [c1_6]; decide) (by rw [c1_6]; decide) (by rw [c1_6]; decide) (by decide) ?_
                refine v_iload_n o 1 dX4_stateBehind_125 rfl ?_
                refine v_bipush o (v := 47) dX4_stateBehind_126 (by decide) ?_
                refine v_icmp_ne o (tgt := 135) dX4_stateBehind_128 (by decide) (fun c128 => ?_) (fun c128 => ?_)
                · replace h := h.1 c128
                  refine v_iconst o (v := (-1)) dX4_stateBehind_135 (by decide) ?_
                  exact v_iret o rfl hr dX4_stateBehind_136 h
                · replace h := h.2 c128
                  refine v_iconst o (v := 1) dX4_stateBehind_131 (by decide) ?_
                  refine v_goto o (tgt := 136) dX4_stateBehind_132 (by decide) ?_
                  exact v_iret o rfl hr dX4_stateBehind_136 h
              · replace h := h.2 c1_6
                by_cases c1_7 : p0 = 7
                · replace h := h.1 c1_7
                  refine v_tableIn o (off := 136) (tgt := 137) dX4_stateBehind_1 (by rw [c1_7]; decide) (by rw [c1_7]; decide) (by rw [c1_7]; decide) (by decide) ?_
                  refine v_iload_n o 1 dX4_stateBehind_137 rfl ?_
                  refine v_bipush o (v := 59) dX4_stateBehind_138 (by decide) ?_
                  refine v_icmp_ne o (tgt := 147) dX4_stateBehind_140 (by decide) (fun c140 => ?_) (fun c140 => ?_)
                  · replace h := h.1 c140
                    refine v_iconst o (v := (-1)) dX4_stateBehind_147 (by decide) ?_
                    exact v_iret o rfl hr dX4_stateBehind_148 h
                  · replace h := h.2 c140
                    refine v_iconst o (v := 0) dX4_stateBehind_143 (by decide) ?_
                    refine v_goto o (tgt := 148) dX4_stateBehind_144 (by decide) ?_
                    exact v_iret o rfl hr dX4_stateBehind_148 h
                · replace h := h.2 c1_7
                  refine v_tableOut o (tgt := 149) dX4_stateBehind_1 (by have q0 := lv_neT c1_0 (a := 0) (by decide); have q1 := lv_neT c1_1 (a := 1) (by decide); have q2 := lv_neT c1_2 (a := 2) (by decide); have q3 := lv_neT c1_3 (a := 3) (by decide); have q4 := lv_neT c1_4 (a := 4) (by decide); have q5 := lv_neT c1_5 (a := 5) (by decide); have q6 := lv_neT c1_6 (a := 6) (by decide); have q7 := lv_neT c1_7 (a := 7) (by decide); omega) (by decide) ?_
                  refine v_iconst o (v := (-1)) dX4_stateBehind_149 (by decide) ?_
                  exact v_iret o rfl hr dX4_stateBehind_150 h
abbrev kX4_stateBehind := @vX4_stateBehind
abbrev metX4_stateBehind := @mX4_stateBehind

def bX4_isWorks_4 (P : Sk) (a : Nat) (L4 : St → Int32 → Int32 → Prop) (K : Int32 → St → Prop) (f : St) (x1 : Int32) (x2 : Int32) : Prop :=
  (f a 1 ≤ x2 → (¬ x1 = 7 → K 0 f) ∧ (x1 = 7 → K 1 f)) ∧ (¬ f a 1 ≤ x2 → kX4_signAt P f a x2 (fun r15 g15 => kX4_stateBehind P g15 x1 r15 (fun r18 g18 => ∀ x2_22 : Int32, x2_22 = x2 + 1 → L4 g18 r18 x2_22)))
def vX4_isWorks (P : Sk) (f : St) (a : Nat) (L4 : St → Int32 → Int32 → Prop) (K : Int32 → St → Prop) : Prop :=
  L4 f 0 0
set_option maxRecDepth 20000 in
set_option maxHeartbeats 4000000 in
theorem mX4_isWorks (l : Launch) (G : Gl) (P : Sk) (f : St) (sz : Nat) (a : Nat) (ha : IsText P a) (K : Int32 → St → Prop) (I4 : St → Int32 → Int32 → Prop) (μ4 : St → Int32 → Int32 → Nat) 
  (h : vX4_isWorks P f a I4 K)
  (h4 : ∀ (g : St) (x1 : Int32) (x2 : Int32) , I4 g x1 x2 → bX4_isWorks_4 P a (fun g' z0 z1 => I4 g' z0 z1 ∧ μ4 g' z0 z1 < μ4 g x1 x2) K g x1 x2) :
  Met l yX4_isWorks (wU yX4_isWorks cX4_isWorks 3 (some .boolean)) rmX4_isWorks (PcW G P f sz [.ref a]) (QcI G P sz K) 0 0 (frA P sz) := by
  refine v_met (own := RX4) [.ref a] (by decide +kernel) rfl (Nat.le_of_ble_eq_true rfl) (fun p e s m args below meth c hsz o hr hnm => ?_)
  refine v_lv (lv2 := [(0, .ref a)]) rfl ?_
  have main : ∀ n : Nat, (∀ (g : St) (x1 : Int32) (x2 : Int32) , I4 g x1 x2 → μ4 g x1 x2 < n → V p l e rmX4_isWorks s m args below meth c 3 G (frA P sz) (MQ below (QcI G P sz K) args s 0 0 (frA P sz)) 0 0 P [(0, .ref a), (1, .int x1), (2, .int x2)] [] 4 g) := by
    intro n
    induction n with
    | zero => exact fun g x1 x2 hI hm => absurd hm (Nat.not_lt_zero _)
    | succ n ih =>
      intro g x1 x2 hI hm
      have h := h4 g x1 x2 hI
      clear hI
      unfold bX4_isWorks_4 at h
      refine v_iload_n o 2 dX4_isWorks_4 rfl ?_
      refine v_aload_n o 0 dX4_isWorks_5 rfl ?_
      refine v_gfI o lkX4_20 (by decide) (wfText_o ha) dX4_isWorks_6 ?_
      refine v_icmp_ge o (tgt := 28) dX4_isWorks_9 (by decide) (fun c9 => ?_) (fun c9 => ?_)
      · replace h := h.1 c9
        refine v_iload_n o 1 dX4_isWorks_28 rfl ?_
        refine v_bipush o (v := 7) dX4_isWorks_29 (by decide) ?_
        refine v_icmp_ne o (tgt := 38) dX4_isWorks_31 (by decide) (fun c31 => ?_) (fun c31 => ?_)
        · replace h := h.1 c31
          refine v_iconst o (v := 0) dX4_isWorks_38 (by decide) ?_
          exact v_zret o rfl hr bz0.1 dX4_isWorks_39 h
        · replace h := h.2 c31
          refine v_iconst o (v := 1) dX4_isWorks_34 (by decide) ?_
          refine v_goto o (tgt := 39) dX4_isWorks_35 (by decide) ?_
          exact v_zret o rfl hr bz1.1 dX4_isWorks_39 h
      · replace h := h.2 c9
        refine v_iload_n o 1 dX4_isWorks_12 rfl ?_
        refine v_aload_n o 0 dX4_isWorks_13 rfl ?_
        refine v_iload_n o 2 dX4_isWorks_14 rfl ?_
        refine v_cVi o [.int x2] [.int x1] (fun sz => metX4_signAt l G P g sz a ha x2 _ h) (cwX4_32 o.1.2.2.2.2 (by decide)) ⟨_, _, rfl⟩ (by decide) (wfText_o ha) rfl (Nat.le_of_ble_eq_true rfl) ⟨Nat.zero_le _, Nat.zero_le _⟩ dX4_isWorks_15 rfl (fun r15 g15 h => ?_)
        refine v_cSi o [.int x1, .int r15] [] (fun sz => metX4_stateBehind l G P g15 sz x1 r15 _ h) (cwX4_68 o.1.2.2.2.2 (by decide)) rfl (Nat.le_of_ble_eq_true rfl) ⟨Nat.zero_le _, Nat.zero_le _⟩ dX4_isWorks_18 rfl (fun r18 g18 h => ?_)
        refine v_istore_n o (lv' := [(1, .int r18), (0, .ref a), (2, .int x2)]) dX4_isWorks_21 rfl (by decide) rfl ?_
        obtain ⟨x2_22, ex2_22⟩ : ∃ y : Int32, y = x2 + 1 := ⟨_, rfl⟩
        replace h := h x2_22 ex2_22
        refine v_iinc o (v := x2_22) (lv' := [(2, .int x2_22), (1, .int r18), (0, .ref a)]) 2 dX4_isWorks_22 rfl (by rw [ex2_22]; rfl) (by decide) rfl ?_
        refine v_goto o (tgt := 4) dX4_isWorks_25 (by decide) ?_
        refine v_sub [2, 1, 0] (lv2 := [(0, .ref a), (1, .int r18), (2, .int x2_22)]) rfl ?_
        exact ih g18 r18 x2_22  h.1 (by have := h.2; omega)
  unfold vX4_isWorks at h
  refine v_iconst o (v := 0) dX4_isWorks_0 (by decide) ?_
  refine v_istore_n o (lv' := [(1, .int 0), (0, .ref a)]) dX4_isWorks_1 rfl (by decide) rfl ?_
  refine v_iconst o (v := 0) dX4_isWorks_2 (by decide) ?_
  refine v_istore_n o (lv' := [(2, .int 0), (1, .int 0), (0, .ref a)]) dX4_isWorks_3 rfl (by decide) rfl ?_
  refine v_sub [2, 1, 0] (lv2 := [(0, .ref a), (1, .int 0), (2, .int 0)]) rfl ?_
  exact (main (μ4 f 0 0 + 1)) f 0 0  h (Nat.lt_succ_self _)
def kX4_isWorks (P : Sk) (f : St) (a : Nat) (K : Int32 → St → Prop) : Prop := False
theorem metX4_isWorks (l : Launch) (G : Gl) (P : Sk) (f : St) (sz : Nat) (a : Nat) (ha : IsText P a) (K : Int32 → St → Prop) (h : kX4_isWorks P f a K) : Met l yX4_isWorks (wU yX4_isWorks cX4_isWorks 3 (some .boolean)) rmX4_isWorks (PcW G P f sz [.ref a]) (QcI G P sz K) 0 0 (frA P sz) := sorry

def bX4_firstErrorOfWorks_4 (P : Sk) (a : Nat) (L4 : St → Int32 → Int32 → Prop) (K : Int32 → St → Prop) (f : St) (x1 : Int32) (x2 : Int32) : Prop :=
  (f a 1 ≤ x2 → K (f a 1) f) ∧ (¬ f a 1 ≤ x2 → kX4_signAt P f a x2 (fun r15 g15 => kX4_stateBehind P g15 x1 r15 (fun r18 g18 => (¬ r18 = (-1) → ∀ x2_29 : Int32, x2_29 = x2 + 1 → L4 g18 r18 x2_29) ∧ (r18 = (-1) → K x2 g18))))
def vX4_firstErrorOfWorks (P : Sk) (f : St) (a : Nat) (L4 : St → Int32 → Int32 → Prop) (K : Int32 → St → Prop) : Prop :=
  L4 f 0 0
set_option maxRecDepth 20000 in
set_option maxHeartbeats 4000000 in
theorem mX4_firstErrorOfWorks (l : Launch) (G : Gl) (P : Sk) (f : St) (sz : Nat) (a : Nat) (ha : IsText P a) (K : Int32 → St → Prop) (I4 : St → Int32 → Int32 → Prop) (μ4 : St → Int32 → Int32 → Nat) 
  (h : vX4_firstErrorOfWorks P f a I4 K)
  (h4 : ∀ (g : St) (x1 : Int32) (x2 : Int32) , I4 g x1 x2 → bX4_firstErrorOfWorks_4 P a (fun g' z0 z1 => I4 g' z0 z1 ∧ μ4 g' z0 z1 < μ4 g x1 x2) K g x1 x2) :
  Met l yX4_firstErrorOfWorks (wU yX4_firstErrorOfWorks cX4_firstErrorOfWorks 3 (some .int)) rmX4_firstErrorOfWorks (PcW G P f sz [.ref a]) (QcI G P sz K) 0 0 (frA P sz) := by
  refine v_met (own := RX4) [.ref a] (by decide +kernel) rfl (Nat.le_of_ble_eq_true rfl) (fun p e s m args below meth c hsz o hr hnm => ?_)
  refine v_lv (lv2 := [(0, .ref a)]) rfl ?_
  have main : ∀ n : Nat, (∀ (g : St) (x1 : Int32) (x2 : Int32) , I4 g x1 x2 → μ4 g x1 x2 < n → V p l e rmX4_firstErrorOfWorks s m args below meth c 3 G (frA P sz) (MQ below (QcI G P sz K) args s 0 0 (frA P sz)) 0 0 P [(0, .ref a), (1, .int x1), (2, .int x2)] [] 4 g) := by
    intro n
    induction n with
    | zero => exact fun g x1 x2 hI hm => absurd hm (Nat.not_lt_zero _)
    | succ n ih =>
      intro g x1 x2 hI hm
      have h := h4 g x1 x2 hI
      clear hI
      unfold bX4_firstErrorOfWorks_4 at h
      refine v_iload_n o 2 dX4_firstErrorOfWorks_4 rfl ?_
      refine v_aload_n o 0 dX4_firstErrorOfWorks_5 rfl ?_
      refine v_gfI o lkX4_20 (by decide) (wfText_o ha) dX4_firstErrorOfWorks_6 ?_
      refine v_icmp_ge o (tgt := 35) dX4_firstErrorOfWorks_9 (by decide) (fun c9 => ?_) (fun c9 => ?_)
      · replace h := h.1 c9
        refine v_aload_n o 0 dX4_firstErrorOfWorks_35 rfl ?_
        refine v_gfI o lkX4_20 (by decide) (wfText_o ha) dX4_firstErrorOfWorks_36 ?_
        exact v_iret o rfl hr dX4_firstErrorOfWorks_39 h
      · replace h := h.2 c9
        refine v_iload_n o 1 dX4_firstErrorOfWorks_12 rfl ?_
        refine v_aload_n o 0 dX4_firstErrorOfWorks_13 rfl ?_
        refine v_iload_n o 2 dX4_firstErrorOfWorks_14 rfl ?_
        refine v_cVi o [.int x2] [.int x1] (fun sz => metX4_signAt l G P g sz a ha x2 _ h) (cwX4_32 o.1.2.2.2.2 (by decide)) ⟨_, _, rfl⟩ (by decide) (wfText_o ha) rfl (Nat.le_of_ble_eq_true rfl) ⟨Nat.zero_le _, Nat.zero_le _⟩ dX4_firstErrorOfWorks_15 rfl (fun r15 g15 h => ?_)
        refine v_cSi o [.int x1, .int r15] [] (fun sz => metX4_stateBehind l G P g15 sz x1 r15 _ h) (cwX4_68 o.1.2.2.2.2 (by decide)) rfl (Nat.le_of_ble_eq_true rfl) ⟨Nat.zero_le _, Nat.zero_le _⟩ dX4_firstErrorOfWorks_18 rfl (fun r18 g18 h => ?_)
        refine v_istore_n o (lv' := [(1, .int r18), (0, .ref a), (2, .int x2)]) dX4_firstErrorOfWorks_21 rfl (by decide) rfl ?_
        refine v_iload_n o 0 dX4_firstErrorOfWorks_22 rfl ?_
        refine v_iconst o (v := (-1)) dX4_firstErrorOfWorks_23 (by decide) ?_
        refine v_icmp_ne o (tgt := 29) dX4_firstErrorOfWorks_24 (by decide) (fun c24 => ?_) (fun c24 => ?_)
        · replace h := h.1 c24
          obtain ⟨x2_29, ex2_29⟩ : ∃ y : Int32, y = x2 + 1 := ⟨_, rfl⟩
          replace h := h x2_29 ex2_29
          refine v_iinc o (v := x2_29) (lv' := [(2, .int x2_29), (1, .int r18), (0, .ref a)]) 2 dX4_firstErrorOfWorks_29 rfl (by rw [ex2_29]; rfl) (by decide) rfl ?_
          refine v_goto o (tgt := 4) dX4_firstErrorOfWorks_32 (by decide) ?_
          refine v_sub [2, 1, 0] (lv2 := [(0, .ref a), (1, .int r18), (2, .int x2_29)]) rfl ?_
          exact ih g18 r18 x2_29  h.1 (by have := h.2; omega)
        · replace h := h.2 c24
          refine v_iload_n o 2 dX4_firstErrorOfWorks_27 rfl ?_
          exact v_iret o rfl hr dX4_firstErrorOfWorks_28 h
  unfold vX4_firstErrorOfWorks at h
  refine v_iconst o (v := 0) dX4_firstErrorOfWorks_0 (by decide) ?_
  refine v_istore_n o (lv' := [(1, .int 0), (0, .ref a)]) dX4_firstErrorOfWorks_1 rfl (by decide) rfl ?_
  refine v_iconst o (v := 0) dX4_firstErrorOfWorks_2 (by decide) ?_
  refine v_istore_n o (lv' := [(2, .int 0), (1, .int 0), (0, .ref a)]) dX4_firstErrorOfWorks_3 rfl (by decide) rfl ?_
  refine v_sub [2, 1, 0] (lv2 := [(0, .ref a), (1, .int 0), (2, .int 0)]) rfl ?_
  exact (main (μ4 f 0 0 + 1)) f 0 0  h (Nat.lt_succ_self _)
def kX4_firstErrorOfWorks (P : Sk) (f : St) (a : Nat) (K : Int32 → St → Prop) : Prop := False
theorem metX4_firstErrorOfWorks (l : Launch) (G : Gl) (P : Sk) (f : St) (sz : Nat) (a : Nat) (ha : IsText P a) (K : Int32 → St → Prop) (h : kX4_firstErrorOfWorks P f a K) : Met l yX4_firstErrorOfWorks (wU yX4_firstErrorOfWorks cX4_firstErrorOfWorks 3 (some .int)) rmX4_firstErrorOfWorks (PcW G P f sz [.ref a]) (QcI G P sz K) 0 0 (frA P sz) := sorry

def vX4_partSize (P : Sk) (f : St) (a : Nat) (p1 : Int32) (K : Int32 → St → Prop) : Prop :=
  kX4_signAt P f a p1 (fun r2 g2 => (r2 = 120 → K 4 g2) ∧ (¬ r2 = 120 → (¬ r2 = 106 → K 2 g2) ∧ (r2 = 106 → K 4 g2)))
set_option maxRecDepth 20000 in
set_option maxHeartbeats 4000000 in
theorem mX4_partSize (l : Launch) (G : Gl) (P : Sk) (f : St) (sz : Nat) (a : Nat) (ha : IsText P a) (p1 : Int32) (K : Int32 → St → Prop) (h : vX4_partSize P f a p1 K)  :
  Met l yX4_partSize (wU yX4_partSize cX4_partSize 3 (some .int)) rmX4_partSize (PcW G P f sz [.ref a, .int p1]) (QcI G P sz K) 0 0 (frA P sz) := by
  refine v_met (own := RX4) [.ref a, .int p1] (by decide +kernel) rfl (Nat.le_of_ble_eq_true rfl) (fun p e s m args below meth c hsz o hr hnm => ?_)
  refine v_lv (lv2 := [(0, .ref a), (1, .int p1)]) rfl ?_
  unfold vX4_partSize at h
  refine v_aload_n o 0 dX4_partSize_0 rfl ?_
  refine v_iload_n o 1 dX4_partSize_1 rfl ?_
  refine v_cVi o [.int p1] [] (fun sz => metX4_signAt l G P f sz a ha p1 _ h) (cwX4_32 o.1.2.2.2.2 (by decide)) ⟨_, _, rfl⟩ (by decide) (wfText_o ha) rfl (Nat.le_of_ble_eq_true rfl) ⟨Nat.zero_le _, Nat.zero_le _⟩ dX4_partSize_2 rfl (fun r2 g2 h => ?_)
  refine v_istore_n o (lv' := [(2, .int r2), (0, .ref a), (1, .int p1)]) dX4_partSize_5 rfl (by decide) rfl ?_
  refine v_iload_n o 0 dX4_partSize_6 rfl ?_
  refine v_bipush o (v := 120) dX4_partSize_7 (by decide) ?_
  refine v_icmp_eq o (tgt := 18) dX4_partSize_9 (by decide) (fun c9 => ?_) (fun c9 => ?_)
  · replace h := h.1 c9
    refine v_iconst o (v := 4) dX4_partSize_18 (by decide) ?_
    refine v_goto o (tgt := 23) dX4_partSize_19 (by decide) ?_
    exact v_iret o rfl hr dX4_partSize_23 h
  · replace h := h.2 c9
    refine v_iload_n o 0 dX4_partSize_12 rfl ?_
    refine v_bipush o (v := 106) dX4_partSize_13 (by decide) ?_
    refine v_icmp_ne o (tgt := 22) dX4_partSize_15 (by decide) (fun c15 => ?_) (fun c15 => ?_)
    · replace h := h.1 c15
      refine v_iconst o (v := 2) dX4_partSize_22 (by decide) ?_
      exact v_iret o rfl hr dX4_partSize_23 h
    · replace h := h.2 c15
      refine v_iconst o (v := 4) dX4_partSize_18 (by decide) ?_
      refine v_goto o (tgt := 23) dX4_partSize_19 (by decide) ?_
      exact v_iret o rfl hr dX4_partSize_23 h
abbrev kX4_partSize := @vX4_partSize
abbrev metX4_partSize := @mX4_partSize

def vX4_howAt (P : Sk) (f : St) (a : Nat) (p1 : Int32) (K : Int32 → St → Prop) : Prop :=
  kX4_signAt P f a p1 (fun r2 g2 => (r2 = 108 → K 3 g2) ∧ (¬ r2 = 108 → (r2 = 109 → K 0 g2) ∧ (¬ r2 = 109 → (r2 = 114 → K 2 g2) ∧ (¬ r2 = 114 → (r2 = 116 → K 1 g2) ∧ (¬ r2 = 116 → K (-1) g2)))))
set_option maxRecDepth 20000 in
set_option maxHeartbeats 4000000 in
theorem mX4_howAt (l : Launch) (G : Gl) (P : Sk) (f : St) (sz : Nat) (a : Nat) (ha : IsText P a) (p1 : Int32) (K : Int32 → St → Prop) (h : vX4_howAt P f a p1 K)  :
  Met l yX4_howAt (wU yX4_howAt cX4_howAt 2 (some .int)) rmX4_howAt (PcW G P f sz [.ref a, .int p1]) (QcI G P sz K) 0 0 (frA P sz) := by
  refine v_met (own := RX4) [.ref a, .int p1] (by decide +kernel) rfl (Nat.le_of_ble_eq_true rfl) (fun p e s m args below meth c hsz o hr hnm => ?_)
  refine v_lv (lv2 := [(0, .ref a), (1, .int p1)]) rfl ?_
  unfold vX4_howAt at h
  refine v_aload_n o 0 dX4_howAt_0 rfl ?_
  refine v_iload_n o 1 dX4_howAt_1 rfl ?_
  refine v_cVi o [.int p1] [] (fun sz => metX4_signAt l G P f sz a ha p1 _ h) (cwX4_32 o.1.2.2.2.2 (by decide)) ⟨_, _, rfl⟩ (by decide) (wfText_o ha) rfl (Nat.le_of_ble_eq_true rfl) ⟨Nat.zero_le _, Nat.zero_le _⟩ dX4_howAt_2 rfl (fun r2 g2 h => ?_)
  by_cases c5_108 : r2 = 108
  · replace h := h.1 c5_108
    refine v_tableIn o (off := 57) (tgt := 62) dX4_howAt_5 (by rw [c5_108]; decide) (by rw [c5_108]; decide) (by rw [c5_108]; decide) (by decide) ?_
    refine v_iconst o (v := 3) dX4_howAt_62 (by decide) ?_
    exact v_iret o rfl hr dX4_howAt_63 h
  · replace h := h.2 c5_108
    by_cases c5_109 : r2 = 109
    · replace h := h.1 c5_109
      refine v_tableIn o (off := 51) (tgt := 56) dX4_howAt_5 (by rw [c5_109]; decide) (by rw [c5_109]; decide) (by rw [c5_109]; decide) (by decide) ?_
      refine v_iconst o (v := 0) dX4_howAt_56 (by decide) ?_
      exact v_iret o rfl hr dX4_howAt_57 h
    · replace h := h.2 c5_109
      by_cases c5_114 : r2 = 114
      · replace h := h.1 c5_114
        refine v_tableIn o (off := 55) (tgt := 60) dX4_howAt_5 (by rw [c5_114]; decide) (by rw [c5_114]; decide) (by rw [c5_114]; decide) (by decide) ?_
        refine v_iconst o (v := 2) dX4_howAt_60 (by decide) ?_
        exact v_iret o rfl hr dX4_howAt_61 h
      · replace h := h.2 c5_114
        by_cases c5_116 : r2 = 116
        · replace h := h.1 c5_116
          refine v_tableIn o (off := 53) (tgt := 58) dX4_howAt_5 (by rw [c5_116]; decide) (by rw [c5_116]; decide) (by rw [c5_116]; decide) (by decide) ?_
          refine v_iconst o (v := 1) dX4_howAt_58 (by decide) ?_
          exact v_iret o rfl hr dX4_howAt_59 h
        · replace h := h.2 c5_116
          have D5 : V p l e rmX4_howAt s m args below meth c 2 G (frA P sz) (MQ below (QcI G P sz K) args s 0 0 (frA P sz)) 0 0 P [(0, .ref a), (1, .int p1)] [] 64 g2 := by
            refine v_iconst o (v := (-1)) dX4_howAt_64 (by decide) ?_
            exact v_iret o rfl hr dX4_howAt_65 h
          have E5 : (r2).toInt < 108 ∨ 116 < (r2).toInt ∨ (r2).toInt = 110 ∨ (r2).toInt = 111 ∨ (r2).toInt = 112 ∨ (r2).toInt = 113 ∨ (r2).toInt = 115 := by have q0 := lv_neT c5_108 (a := 108) (by decide); have q1 := lv_neT c5_109 (a := 109) (by decide); have q2 := lv_neT c5_114 (a := 114) (by decide); have q3 := lv_neT c5_116 (a := 116) (by decide); omega
          rcases E5 with E | E | E | E | E | E | E
          · exact v_tableOut o (tgt := 64) dX4_howAt_5 (Or.inl E) (by decide) D5
          · exact v_tableOut o (tgt := 64) dX4_howAt_5 (Or.inr E) (by decide) D5
          · exact v_tableIn o (off := 59) (tgt := 64) dX4_howAt_5 (by rw [E]; decide) (by rw [E]; decide) (by rw [E]; decide) (by decide) D5
          · exact v_tableIn o (off := 59) (tgt := 64) dX4_howAt_5 (by rw [E]; decide) (by rw [E]; decide) (by rw [E]; decide) (by decide) D5
          · exact v_tableIn o (off := 59) (tgt := 64) dX4_howAt_5 (by rw [E]; decide) (by rw [E]; decide) (by rw [E]; decide) (by decide) D5
          · exact v_tableIn o (off := 59) (tgt := 64) dX4_howAt_5 (by rw [E]; decide) (by rw [E]; decide) (by rw [E]; decide) (by decide) D5
          · exact v_tableIn o (off := 59) (tgt := 64) dX4_howAt_5 (by rw [E]; decide) (by rw [E]; decide) (by rw [E]; decide) (by decide) D5
abbrev kX4_howAt := @vX4_howAt
abbrev metX4_howAt := @mX4_howAt

def bX5_doughUsedByAll_4 (P : Sk) (a : Nat) (L4 : St → Int32 → Int32 → Prop) (K : Int32 → St → Prop) (f : St) (x1 : Int32) (x2 : Int32) : Prop :=
  (f a 7 ≤ x2 → K x1 f) ∧ (¬ f a 7 ≤ x2 → kX5_doughUsed P f a x2 (fun r15 g15 => ∀ x1_19 : Int32, x1_19 = x1 + r15 → ∀ x2_20 : Int32, x2_20 = x2 + 1 → L4 g15 x1_19 x2_20))
def vX5_doughUsedByAll (P : Sk) (f : St) (a : Nat) (L4 : St → Int32 → Int32 → Prop) (K : Int32 → St → Prop) : Prop :=
  L4 f 0 0
set_option maxRecDepth 20000 in
set_option maxHeartbeats 4000000 in
theorem mX5_doughUsedByAll (l : Launch) (G : Gl) (P : Sk) (f : St) (sz : Nat) (a : Nat) (ha : IsTrace P a) (K : Int32 → St → Prop) (I4 : St → Int32 → Int32 → Prop) (μ4 : St → Int32 → Int32 → Nat) 
  (h : vX5_doughUsedByAll P f a I4 K)
  (h4 : ∀ (g : St) (x1 : Int32) (x2 : Int32) , I4 g x1 x2 → bX5_doughUsedByAll_4 P a (fun g' z0 z1 => I4 g' z0 z1 ∧ μ4 g' z0 z1 < μ4 g x1 x2) K g x1 x2) :
  Met l yX5_doughUsedByAll (wU yX5_doughUsedByAll cX5_doughUsedByAll 3 (some .int)) rmX5_doughUsedByAll (PcW G P f sz [.ref a]) (QcI G P sz K) 0 0 (frA P sz) := by
  refine v_met (own := RX5) [.ref a] (by decide +kernel) rfl (Nat.le_of_ble_eq_true rfl) (fun p e s m args below meth c hsz o hr hnm => ?_)
  refine v_lv (lv2 := [(0, .ref a)]) rfl ?_
  have main : ∀ n : Nat, (∀ (g : St) (x1 : Int32) (x2 : Int32) , I4 g x1 x2 → μ4 g x1 x2 < n → V p l e rmX5_doughUsedByAll s m args below meth c 3 G (frA P sz) (MQ below (QcI G P sz K) args s 0 0 (frA P sz)) 0 0 P [(0, .ref a), (1, .int x1), (2, .int x2)] [] 4 g) := by
    intro n
    induction n with
    | zero => exact fun g x1 x2 hI hm => absurd hm (Nat.not_lt_zero _)
    | succ n ih =>
      intro g x1 x2 hI hm
      have h := h4 g x1 x2 hI
      clear hI
      unfold bX5_doughUsedByAll_4 at h
      refine v_iload_n o 2 dX5_doughUsedByAll_4 rfl ?_
      refine v_aload_n o 0 dX5_doughUsedByAll_5 rfl ?_
      refine v_gfI o lkX5_38 (by decide) (wfTrace_o ha) dX5_doughUsedByAll_6 ?_
      refine v_icmp_ge o (tgt := 26) dX5_doughUsedByAll_9 (by decide) (fun c9 => ?_) (fun c9 => ?_)
      · replace h := h.1 c9
        refine v_iload_n o 1 dX5_doughUsedByAll_26 rfl ?_
        exact v_iret o rfl hr dX5_doughUsedByAll_27 h
      · replace h := h.2 c9
        refine v_iload_n o 1 dX5_doughUsedByAll_12 rfl ?_
        refine v_aload_n o 0 dX5_doughUsedByAll_13 rfl ?_
        refine v_iload_n o 2 dX5_doughUsedByAll_14 rfl ?_
        refine v_cVi o [.int x2] [.int x1] (fun sz => metX5_doughUsed l G P g sz a ha x2 _ h) (cwX5_75 o.1.2.2.2.2 (by decide)) ⟨_, _, rfl⟩ (by decide) (wfTrace_o ha) rfl (Nat.le_of_ble_eq_true rfl) ⟨Nat.zero_le _, Nat.zero_le _⟩ dX5_doughUsedByAll_15 rfl (fun r15 g15 h => ?_)
        refine v_iadd o dX5_doughUsedByAll_18 ?_
        refine v_topi (fun x1_19 ex1_19 => ?_)
        replace h := h x1_19 ex1_19
        refine v_istore_n o (lv' := [(1, .int x1_19), (0, .ref a), (2, .int x2)]) dX5_doughUsedByAll_19 rfl (by decide) rfl ?_
        obtain ⟨x2_20, ex2_20⟩ : ∃ y : Int32, y = x2 + 1 := ⟨_, rfl⟩
        replace h := h x2_20 ex2_20
        refine v_iinc o (v := x2_20) (lv' := [(2, .int x2_20), (1, .int x1_19), (0, .ref a)]) 2 dX5_doughUsedByAll_20 rfl (by rw [ex2_20]; rfl) (by decide) rfl ?_
        refine v_goto o (tgt := 4) dX5_doughUsedByAll_23 (by decide) ?_
        refine v_sub [2, 1, 0] (lv2 := [(0, .ref a), (1, .int x1_19), (2, .int x2_20)]) rfl ?_
        exact ih g15 x1_19 x2_20  h.1 (by have := h.2; omega)
  unfold vX5_doughUsedByAll at h
  refine v_iconst o (v := 0) dX5_doughUsedByAll_0 (by decide) ?_
  refine v_istore_n o (lv' := [(1, .int 0), (0, .ref a)]) dX5_doughUsedByAll_1 rfl (by decide) rfl ?_
  refine v_iconst o (v := 0) dX5_doughUsedByAll_2 (by decide) ?_
  refine v_istore_n o (lv' := [(2, .int 0), (1, .int 0), (0, .ref a)]) dX5_doughUsedByAll_3 rfl (by decide) rfl ?_
  refine v_sub [2, 1, 0] (lv2 := [(0, .ref a), (1, .int 0), (2, .int 0)]) rfl ?_
  exact (main (μ4 f 0 0 + 1)) f 0 0  h (Nat.lt_succ_self _)
def kX5_doughUsedByAll (P : Sk) (f : St) (a : Nat) (K : Int32 → St → Prop) : Prop := False
theorem metX5_doughUsedByAll (l : Launch) (G : Gl) (P : Sk) (f : St) (sz : Nat) (a : Nat) (ha : IsTrace P a) (K : Int32 → St → Prop) (h : kX5_doughUsedByAll P f a K) : Met l yX5_doughUsedByAll (wU yX5_doughUsedByAll cX5_doughUsedByAll 3 (some .int)) rmX5_doughUsedByAll (PcW G P f sz [.ref a]) (QcI G P sz K) 0 0 (frA P sz) := sorry

def jX5_mostHidden_33 (P : Sk) (a : Nat) (L4 : St → Int32 → Int32 → Prop) (K : Int32 → St → Prop) (x1 : Int32) (x2 : Int32) (f : St) : Prop :=
  ∀ x2_33 : Int32, x2_33 = x2 + 1 → L4 f x1 x2_33
def bX5_mostHidden_4 (P : Sk) (a : Nat) (L4 : St → Int32 → Int32 → Prop) (K : Int32 → St → Prop) (f : St) (x1 : Int32) (x2 : Int32) : Prop :=
  (f a 7 ≤ x2 → K x1 f) ∧ (¬ f a 7 ≤ x2 → kX3_at P f (a + 9) x2 (fun r17 g17 => kX3_at P g17 (a + 9) x1 (fun r25 g25 => (r17 ≤ r25 → jX5_mostHidden_33 P a L4 K x1 x2 g25) ∧ (¬ r17 ≤ r25 → jX5_mostHidden_33 P a L4 K x2 x2 g25))))
def vX5_mostHidden (P : Sk) (f : St) (a : Nat) (L4 : St → Int32 → Int32 → Prop) (K : Int32 → St → Prop) : Prop :=
  L4 f 0 1
set_option maxRecDepth 20000 in
set_option maxHeartbeats 4000000 in
theorem mX5_mostHidden (l : Launch) (G : Gl) (P : Sk) (f : St) (sz : Nat) (a : Nat) (ha : IsTrace P a) (K : Int32 → St → Prop) (I4 : St → Int32 → Int32 → Prop) (μ4 : St → Int32 → Int32 → Nat) 
  (h : vX5_mostHidden P f a I4 K)
  (h4 : ∀ (g : St) (x1 : Int32) (x2 : Int32) , I4 g x1 x2 → bX5_mostHidden_4 P a (fun g' z0 z1 => I4 g' z0 z1 ∧ μ4 g' z0 z1 < μ4 g x1 x2) K g x1 x2) :
  Met l yX5_mostHidden (wU yX5_mostHidden cX5_mostHidden 3 (some .int)) rmX5_mostHidden (PcW G P f sz [.ref a]) (QcI G P sz K) 0 0 (frA P sz) := by
  refine v_met (own := RX5) [.ref a] (by decide +kernel) rfl (Nat.le_of_ble_eq_true rfl) (fun p e s m args below meth c hsz o hr hnm => ?_)
  refine v_lv (lv2 := [(0, .ref a)]) rfl ?_
  have main : ∀ n : Nat, (∀ (g : St) (x1 : Int32) (x2 : Int32) , I4 g x1 x2 → μ4 g x1 x2 < n → V p l e rmX5_mostHidden s m args below meth c 3 G (frA P sz) (MQ below (QcI G P sz K) args s 0 0 (frA P sz)) 0 0 P [(0, .ref a), (1, .int x1), (2, .int x2)] [] 4 g) := by
    intro n
    induction n with
    | zero => exact fun g x1 x2 hI hm => absurd hm (Nat.not_lt_zero _)
    | succ n ih =>
      intro g x1 x2 hI hm
      have h := h4 g x1 x2 hI
      clear hI
      have J33 : ∀ (x1_33 : Int32) (x2_33 : Int32) (g33 : St), jX5_mostHidden_33 P a (fun g' z0 z1 => I4 g' z0 z1 ∧ μ4 g' z0 z1 < μ4 g x1 x2) K x1_33 x2_33 g33 → V p l e rmX5_mostHidden s m args below meth c 3 G (frA P sz) (MQ below (QcI G P sz K) args s 0 0 (frA P sz)) 0 0 P [(0, .ref a), (1, .int x1_33), (2, .int x2_33)] [] 33 g33 := by
        intro x1_33 x2_33 g33  h
        unfold jX5_mostHidden_33 at h
        obtain ⟨x2_33, ex2_33⟩ : ∃ y : Int32, y = x2_33 + 1 := ⟨_, rfl⟩
        replace h := h x2_33 ex2_33
        refine v_iinc o (v := x2_33) (lv' := [(2, .int x2_33), (0, .ref a), (1, .int x1_33)]) 2 dX5_mostHidden_33 rfl (by rw [ex2_33]; rfl) (by decide) rfl ?_
        refine v_goto o (tgt := 4) dX5_mostHidden_36 (by decide) ?_
        refine v_sub [1, 2, 0] (lv2 := [(0, .ref a), (1, .int x1_33), (2, .int x2_33)]) rfl ?_
        exact ih g33 x1_33 x2_33  h.1 (by have := h.2; omega)
      unfold bX5_mostHidden_4 at h
      refine v_iload_n o 2 dX5_mostHidden_4 rfl ?_
      refine v_aload_n o 0 dX5_mostHidden_5 rfl ?_
      refine v_gfI o lkX5_38 (by decide) (wfTrace_o ha) dX5_mostHidden_6 ?_
      refine v_icmp_ge o (tgt := 39) dX5_mostHidden_9 (by decide) (fun c9 => ?_) (fun c9 => ?_)
      · replace h := h.1 c9
        refine v_iload_n o 1 dX5_mostHidden_39 rfl ?_
        exact v_iret o rfl hr dX5_mostHidden_40 h
      · replace h := h.2 c9
        refine v_aload_n o 0 dX5_mostHidden_12 rfl ?_
        refine v_gfR o lkX5_29 (by decide) (wfTrace_o ha) (wfTrace_r4 ha) dX5_mostHidden_13 ?_
        refine v_iload_n o 2 dX5_mostHidden_16 rfl ?_
        refine v_cVi o [.int x2] [] (fun sz => metX3_at l G P g sz (a + 9) (wfTrace_t4 ha) x2 _ h) (cwX5_61 o.1.2.2.2.2 (by decide)) ⟨_, _, rfl⟩ (by decide) (wfRow_o (wfTrace_t4 ha)) rfl (Nat.le_of_ble_eq_true rfl) ⟨Nat.zero_le _, Nat.zero_le _⟩ dX5_mostHidden_17 rfl (fun r17 g17 h => ?_)
        refine v_aload_n o 0 dX5_mostHidden_20 rfl ?_
        refine v_gfR o lkX5_29 (by decide) (wfTrace_o ha) (wfTrace_r4 ha) dX5_mostHidden_21 ?_
        refine v_iload_n o 1 dX5_mostHidden_24 rfl ?_
        refine v_cVi o [.int x1] [.int r17] (fun sz => metX3_at l G P g17 sz (a + 9) (wfTrace_t4 ha) x1 _ h) (cwX5_61 o.1.2.2.2.2 (by decide)) ⟨_, _, rfl⟩ (by decide) (wfRow_o (wfTrace_t4 ha)) rfl (Nat.le_of_ble_eq_true rfl) ⟨Nat.zero_le _, Nat.zero_le _⟩ dX5_mostHidden_25 rfl (fun r25 g25 h => ?_)
        refine v_icmp_le o (tgt := 33) dX5_mostHidden_28 (by decide) (fun c28 => ?_) (fun c28 => ?_)
        · replace h := h.1 c28
          refine v_sub [0, 1, 2] (lv2 := [(0, .ref a), (1, .int x1), (2, .int x2)]) rfl ?_
          exact J33 x1 x2 g25  h
        · replace h := h.2 c28
          refine v_iload_n o 2 dX5_mostHidden_31 rfl ?_
          refine v_istore_n o (lv' := [(1, .int x2), (0, .ref a), (2, .int x2)]) dX5_mostHidden_32 rfl (by decide) rfl ?_
          refine v_sub [1, 0, 2] (lv2 := [(0, .ref a), (1, .int x2), (2, .int x2)]) rfl ?_
          exact J33 x2 x2 g25  h
  unfold vX5_mostHidden at h
  refine v_iconst o (v := 0) dX5_mostHidden_0 (by decide) ?_
  refine v_istore_n o (lv' := [(1, .int 0), (0, .ref a)]) dX5_mostHidden_1 rfl (by decide) rfl ?_
  refine v_iconst o (v := 1) dX5_mostHidden_2 (by decide) ?_
  refine v_istore_n o (lv' := [(2, .int 1), (1, .int 0), (0, .ref a)]) dX5_mostHidden_3 rfl (by decide) rfl ?_
  refine v_sub [2, 1, 0] (lv2 := [(0, .ref a), (1, .int 0), (2, .int 1)]) rfl ?_
  exact (main (μ4 f 0 1 + 1)) f 0 1  h (Nat.lt_succ_self _)
def kX5_mostHidden (P : Sk) (f : St) (a : Nat) (K : Int32 → St → Prop) : Prop := False
theorem metX5_mostHidden (l : Launch) (G : Gl) (P : Sk) (f : St) (sz : Nat) (a : Nat) (ha : IsTrace P a) (K : Int32 → St → Prop) (h : kX5_mostHidden P f a K) : Met l yX5_mostHidden (wU yX5_mostHidden cX5_mostHidden 3 (some .int)) rmX5_mostHidden (PcW G P f sz [.ref a]) (QcI G P sz K) 0 0 (frA P sz) := sorry

def bX5_areAllHome_2 (P : Sk) (a : Nat) (L2 : St → Int32 → Prop) (K : Int32 → St → Prop) (f : St) (x1 : Int32) : Prop :=
  (f a 7 ≤ x1 → K 1 f) ∧ (¬ f a 7 ≤ x1 → kX3_at P f (a + 7) x1 (fun r15 g15 => (r15 = x1 → ∀ x1_24 : Int32, x1_24 = x1 + 1 → L2 g15 x1_24) ∧ (¬ r15 = x1 → K 0 g15)))
def vX5_areAllHome (P : Sk) (f : St) (a : Nat) (L2 : St → Int32 → Prop) (K : Int32 → St → Prop) : Prop :=
  L2 f 0
set_option maxRecDepth 20000 in
set_option maxHeartbeats 4000000 in
theorem mX5_areAllHome (l : Launch) (G : Gl) (P : Sk) (f : St) (sz : Nat) (a : Nat) (ha : IsTrace P a) (K : Int32 → St → Prop) (I2 : St → Int32 → Prop) (μ2 : St → Int32 → Nat) 
  (h : vX5_areAllHome P f a I2 K)
  (h2 : ∀ (g : St) (x1 : Int32) , I2 g x1 → bX5_areAllHome_2 P a (fun g' z0 => I2 g' z0 ∧ μ2 g' z0 < μ2 g x1) K g x1) :
  Met l yX5_areAllHome (wU yX5_areAllHome cX5_areAllHome 2 (some .boolean)) rmX5_areAllHome (PcW G P f sz [.ref a]) (QcI G P sz K) 0 0 (frA P sz) := by
  refine v_met (own := RX5) [.ref a] (by decide +kernel) rfl (Nat.le_of_ble_eq_true rfl) (fun p e s m args below meth c hsz o hr hnm => ?_)
  refine v_lv (lv2 := [(0, .ref a)]) rfl ?_
  have main : ∀ n : Nat, (∀ (g : St) (x1 : Int32) , I2 g x1 → μ2 g x1 < n → V p l e rmX5_areAllHome s m args below meth c 2 G (frA P sz) (MQ below (QcI G P sz K) args s 0 0 (frA P sz)) 0 0 P [(0, .ref a), (1, .int x1)] [] 2 g) := by
    intro n
    induction n with
    | zero => exact fun g x1 hI hm => absurd hm (Nat.not_lt_zero _)
    | succ n ih =>
      intro g x1 hI hm
      have h := h2 g x1 hI
      clear hI
      unfold bX5_areAllHome_2 at h
      refine v_iload_n o 1 dX5_areAllHome_2 rfl ?_
      refine v_aload_n o 0 dX5_areAllHome_3 rfl ?_
      refine v_gfI o lkX5_38 (by decide) (wfTrace_o ha) dX5_areAllHome_4 ?_
      refine v_icmp_ge o (tgt := 30) dX5_areAllHome_7 (by decide) (fun c7 => ?_) (fun c7 => ?_)
      · replace h := h.1 c7
        refine v_iconst o (v := 1) dX5_areAllHome_30 (by decide) ?_
        exact v_zret o rfl hr bz1.1 dX5_areAllHome_31 h
      · replace h := h.2 c7
        refine v_aload_n o 0 dX5_areAllHome_10 rfl ?_
        refine v_gfR o lkX5_26 (by decide) (wfTrace_o ha) (wfTrace_r3 ha) dX5_areAllHome_11 ?_
        refine v_iload_n o 1 dX5_areAllHome_14 rfl ?_
        refine v_cVi o [.int x1] [] (fun sz => metX3_at l G P g sz (a + 7) (wfTrace_t3 ha) x1 _ h) (cwX5_61 o.1.2.2.2.2 (by decide)) ⟨_, _, rfl⟩ (by decide) (wfRow_o (wfTrace_t3 ha)) rfl (Nat.le_of_ble_eq_true rfl) ⟨Nat.zero_le _, Nat.zero_le _⟩ dX5_areAllHome_15 rfl (fun r15 g15 h => ?_)
        refine v_iload_n o 1 dX5_areAllHome_18 rfl ?_
        refine v_icmp_eq o (tgt := 24) dX5_areAllHome_19 (by decide) (fun c19 => ?_) (fun c19 => ?_)
        · replace h := h.1 c19
          obtain ⟨x1_24, ex1_24⟩ : ∃ y : Int32, y = x1 + 1 := ⟨_, rfl⟩
          replace h := h x1_24 ex1_24
          refine v_iinc o (v := x1_24) (lv' := [(1, .int x1_24), (0, .ref a)]) 1 dX5_areAllHome_24 rfl (by rw [ex1_24]; rfl) (by decide) rfl ?_
          refine v_goto o (tgt := 2) dX5_areAllHome_27 (by decide) ?_
          refine v_sub [1, 0] (lv2 := [(0, .ref a), (1, .int x1_24)]) rfl ?_
          exact ih g15 x1_24  h.1 (by have := h.2; omega)
        · replace h := h.2 c19
          refine v_iconst o (v := 0) dX5_areAllHome_22 (by decide) ?_
          exact v_zret o rfl hr bz0.1 dX5_areAllHome_23 h
  unfold vX5_areAllHome at h
  refine v_iconst o (v := 0) dX5_areAllHome_0 (by decide) ?_
  refine v_istore_n o (lv' := [(1, .int 0), (0, .ref a)]) dX5_areAllHome_1 rfl (by decide) rfl ?_
  refine v_sub [1, 0] (lv2 := [(0, .ref a), (1, .int 0)]) rfl ?_
  exact (main (μ2 f 0 + 1)) f 0  h (Nat.lt_succ_self _)
def kX5_areAllHome (P : Sk) (f : St) (a : Nat) (K : Int32 → St → Prop) : Prop := False
theorem metX5_areAllHome (l : Launch) (G : Gl) (P : Sk) (f : St) (sz : Nat) (a : Nat) (ha : IsTrace P a) (K : Int32 → St → Prop) (h : kX5_areAllHome P f a K) : Met l yX5_areAllHome (wU yX5_areAllHome cX5_areAllHome 2 (some .boolean)) rmX5_areAllHome (PcW G P f sz [.ref a]) (QcI G P sz K) 0 0 (frA P sz) := sorry

def jX5_ringsByGoingRound_73 (P : Sk) (a : Nat) (L6 : St → Int32 → Int32 → Int32 → Prop) (L31 : St → Int32 → Int32 → Int32 → Int32 → Int32 → Prop) (K : Int32 → St → Prop) (x1 : Int32) (x2 : Int32) (x3 : Int32) (x4 : Int32) (x5 : Int32) (f : St) : Prop :=
  ∀ x3_73 : Int32, x3_73 = x3 + 1 → L6 f x1 x2 x3_73
def jX5_ringsByGoingRound_25 (P : Sk) (a : Nat) (L6 : St → Int32 → Int32 → Int32 → Prop) (L31 : St → Int32 → Int32 → Int32 → Int32 → Int32 → Prop) (K : Int32 → St → Prop) (x1 : Int32) (x2 : Int32) (x3 : Int32) (f : St) : Prop :=
  L31 f x1 x2 x3 x3 0
def bX5_ringsByGoingRound_6 (P : Sk) (a : Nat) (L6 : St → Int32 → Int32 → Int32 → Prop) (L31 : St → Int32 → Int32 → Int32 → Int32 → Int32 → Prop) (K : Int32 → St → Prop) (f : St) (x1 : Int32) (x2 : Int32) (x3 : Int32) : Prop :=
  (f a 7 ≤ x3 → K x1 f) ∧ (¬ f a 7 ≤ x3 → (¬ x2 &&& (1 <<< (x3 &&& 31)) = 0 → jX5_ringsByGoingRound_25 P a L6 L31 K x1 x2 x3 f) ∧ (x2 &&& (1 <<< (x3 &&& 31)) = 0 → ∀ x1_22 : Int32, x1_22 = x1 + 1 → jX5_ringsByGoingRound_25 P a L6 L31 K x1_22 x2 x3 f))
def bX5_ringsByGoingRound_31 (P : Sk) (a : Nat) (L6 : St → Int32 → Int32 → Int32 → Prop) (L31 : St → Int32 → Int32 → Int32 → Int32 → Int32 → Prop) (K : Int32 → St → Prop) (f : St) (x1 : Int32) (x2 : Int32) (x3 : Int32) (x4 : Int32) (x5 : Int32) : Prop :=
  (f a 7 ≤ x5 → jX5_ringsByGoingRound_73 P a L6 L31 K x1 x2 x3 x4 x5 f) ∧ (¬ f a 7 ≤ x5 → (¬ x2 &&& (1 <<< (x4 &&& 31)) = 0 → jX5_ringsByGoingRound_73 P a L6 L31 K x1 x2 x3 x4 x5 f) ∧ (x2 &&& (1 <<< (x4 &&& 31)) = 0 → ∀ x2_55 : Int32, x2_55 = x2 ||| (1 <<< (x4 &&& 31)) → kX3_at P f (a + 7) x4 (fun r62 g62 => ∀ x5_67 : Int32, x5_67 = x5 + 1 → L31 g62 x1 x2_55 x3 r62 x5_67)))
def vX5_ringsByGoingRound (P : Sk) (f : St) (a : Nat) (L6 : St → Int32 → Int32 → Int32 → Prop) (L31 : St → Int32 → Int32 → Int32 → Int32 → Int32 → Prop) (K : Int32 → St → Prop) : Prop :=
  L6 f 0 0 0
set_option maxRecDepth 20000 in
set_option maxHeartbeats 4000000 in
theorem mX5_ringsByGoingRound (l : Launch) (G : Gl) (P : Sk) (f : St) (sz : Nat) (a : Nat) (ha : IsTrace P a) (K : Int32 → St → Prop) (I6 : St → Int32 → Int32 → Int32 → Prop) (μ6 : St → Int32 → Int32 → Int32 → Nat) (I31 : St → Int32 → Int32 → Int32 → Int32 → Int32 → Prop) (μ31 : St → Int32 → Int32 → Int32 → Int32 → Int32 → Nat) 
  (h : vX5_ringsByGoingRound P f a I6 I31 K)
  (h6 : ∀ (g : St) (x1 : Int32) (x2 : Int32) (x3 : Int32) , I6 g x1 x2 x3 → bX5_ringsByGoingRound_6 P a (fun g' z0 z1 z2 => I6 g' z0 z1 z2 ∧ μ6 g' z0 z1 z2 < μ6 g x1 x2 x3) (fun g' z0 z1 z2 z3 z4 => I31 g' z0 z1 z2 z3 z4 ∧ μ31 g' z0 z1 z2 z3 z4 < μ6 g x1 x2 x3) K g x1 x2 x3)
  (h31 : ∀ (g : St) (x1 : Int32) (x2 : Int32) (x3 : Int32) (x4 : Int32) (x5 : Int32) , I31 g x1 x2 x3 x4 x5 → bX5_ringsByGoingRound_31 P a (fun g' z0 z1 z2 => I6 g' z0 z1 z2 ∧ μ6 g' z0 z1 z2 < μ31 g x1 x2 x3 x4 x5) (fun g' z0 z1 z2 z3 z4 => I31 g' z0 z1 z2 z3 z4 ∧ μ31 g' z0 z1 z2 z3 z4 < μ31 g x1 x2 x3 x4 x5) K g x1 x2 x3 x4 x5) :
  Met l yX5_ringsByGoingRound (wU yX5_ringsByGoingRound cX5_ringsByGoingRound 6 (some .int)) rmX5_ringsByGoingRound (PcW G P f sz [.ref a]) (QcI G P sz K) 0 0 (frA P sz) := by
  refine v_met (own := RX5) [.ref a] (by decide +kernel) rfl (Nat.le_of_ble_eq_true rfl) (fun p e s m args below meth c hsz o hr hnm => ?_)
  refine v_lv (lv2 := [(0, .ref a)]) rfl ?_
  have main : ∀ n : Nat, (∀ (g : St) (x1 : Int32) (x2 : Int32) (x3 : Int32) , I6 g x1 x2 x3 → μ6 g x1 x2 x3 < n → V p l e rmX5_ringsByGoingRound s m args below meth c 6 G (frA P sz) (MQ below (QcI G P sz K) args s 0 0 (frA P sz)) 0 0 P [(0, .ref a), (1, .int x1), (2, .int x2), (3, .int x3)] [] 6 g) ∧ (∀ (g : St) (x1 : Int32) (x2 : Int32) (x3 : Int32) (x4 : Int32) (x5 : Int32) , I31 g x1 x2 x3 x4 x5 → μ31 g x1 x2 x3 x4 x5 < n → V p l e rmX5_ringsByGoingRound s m args below meth c 6 G (frA P sz) (MQ below (QcI G P sz K) args s 0 0 (frA P sz)) 0 0 P [(0, .ref a), (1, .int x1), (2, .int x2), (3, .int x3), (4, .int x4), (5, .int x5)] [] 31 g) := by
    intro n
    induction n with
    | zero => exact ⟨fun g x1 x2 x3 hI hm => absurd hm (Nat.not_lt_zero _), fun g x1 x2 x3 x4 x5 hI hm => absurd hm (Nat.not_lt_zero _)⟩
    | succ n ih =>
      refine ⟨?_, ?_⟩
      · intro g x1 x2 x3 hI hm
        have h := h6 g x1 x2 x3 hI
        clear hI
        have J25 : ∀ (x1_25 : Int32) (x2_25 : Int32) (x3_25 : Int32) (g25 : St), jX5_ringsByGoingRound_25 P a (fun g' z0 z1 z2 => I6 g' z0 z1 z2 ∧ μ6 g' z0 z1 z2 < μ6 g x1 x2 x3) (fun g' z0 z1 z2 z3 z4 => I31 g' z0 z1 z2 z3 z4 ∧ μ31 g' z0 z1 z2 z3 z4 < μ6 g x1 x2 x3) K x1_25 x2_25 x3_25 g25 → V p l e rmX5_ringsByGoingRound s m args below meth c 6 G (frA P sz) (MQ below (QcI G P sz K) args s 0 0 (frA P sz)) 0 0 P [(0, .ref a), (1, .int x1_25), (2, .int x2_25), (3, .int x3_25)] [] 25 g25 := by
          intro x1_25 x2_25 x3_25 g25  h
          unfold jX5_ringsByGoingRound_25 at h
          refine v_iload_n o 3 dX5_ringsByGoingRound_25 rfl ?_
          refine v_istore o (lv' := [(4, .int x3_25), (0, .ref a), (1, .int x1_25), (2, .int x2_25), (3, .int x3_25)]) dX5_ringsByGoingRound_26 (by decide) rfl ?_
          refine v_iconst o (v := 0) dX5_ringsByGoingRound_28 (by decide) ?_
          refine v_istore o (lv' := [(5, .int 0), (4, .int x3_25), (0, .ref a), (1, .int x1_25), (2, .int x2_25), (3, .int x3_25)]) dX5_ringsByGoingRound_29 (by decide) rfl ?_
          refine v_sub [2, 3, 4, 5, 1, 0] (lv2 := [(0, .ref a), (1, .int x1_25), (2, .int x2_25), (3, .int x3_25), (4, .int x3_25), (5, .int 0)]) rfl ?_
          exact ih.2 g25 x1_25 x2_25 x3_25 x3_25 0  h.1 (by have := h.2; omega)
        unfold bX5_ringsByGoingRound_6 at h
        refine v_iload_n o 3 dX5_ringsByGoingRound_6 rfl ?_
        refine v_aload_n o 0 dX5_ringsByGoingRound_7 rfl ?_
        refine v_gfI o lkX5_38 (by decide) (wfTrace_o ha) dX5_ringsByGoingRound_8 ?_
        refine v_icmp_ge o (tgt := 79) dX5_ringsByGoingRound_11 (by decide) (fun c11 => ?_) (fun c11 => ?_)
        · replace h := h.1 c11
          refine v_iload_n o 1 dX5_ringsByGoingRound_79 rfl ?_
          exact v_iret o rfl hr dX5_ringsByGoingRound_80 h
        · replace h := h.2 c11
          refine v_iload_n o 2 dX5_ringsByGoingRound_14 rfl ?_
          refine v_iconst o (v := 1) dX5_ringsByGoingRound_15 (by decide) ?_
          refine v_iload_n o 3 dX5_ringsByGoingRound_16 rfl ?_
          refine v_ishl o dX5_ringsByGoingRound_17 ?_
          refine v_iand o dX5_ringsByGoingRound_18 ?_
          refine v_if_ne o (tgt := 25) dX5_ringsByGoingRound_19 (by decide) (fun c19 => ?_) (fun c19 => ?_)
          · replace h := h.1 c19
            refine v_sub [0, 1, 2, 3] (lv2 := [(0, .ref a), (1, .int x1), (2, .int x2), (3, .int x3)]) rfl ?_
            exact J25 x1 x2 x3 g  h
          · replace h := h.2 c19
            obtain ⟨x1_22, ex1_22⟩ : ∃ y : Int32, y = x1 + 1 := ⟨_, rfl⟩
            replace h := h x1_22 ex1_22
            refine v_iinc o (v := x1_22) (lv' := [(1, .int x1_22), (0, .ref a), (2, .int x2), (3, .int x3)]) 1 dX5_ringsByGoingRound_22 rfl (by rw [ex1_22]; rfl) (by decide) rfl ?_
            refine v_sub [1, 0, 2, 3] (lv2 := [(0, .ref a), (1, .int x1_22), (2, .int x2), (3, .int x3)]) rfl ?_
            exact J25 x1_22 x2 x3 g  h
      · intro g x1 x2 x3 x4 x5 hI hm
        have h := h31 g x1 x2 x3 x4 x5 hI
        clear hI
        have J73 : ∀ (x1_73 : Int32) (x2_73 : Int32) (x3_73 : Int32) (x4_73 : Int32) (x5_73 : Int32) (g73 : St), jX5_ringsByGoingRound_73 P a (fun g' z0 z1 z2 => I6 g' z0 z1 z2 ∧ μ6 g' z0 z1 z2 < μ31 g x1 x2 x3 x4 x5) (fun g' z0 z1 z2 z3 z4 => I31 g' z0 z1 z2 z3 z4 ∧ μ31 g' z0 z1 z2 z3 z4 < μ31 g x1 x2 x3 x4 x5) K x1_73 x2_73 x3_73 x4_73 x5_73 g73 → V p l e rmX5_ringsByGoingRound s m args below meth c 6 G (frA P sz) (MQ below (QcI G P sz K) args s 0 0 (frA P sz)) 0 0 P [(0, .ref a), (1, .int x1_73), (2, .int x2_73), (3, .int x3_73), (4, .int x4_73), (5, .int x5_73)] [] 73 g73 := by
          intro x1_73 x2_73 x3_73 x4_73 x5_73 g73  h
          unfold jX5_ringsByGoingRound_73 at h
          obtain ⟨x3_73, ex3_73⟩ : ∃ y : Int32, y = x3_73 + 1 := ⟨_, rfl⟩
          replace h := h x3_73 ex3_73
          refine v_iinc o (v := x3_73) (lv' := [(3, .int x3_73), (0, .ref a), (1, .int x1_73), (2, .int x2_73), (4, .int x4_73), (5, .int x5_73)]) 3 dX5_ringsByGoingRound_73 rfl (by rw [ex3_73]; rfl) (by decide) rfl ?_
          refine v_goto o (tgt := 6) dX5_ringsByGoingRound_76 (by decide) ?_
          refine v_sub [1, 2, 3, 0] (lv2 := [(0, .ref a), (1, .int x1_73), (2, .int x2_73), (3, .int x3_73)]) rfl ?_
          exact ih.1 g73 x1_73 x2_73 x3_73  h.1 (by have := h.2; omega)
        unfold bX5_ringsByGoingRound_31 at h
        refine v_iload o 5 dX5_ringsByGoingRound_31 rfl ?_
        refine v_aload_n o 0 dX5_ringsByGoingRound_33 rfl ?_
        refine v_gfI o lkX5_38 (by decide) (wfTrace_o ha) dX5_ringsByGoingRound_34 ?_
        refine v_icmp_ge o (tgt := 73) dX5_ringsByGoingRound_37 (by decide) (fun c37 => ?_) (fun c37 => ?_)
        · replace h := h.1 c37
          refine v_sub [0, 1, 2, 3, 4, 5] (lv2 := [(0, .ref a), (1, .int x1), (2, .int x2), (3, .int x3), (4, .int x4), (5, .int x5)]) rfl ?_
          exact J73 x1 x2 x3 x4 x5 g  h
        · replace h := h.2 c37
          refine v_iload_n o 2 dX5_ringsByGoingRound_40 rfl ?_
          refine v_iconst o (v := 1) dX5_ringsByGoingRound_41 (by decide) ?_
          refine v_iload o 4 dX5_ringsByGoingRound_42 rfl ?_
          refine v_ishl o dX5_ringsByGoingRound_44 ?_
          refine v_iand o dX5_ringsByGoingRound_45 ?_
          refine v_if_ne o (tgt := 73) dX5_ringsByGoingRound_46 (by decide) (fun c46 => ?_) (fun c46 => ?_)
          · replace h := h.1 c46
            refine v_sub [0, 1, 2, 3, 4, 5] (lv2 := [(0, .ref a), (1, .int x1), (2, .int x2), (3, .int x3), (4, .int x4), (5, .int x5)]) rfl ?_
            exact J73 x1 x2 x3 x4 x5 g  h
          · replace h := h.2 c46
            refine v_iload_n o 2 dX5_ringsByGoingRound_49 rfl ?_
            refine v_iconst o (v := 1) dX5_ringsByGoingRound_50 (by decide) ?_
            refine v_iload o 4 dX5_ringsByGoingRound_51 rfl ?_
            refine v_ishl o dX5_ringsByGoingRound_53 ?_
            refine v_ior o dX5_ringsByGoingRound_54 ?_
            refine v_topi (fun x2_55 ex2_55 => ?_)
            replace h := h x2_55 ex2_55
            refine v_istore_n o (lv' := [(2, .int x2_55), (0, .ref a), (1, .int x1), (3, .int x3), (4, .int x4), (5, .int x5)]) dX5_ringsByGoingRound_55 rfl (by decide) rfl ?_
            refine v_aload_n o 1 dX5_ringsByGoingRound_56 rfl ?_
            refine v_gfR o lkX5_26 (by decide) (wfTrace_o ha) (wfTrace_r3 ha) dX5_ringsByGoingRound_57 ?_
            refine v_iload o 4 dX5_ringsByGoingRound_60 rfl ?_
            refine v_cVi o [.int x4] [] (fun sz => metX3_at l G P g sz (a + 7) (wfTrace_t3 ha) x4 _ h) (cwX5_61 o.1.2.2.2.2 (by decide)) ⟨_, _, rfl⟩ (by decide) (wfRow_o (wfTrace_t3 ha)) rfl (Nat.le_of_ble_eq_true rfl) ⟨Nat.zero_le _, Nat.zero_le _⟩ dX5_ringsByGoingRound_62 rfl (fun r62 g62 h => ?_)
            refine v_istore o (lv' := [(4, .int r62), (2, .int x2_55), (0, .ref a), (1, .int x1), (3, .int x3), (5, .int x5)]) dX5_ringsByGoingRound_65 (by decide) rfl ?_
            obtain ⟨x5_67, ex5_67⟩ : ∃ y : Int32, y = x5 + 1 := ⟨_, rfl⟩
            replace h := h x5_67 ex5_67
            refine v_iinc o (v := x5_67) (lv' := [(5, .int x5_67), (4, .int r62), (2, .int x2_55), (0, .ref a), (1, .int x1), (3, .int x3)]) 5 dX5_ringsByGoingRound_67 rfl (by rw [ex5_67]; rfl) (by decide) rfl ?_
            refine v_goto o (tgt := 31) dX5_ringsByGoingRound_70 (by decide) ?_
            refine v_sub [3, 4, 2, 5, 1, 0] (lv2 := [(0, .ref a), (1, .int x1), (2, .int x2_55), (3, .int x3), (4, .int r62), (5, .int x5_67)]) rfl ?_
            exact ih.2 g62 x1 x2_55 x3 r62 x5_67  h.1 (by have := h.2; omega)
  unfold vX5_ringsByGoingRound at h
  refine v_iconst o (v := 0) dX5_ringsByGoingRound_0 (by decide) ?_
  refine v_istore_n o (lv' := [(1, .int 0), (0, .ref a)]) dX5_ringsByGoingRound_1 rfl (by decide) rfl ?_
  refine v_iconst o (v := 0) dX5_ringsByGoingRound_2 (by decide) ?_
  refine v_istore_n o (lv' := [(2, .int 0), (1, .int 0), (0, .ref a)]) dX5_ringsByGoingRound_3 rfl (by decide) rfl ?_
  refine v_iconst o (v := 0) dX5_ringsByGoingRound_4 (by decide) ?_
  refine v_istore_n o (lv' := [(3, .int 0), (2, .int 0), (1, .int 0), (0, .ref a)]) dX5_ringsByGoingRound_5 rfl (by decide) rfl ?_
  refine v_sub [3, 2, 1, 0] (lv2 := [(0, .ref a), (1, .int 0), (2, .int 0), (3, .int 0)]) rfl ?_
  exact (main (μ6 f 0 0 0 + 1)).1 f 0 0 0  h (Nat.lt_succ_self _)
def kX5_ringsByGoingRound (P : Sk) (f : St) (a : Nat) (K : Int32 → St → Prop) : Prop := False
theorem metX5_ringsByGoingRound (l : Launch) (G : Gl) (P : Sk) (f : St) (sz : Nat) (a : Nat) (ha : IsTrace P a) (K : Int32 → St → Prop) (h : kX5_ringsByGoingRound P f a K) : Met l yX5_ringsByGoingRound (wU yX5_ringsByGoingRound cX5_ringsByGoingRound 6 (some .int)) rmX5_ringsByGoingRound (PcW G P f sz [.ref a]) (QcI G P sz K) 0 0 (frA P sz) := sorry

def jX5_renameRing_31 (P : Sk) (a : Nat) (p1 : Int32) (p2 : Int32) (L2 : St → Int32 → Prop) (K : St → Prop) (x3 : Int32) (f : St) : Prop :=
  ∀ x3_31 : Int32, x3_31 = x3 + 1 → L2 f x3_31
def bX5_renameRing_2 (P : Sk) (a : Nat) (p1 : Int32) (p2 : Int32) (L2 : St → Int32 → Prop) (K : St → Prop) (f : St) (x3 : Int32) : Prop :=
  (f a 7 ≤ x3 → K f) ∧ (¬ f a 7 ≤ x3 → kX3_at P f (a + 13) x3 (fun r15 g15 => (¬ r15 = p1 → jX5_renameRing_31 P a p1 p2 L2 K x3 g15) ∧ (r15 = p1 → kX3_put P g15 (a + 13) x3 p2 (fun g28 => jX5_renameRing_31 P a p1 p2 L2 K x3 g28))))
def vX5_renameRing (P : Sk) (f : St) (a : Nat) (p1 : Int32) (p2 : Int32) (L2 : St → Int32 → Prop) (K : St → Prop) : Prop :=
  L2 f 0
set_option maxRecDepth 20000 in
set_option maxHeartbeats 4000000 in
theorem mX5_renameRing (l : Launch) (G : Gl) (P : Sk) (f : St) (sz : Nat) (a : Nat) (ha : IsTrace P a) (p1 : Int32) (p2 : Int32) (K : St → Prop) (I2 : St → Int32 → Prop) (μ2 : St → Int32 → Nat) 
  (h : vX5_renameRing P f a p1 p2 I2 K)
  (h2 : ∀ (g : St) (x3 : Int32) , I2 g x3 → bX5_renameRing_2 P a p1 p2 (fun g' z0 => I2 g' z0 ∧ μ2 g' z0 < μ2 g x3) K g x3) :
  Met l yX5_renameRing (wU yX5_renameRing cX5_renameRing 4 none) rmX5_renameRing (PcW G P f sz [.ref a, .int p1, .int p2]) (QcV G P sz K) 0 0 (frA P sz) := by
  refine v_met (own := RX5) [.ref a, .int p1, .int p2] (by decide +kernel) rfl (Nat.le_of_ble_eq_true rfl) (fun p e s m args below meth c hsz o hr hnm => ?_)
  refine v_lv (lv2 := [(0, .ref a), (1, .int p1), (2, .int p2)]) rfl ?_
  have main : ∀ n : Nat, (∀ (g : St) (x3 : Int32) , I2 g x3 → μ2 g x3 < n → V p l e rmX5_renameRing s m args below meth c 4 G (frA P sz) (MQ below (QcV G P sz K) args s 0 0 (frA P sz)) 0 0 P [(0, .ref a), (1, .int p1), (2, .int p2), (3, .int x3)] [] 2 g) := by
    intro n
    induction n with
    | zero => exact fun g x3 hI hm => absurd hm (Nat.not_lt_zero _)
    | succ n ih =>
      intro g x3 hI hm
      have h := h2 g x3 hI
      clear hI
      have J31 : ∀ (x3_31 : Int32) (g31 : St), jX5_renameRing_31 P a p1 p2 (fun g' z0 => I2 g' z0 ∧ μ2 g' z0 < μ2 g x3) K x3_31 g31 → V p l e rmX5_renameRing s m args below meth c 4 G (frA P sz) (MQ below (QcV G P sz K) args s 0 0 (frA P sz)) 0 0 P [(0, .ref a), (1, .int p1), (2, .int p2), (3, .int x3_31)] [] 31 g31 := by
        intro x3_31 g31  h
        unfold jX5_renameRing_31 at h
        obtain ⟨x3_31, ex3_31⟩ : ∃ y : Int32, y = x3_31 + 1 := ⟨_, rfl⟩
        replace h := h x3_31 ex3_31
        refine v_iinc o (v := x3_31) (lv' := [(3, .int x3_31), (0, .ref a), (1, .int p1), (2, .int p2)]) 3 dX5_renameRing_31 rfl (by rw [ex3_31]; rfl) (by decide) rfl ?_
        refine v_goto o (tgt := 2) dX5_renameRing_34 (by decide) ?_
        refine v_sub [1, 2, 3, 0] (lv2 := [(0, .ref a), (1, .int p1), (2, .int p2), (3, .int x3_31)]) rfl ?_
        exact ih g31 x3_31  h.1 (by have := h.2; omega)
      unfold bX5_renameRing_2 at h
      refine v_iload_n o 3 dX5_renameRing_2 rfl ?_
      refine v_aload_n o 0 dX5_renameRing_3 rfl ?_
      refine v_gfI o lkX5_38 (by decide) (wfTrace_o ha) dX5_renameRing_4 ?_
      refine v_icmp_ge o (tgt := 37) dX5_renameRing_7 (by decide) (fun c7 => ?_) (fun c7 => ?_)
      · replace h := h.1 c7
        exact v_vret o rfl hr dX5_renameRing_37 h
      · replace h := h.2 c7
        refine v_aload_n o 0 dX5_renameRing_10 rfl ?_
        refine v_gfR o lkX5_35 (by decide) (wfTrace_o ha) (wfTrace_r6 ha) dX5_renameRing_11 ?_
        refine v_iload_n o 3 dX5_renameRing_14 rfl ?_
        refine v_cVi o [.int x3] [] (fun sz => metX3_at l G P g sz (a + 13) (wfTrace_t6 ha) x3 _ h) (cwX5_61 o.1.2.2.2.2 (by decide)) ⟨_, _, rfl⟩ (by decide) (wfRow_o (wfTrace_t6 ha)) rfl (Nat.le_of_ble_eq_true rfl) ⟨Nat.zero_le _, Nat.zero_le _⟩ dX5_renameRing_15 rfl (fun r15 g15 h => ?_)
        refine v_iload_n o 1 dX5_renameRing_18 rfl ?_
        refine v_icmp_ne o (tgt := 31) dX5_renameRing_19 (by decide) (fun c19 => ?_) (fun c19 => ?_)
        · replace h := h.1 c19
          refine v_sub [0, 1, 2, 3] (lv2 := [(0, .ref a), (1, .int p1), (2, .int p2), (3, .int x3)]) rfl ?_
          exact J31 x3 g15  h
        · replace h := h.2 c19
          refine v_aload_n o 0 dX5_renameRing_22 rfl ?_
          refine v_gfR o lkX5_35 (by decide) (wfTrace_o ha) (wfTrace_r6 ha) dX5_renameRing_23 ?_
          refine v_iload_n o 3 dX5_renameRing_26 rfl ?_
          refine v_iload_n o 2 dX5_renameRing_27 rfl ?_
          refine v_cVv o [.int x3, .int p2] [] (fun sz => metX3_put l G P g15 sz (a + 13) (wfTrace_t6 ha) x3 p2 _ h) (cwX5_47 o.1.2.2.2.2 (by decide)) ⟨_, _, rfl⟩ (by decide) (wfRow_o (wfTrace_t6 ha)) rfl (Nat.le_of_ble_eq_true rfl) ⟨Nat.zero_le _, Nat.zero_le _⟩ dX5_renameRing_28 rfl (fun g28 h => ?_)
          refine v_sub [0, 1, 2, 3] (lv2 := [(0, .ref a), (1, .int p1), (2, .int p2), (3, .int x3)]) rfl ?_
          exact J31 x3 g28  h
  unfold vX5_renameRing at h
  refine v_iconst o (v := 0) dX5_renameRing_0 (by decide) ?_
  refine v_istore_n o (lv' := [(3, .int 0), (0, .ref a), (1, .int p1), (2, .int p2)]) dX5_renameRing_1 rfl (by decide) rfl ?_
  refine v_sub [1, 2, 3, 0] (lv2 := [(0, .ref a), (1, .int p1), (2, .int p2), (3, .int 0)]) rfl ?_
  exact (main (μ2 f 0 + 1)) f 0  h (Nat.lt_succ_self _)
def kX5_renameRing (P : Sk) (f : St) (a : Nat) (p1 : Int32) (p2 : Int32) (K : St → Prop) : Prop := False
theorem metX5_renameRing (l : Launch) (G : Gl) (P : Sk) (f : St) (sz : Nat) (a : Nat) (ha : IsTrace P a) (p1 : Int32) (p2 : Int32) (K : St → Prop) (h : kX5_renameRing P f a p1 p2 K) : Met l yX5_renameRing (wU yX5_renameRing cX5_renameRing 4 none) rmX5_renameRing (PcW G P f sz [.ref a, .int p1, .int p2]) (QcV G P sz K) 0 0 (frA P sz) := sorry

def jX5_ringsByJoining_82 (P : Sk) (a : Nat) (L2 : St → Int32 → Prop) (L32 : St → Int32 → Int32 → Prop) (K : Int32 → St → Prop) (x1 : Int32) (x2 : Int32) (x3 : Int32) (x4 : Int32) (f : St) : Prop :=
  ∀ x2_82 : Int32, x2_82 = x2 + 1 → L32 f x1 x2_82
def bX5_ringsByJoining_2 (P : Sk) (a : Nat) (L2 : St → Int32 → Prop) (L32 : St → Int32 → Int32 → Prop) (K : Int32 → St → Prop) (f : St) (x1 : Int32) : Prop :=
  (f a 7 ≤ x1 → ∀ x1_29 : Int32, x1_29 = f a 7 → L32 f x1_29 0) ∧ (¬ f a 7 ≤ x1 → kX3_put P f (a + 13) x1 x1 (fun g16 => ∀ x1_19 : Int32, x1_19 = x1 + 1 → L2 g16 x1_19))
def bX5_ringsByJoining_32 (P : Sk) (a : Nat) (L2 : St → Int32 → Prop) (L32 : St → Int32 → Int32 → Prop) (K : Int32 → St → Prop) (f : St) (x1 : Int32) (x2 : Int32) : Prop :=
  (f a 7 ≤ x2 → K x1 f) ∧ (¬ f a 7 ≤ x2 → kX3_at P f (a + 13) x2 (fun r45 g45 => kX3_at P g45 (a + 7) x2 (fun r58 g58 => kX3_at P g58 (a + 13) r58 (fun r61 g61 => (r45 = r61 → jX5_ringsByJoining_82 P a L2 L32 K x1 x2 r45 r61 g61) ∧ (¬ r45 = r61 → kX5_renameRing P g61 a r61 r45 (fun g76 => ∀ x1_79 : Int32, x1_79 = x1 + (-1) → jX5_ringsByJoining_82 P a L2 L32 K x1_79 x2 r45 r61 g76))))))
def vX5_ringsByJoining (P : Sk) (f : St) (a : Nat) (L2 : St → Int32 → Prop) (L32 : St → Int32 → Int32 → Prop) (K : Int32 → St → Prop) : Prop :=
  L2 f 0
set_option maxRecDepth 20000 in
set_option maxHeartbeats 4000000 in
theorem mX5_ringsByJoining (l : Launch) (G : Gl) (P : Sk) (f : St) (sz : Nat) (a : Nat) (ha : IsTrace P a) (K : Int32 → St → Prop) (I2 : St → Int32 → Prop) (μ2 : St → Int32 → Nat) (I32 : St → Int32 → Int32 → Prop) (μ32 : St → Int32 → Int32 → Nat) 
  (h : vX5_ringsByJoining P f a I2 I32 K)
  (h2 : ∀ (g : St) (x1 : Int32) , I2 g x1 → bX5_ringsByJoining_2 P a (fun g' z0 => I2 g' z0 ∧ μ2 g' z0 < μ2 g x1) (fun g' z0 z1 => I32 g' z0 z1 ∧ μ32 g' z0 z1 < μ2 g x1) K g x1)
  (h32 : ∀ (g : St) (x1 : Int32) (x2 : Int32) , I32 g x1 x2 → bX5_ringsByJoining_32 P a (fun g' z0 => I2 g' z0 ∧ μ2 g' z0 < μ32 g x1 x2) (fun g' z0 z1 => I32 g' z0 z1 ∧ μ32 g' z0 z1 < μ32 g x1 x2) K g x1 x2) :
  Met l yX5_ringsByJoining (wU yX5_ringsByJoining cX5_ringsByJoining 5 (some .int)) rmX5_ringsByJoining (PcW G P f sz [.ref a]) (QcI G P sz K) 0 0 (frA P sz) := by
  refine v_met (own := RX5) [.ref a] (by decide +kernel) rfl (Nat.le_of_ble_eq_true rfl) (fun p e s m args below meth c hsz o hr hnm => ?_)
  refine v_lv (lv2 := [(0, .ref a)]) rfl ?_
  have main : ∀ n : Nat, (∀ (g : St) (x1 : Int32) , I2 g x1 → μ2 g x1 < n → V p l e rmX5_ringsByJoining s m args below meth c 5 G (frA P sz) (MQ below (QcI G P sz K) args s 0 0 (frA P sz)) 0 0 P [(0, .ref a), (1, .int x1)] [] 2 g) ∧ (∀ (g : St) (x1 : Int32) (x2 : Int32) , I32 g x1 x2 → μ32 g x1 x2 < n → V p l e rmX5_ringsByJoining s m args below meth c 5 G (frA P sz) (MQ below (QcI G P sz K) args s 0 0 (frA P sz)) 0 0 P [(0, .ref a), (1, .int x1), (2, .int x2)] [] 32 g) := by
    intro n
    induction n with
    | zero => exact ⟨fun g x1 hI hm => absurd hm (Nat.not_lt_zero _), fun g x1 x2 hI hm => absurd hm (Nat.not_lt_zero _)⟩
    | succ n ih =>
      refine ⟨?_, ?_⟩
      · intro g x1 hI hm
        have h := h2 g x1 hI
        clear hI
        unfold bX5_ringsByJoining_2 at h
        refine v_iload_n o 1 dX5_ringsByJoining_2 rfl ?_
        refine v_aload_n o 0 dX5_ringsByJoining_3 rfl ?_
        refine v_gfI o lkX5_38 (by decide) (wfTrace_o ha) dX5_ringsByJoining_4 ?_
        refine v_icmp_ge o (tgt := 25) dX5_ringsByJoining_7 (by decide) (fun c7 => ?_) (fun c7 => ?_)
        · replace h := h.1 c7
          refine v_aload_n o 0 dX5_ringsByJoining_25 rfl ?_
          refine v_gfI o lkX5_38 (by decide) (wfTrace_o ha) dX5_ringsByJoining_26 ?_
          refine v_topi (fun x1_29 ex1_29 => ?_)
          replace h := h x1_29 ex1_29
          refine v_istore_n o (lv' := [(1, .int x1_29), (0, .ref a)]) dX5_ringsByJoining_29 rfl (by decide) rfl ?_
          refine v_iconst o (v := 0) dX5_ringsByJoining_30 (by decide) ?_
          refine v_istore_n o (lv' := [(2, .int 0), (1, .int x1_29), (0, .ref a)]) dX5_ringsByJoining_31 rfl (by decide) rfl ?_
          refine v_sub [2, 1, 0] (lv2 := [(0, .ref a), (1, .int x1_29), (2, .int 0)]) rfl ?_
          exact ih.2 g x1_29 0  h.1 (by have := h.2; omega)
        · replace h := h.2 c7
          refine v_aload_n o 0 dX5_ringsByJoining_10 rfl ?_
          refine v_gfR o lkX5_35 (by decide) (wfTrace_o ha) (wfTrace_r6 ha) dX5_ringsByJoining_11 ?_
          refine v_iload_n o 1 dX5_ringsByJoining_14 rfl ?_
          refine v_iload_n o 1 dX5_ringsByJoining_15 rfl ?_
          refine v_cVv o [.int x1, .int x1] [] (fun sz => metX3_put l G P g sz (a + 13) (wfTrace_t6 ha) x1 x1 _ h) (cwX5_47 o.1.2.2.2.2 (by decide)) ⟨_, _, rfl⟩ (by decide) (wfRow_o (wfTrace_t6 ha)) rfl (Nat.le_of_ble_eq_true rfl) ⟨Nat.zero_le _, Nat.zero_le _⟩ dX5_ringsByJoining_16 rfl (fun g16 h => ?_)
          obtain ⟨x1_19, ex1_19⟩ : ∃ y : Int32, y = x1 + 1 := ⟨_, rfl⟩
          replace h := h x1_19 ex1_19
          refine v_iinc o (v := x1_19) (lv' := [(1, .int x1_19), (0, .ref a)]) 1 dX5_ringsByJoining_19 rfl (by rw [ex1_19]; rfl) (by decide) rfl ?_
          refine v_goto o (tgt := 2) dX5_ringsByJoining_22 (by decide) ?_
          refine v_sub [1, 0] (lv2 := [(0, .ref a), (1, .int x1_19)]) rfl ?_
          exact ih.1 g16 x1_19  h.1 (by have := h.2; omega)
      · intro g x1 x2 hI hm
        have h := h32 g x1 x2 hI
        clear hI
        have J82 : ∀ (x1_82 : Int32) (x2_82 : Int32) (x3_82 : Int32) (x4_82 : Int32) (g82 : St), jX5_ringsByJoining_82 P a (fun g' z0 => I2 g' z0 ∧ μ2 g' z0 < μ32 g x1 x2) (fun g' z0 z1 => I32 g' z0 z1 ∧ μ32 g' z0 z1 < μ32 g x1 x2) K x1_82 x2_82 x3_82 x4_82 g82 → V p l e rmX5_ringsByJoining s m args below meth c 5 G (frA P sz) (MQ below (QcI G P sz K) args s 0 0 (frA P sz)) 0 0 P [(0, .ref a), (1, .int x1_82), (2, .int x2_82), (3, .int x3_82), (4, .int x4_82)] [] 82 g82 := by
          intro x1_82 x2_82 x3_82 x4_82 g82  h
          unfold jX5_ringsByJoining_82 at h
          obtain ⟨x2_82, ex2_82⟩ : ∃ y : Int32, y = x2_82 + 1 := ⟨_, rfl⟩
          replace h := h x2_82 ex2_82
          refine v_iinc o (v := x2_82) (lv' := [(2, .int x2_82), (0, .ref a), (1, .int x1_82), (3, .int x3_82), (4, .int x4_82)]) 2 dX5_ringsByJoining_82 rfl (by rw [ex2_82]; rfl) (by decide) rfl ?_
          refine v_goto o (tgt := 32) dX5_ringsByJoining_85 (by decide) ?_
          refine v_sub [1, 2, 0] (lv2 := [(0, .ref a), (1, .int x1_82), (2, .int x2_82)]) rfl ?_
          exact ih.2 g82 x1_82 x2_82  h.1 (by have := h.2; omega)
        unfold bX5_ringsByJoining_32 at h
        refine v_iload_n o 2 dX5_ringsByJoining_32 rfl ?_
        refine v_aload_n o 0 dX5_ringsByJoining_33 rfl ?_
        refine v_gfI o lkX5_38 (by decide) (wfTrace_o ha) dX5_ringsByJoining_34 ?_
        refine v_icmp_ge o (tgt := 88) dX5_ringsByJoining_37 (by decide) (fun c37 => ?_) (fun c37 => ?_)
        · replace h := h.1 c37
          refine v_iload_n o 1 dX5_ringsByJoining_88 rfl ?_
          exact v_iret o rfl hr dX5_ringsByJoining_89 h
        · replace h := h.2 c37
          refine v_aload_n o 0 dX5_ringsByJoining_40 rfl ?_
          refine v_gfR o lkX5_35 (by decide) (wfTrace_o ha) (wfTrace_r6 ha) dX5_ringsByJoining_41 ?_
          refine v_iload_n o 2 dX5_ringsByJoining_44 rfl ?_
          refine v_cVi o [.int x2] [] (fun sz => metX3_at l G P g sz (a + 13) (wfTrace_t6 ha) x2 _ h) (cwX5_61 o.1.2.2.2.2 (by decide)) ⟨_, _, rfl⟩ (by decide) (wfRow_o (wfTrace_t6 ha)) rfl (Nat.le_of_ble_eq_true rfl) ⟨Nat.zero_le _, Nat.zero_le _⟩ dX5_ringsByJoining_45 rfl (fun r45 g45 h => ?_)
          refine v_istore_n o (lv' := [(3, .int r45), (0, .ref a), (1, .int x1), (2, .int x2)]) dX5_ringsByJoining_48 rfl (by decide) rfl ?_
          refine v_aload_n o 1 dX5_ringsByJoining_49 rfl ?_
          refine v_gfR o lkX5_35 (by decide) (wfTrace_o ha) (wfTrace_r6 ha) dX5_ringsByJoining_50 ?_
          refine v_aload_n o 1 dX5_ringsByJoining_53 rfl ?_
          refine v_gfR o lkX5_26 (by decide) (wfTrace_o ha) (wfTrace_r3 ha) dX5_ringsByJoining_54 ?_
          refine v_iload_n o 3 dX5_ringsByJoining_57 rfl ?_
          refine v_cVi o [.int x2] [.ref (a + 13)] (fun sz => metX3_at l G P g45 sz (a + 7) (wfTrace_t3 ha) x2 _ h) (cwX5_61 o.1.2.2.2.2 (by decide)) ⟨_, _, rfl⟩ (by decide) (wfRow_o (wfTrace_t3 ha)) rfl (Nat.le_of_ble_eq_true rfl) ⟨Nat.zero_le _, Nat.zero_le _⟩ dX5_ringsByJoining_58 rfl (fun r58 g58 h => ?_)
          refine v_cVi o [.int r58] [] (fun sz => metX3_at l G P g58 sz (a + 13) (wfTrace_t6 ha) r58 _ h) (cwX5_61 o.1.2.2.2.2 (by decide)) ⟨_, _, rfl⟩ (by decide) (wfRow_o (wfTrace_t6 ha)) rfl (Nat.le_of_ble_eq_true rfl) ⟨Nat.zero_le _, Nat.zero_le _⟩ dX5_ringsByJoining_61 rfl (fun r61 g61 h => ?_)
          refine v_istore o (lv' := [(4, .int r61), (3, .int r45), (0, .ref a), (1, .int x1), (2, .int x2)]) dX5_ringsByJoining_64 (by decide) rfl ?_
          refine v_iload_n o 1 dX5_ringsByJoining_66 rfl ?_
          refine v_iload o 0 dX5_ringsByJoining_67 rfl ?_
          refine v_icmp_eq o (tgt := 82) dX5_ringsByJoining_69 (by decide) (fun c69 => ?_) (fun c69 => ?_)
          · replace h := h.1 c69
            refine v_sub [2, 3, 4, 1, 0] (lv2 := [(0, .ref a), (1, .int x1), (2, .int x2), (3, .int r45), (4, .int r61)]) rfl ?_
            exact J82 x1 x2 r45 r61 g61  h
          · replace h := h.2 c69
            refine v_aload_n o 2 dX5_ringsByJoining_72 rfl ?_
            refine v_iload o 0 dX5_ringsByJoining_73 rfl ?_
            refine v_iload_n o 1 dX5_ringsByJoining_75 rfl ?_
            refine v_cVv o [.int r61, .int r45] [] (fun sz => metX5_renameRing l G P g61 sz a ha r61 r45 _ h) (cwX5_78 o.1.2.2.2.2 (by decide)) ⟨_, _, rfl⟩ (by decide) (wfTrace_o ha) rfl (Nat.le_of_ble_eq_true rfl) ⟨Nat.zero_le _, Nat.zero_le _⟩ dX5_ringsByJoining_76 rfl (fun g76 h => ?_)
            obtain ⟨x1_79, ex1_79⟩ : ∃ y : Int32, y = x1 + (-1) := ⟨_, rfl⟩
            replace h := h x1_79 ex1_79
            refine v_iinc o (v := x1_79) (lv' := [(1, .int x1_79), (4, .int r61), (3, .int r45), (0, .ref a), (2, .int x2)]) 3 dX5_ringsByJoining_79 rfl (by rw [ex1_79]; rfl) (by decide) rfl ?_
            refine v_sub [3, 0, 4, 2, 1] (lv2 := [(0, .ref a), (1, .int x1_79), (2, .int x2), (3, .int r45), (4, .int r61)]) rfl ?_
            exact J82 x1_79 x2 r45 r61 g76  h
  unfold vX5_ringsByJoining at h
  refine v_iconst o (v := 0) dX5_ringsByJoining_0 (by decide) ?_
  refine v_istore_n o (lv' := [(1, .int 0), (0, .ref a)]) dX5_ringsByJoining_1 rfl (by decide) rfl ?_
  refine v_sub [1, 0] (lv2 := [(0, .ref a), (1, .int 0)]) rfl ?_
  exact (main (μ2 f 0 + 1)).1 f 0  h (Nat.lt_succ_self _)
def kX5_ringsByJoining (P : Sk) (f : St) (a : Nat) (K : Int32 → St → Prop) : Prop := False
theorem metX5_ringsByJoining (l : Launch) (G : Gl) (P : Sk) (f : St) (sz : Nat) (a : Nat) (ha : IsTrace P a) (K : Int32 → St → Prop) (h : kX5_ringsByJoining P f a K) : Met l yX5_ringsByJoining (wU yX5_ringsByJoining cX5_ringsByJoining 5 (some .int)) rmX5_ringsByJoining (PcW G P f sz [.ref a]) (QcI G P sz K) 0 0 (frA P sz) := sorry

def bX5_roundOf_14 (P : Sk) (a : Nat) (p1 : Int32) (L14 : St → Int32 → Int32 → Int32 → Prop) (K : Int32 → St → Prop) (f : St) (x2 : Int32) (x3 : Int32) (x4 : Int32) : Prop :=
  (f a 7 ≤ x4 → K x3 f) ∧ (¬ f a 7 ≤ x4 → (x2 = p1 → K x3 f) ∧ (¬ x2 = p1 → kX3_at P f (a + 7) x2 (fun r33 g33 => ∀ x3_37 : Int32, x3_37 = x3 + 1 → ∀ x4_40 : Int32, x4_40 = x4 + 1 → L14 g33 r33 x3_37 x4_40)))
def vX5_roundOf (P : Sk) (f : St) (a : Nat) (p1 : Int32) (L14 : St → Int32 → Int32 → Int32 → Prop) (K : Int32 → St → Prop) : Prop :=
  kX3_at P f (a + 7) p1 (fun r5 g5 => L14 g5 r5 1 0)
set_option maxRecDepth 20000 in
set_option maxHeartbeats 4000000 in
theorem mX5_roundOf (l : Launch) (G : Gl) (P : Sk) (f : St) (sz : Nat) (a : Nat) (ha : IsTrace P a) (p1 : Int32) (K : Int32 → St → Prop) (I14 : St → Int32 → Int32 → Int32 → Prop) (μ14 : St → Int32 → Int32 → Int32 → Nat) 
  (h : vX5_roundOf P f a p1 I14 K)
  (h14 : ∀ (g : St) (x2 : Int32) (x3 : Int32) (x4 : Int32) , I14 g x2 x3 x4 → bX5_roundOf_14 P a p1 (fun g' z0 z1 z2 => I14 g' z0 z1 z2 ∧ μ14 g' z0 z1 z2 < μ14 g x2 x3 x4) K g x2 x3 x4) :
  Met l yX5_roundOf (wU yX5_roundOf cX5_roundOf 5 (some .int)) rmX5_roundOf (PcW G P f sz [.ref a, .int p1]) (QcI G P sz K) 0 0 (frA P sz) := by
  refine v_met (own := RX5) [.ref a, .int p1] (by decide +kernel) rfl (Nat.le_of_ble_eq_true rfl) (fun p e s m args below meth c hsz o hr hnm => ?_)
  refine v_lv (lv2 := [(0, .ref a), (1, .int p1)]) rfl ?_
  have main : ∀ n : Nat, (∀ (g : St) (x2 : Int32) (x3 : Int32) (x4 : Int32) , I14 g x2 x3 x4 → μ14 g x2 x3 x4 < n → V p l e rmX5_roundOf s m args below meth c 5 G (frA P sz) (MQ below (QcI G P sz K) args s 0 0 (frA P sz)) 0 0 P [(0, .ref a), (1, .int p1), (2, .int x2), (3, .int x3), (4, .int x4)] [] 14 g) := by
    intro n
    induction n with
    | zero => exact fun g x2 x3 x4 hI hm => absurd hm (Nat.not_lt_zero _)
    | succ n ih =>
      intro g x2 x3 x4 hI hm
      have h := h14 g x2 x3 x4 hI
      clear hI
      unfold bX5_roundOf_14 at h
      refine v_iload o 4 dX5_roundOf_14 rfl ?_
      refine v_aload_n o 0 dX5_roundOf_16 rfl ?_
      refine v_gfI o lkX5_38 (by decide) (wfTrace_o ha) dX5_roundOf_17 ?_
      refine v_icmp_ge o (tgt := 46) dX5_roundOf_20 (by decide) (fun c20 => ?_) (fun c20 => ?_)
      · replace h := h.1 c20
        refine v_iload_n o 3 dX5_roundOf_46 rfl ?_
        exact v_iret o rfl hr dX5_roundOf_47 h
      · replace h := h.2 c20
        refine v_iload_n o 2 dX5_roundOf_23 rfl ?_
        refine v_iload_n o 1 dX5_roundOf_24 rfl ?_
        refine v_icmp_eq o (tgt := 46) dX5_roundOf_25 (by decide) (fun c25 => ?_) (fun c25 => ?_)
        · replace h := h.1 c25
          refine v_iload_n o 3 dX5_roundOf_46 rfl ?_
          exact v_iret o rfl hr dX5_roundOf_47 h
        · replace h := h.2 c25
          refine v_aload_n o 0 dX5_roundOf_28 rfl ?_
          refine v_gfR o lkX5_26 (by decide) (wfTrace_o ha) (wfTrace_r3 ha) dX5_roundOf_29 ?_
          refine v_iload_n o 2 dX5_roundOf_32 rfl ?_
          refine v_cVi o [.int x2] [] (fun sz => metX3_at l G P g sz (a + 7) (wfTrace_t3 ha) x2 _ h) (cwX5_61 o.1.2.2.2.2 (by decide)) ⟨_, _, rfl⟩ (by decide) (wfRow_o (wfTrace_t3 ha)) rfl (Nat.le_of_ble_eq_true rfl) ⟨Nat.zero_le _, Nat.zero_le _⟩ dX5_roundOf_33 rfl (fun r33 g33 h => ?_)
          refine v_istore_n o (lv' := [(2, .int r33), (0, .ref a), (1, .int p1), (3, .int x3), (4, .int x4)]) dX5_roundOf_36 rfl (by decide) rfl ?_
          obtain ⟨x3_37, ex3_37⟩ : ∃ y : Int32, y = x3 + 1 := ⟨_, rfl⟩
          replace h := h x3_37 ex3_37
          refine v_iinc o (v := x3_37) (lv' := [(3, .int x3_37), (2, .int r33), (0, .ref a), (1, .int p1), (4, .int x4)]) 3 dX5_roundOf_37 rfl (by rw [ex3_37]; rfl) (by decide) rfl ?_
          obtain ⟨x4_40, ex4_40⟩ : ∃ y : Int32, y = x4 + 1 := ⟨_, rfl⟩
          replace h := h x4_40 ex4_40
          refine v_iinc o (v := x4_40) (lv' := [(4, .int x4_40), (3, .int x3_37), (2, .int r33), (0, .ref a), (1, .int p1)]) 4 dX5_roundOf_40 rfl (by rw [ex4_40]; rfl) (by decide) rfl ?_
          refine v_goto o (tgt := 14) dX5_roundOf_43 (by decide) ?_
          refine v_sub [3, 4, 2, 1, 0] (lv2 := [(0, .ref a), (1, .int p1), (2, .int r33), (3, .int x3_37), (4, .int x4_40)]) rfl ?_
          exact ih g33 r33 x3_37 x4_40  h.1 (by have := h.2; omega)
  unfold vX5_roundOf at h
  refine v_aload_n o 0 dX5_roundOf_0 rfl ?_
  refine v_gfR o lkX5_26 (by decide) (wfTrace_o ha) (wfTrace_r3 ha) dX5_roundOf_1 ?_
  refine v_iload_n o 1 dX5_roundOf_4 rfl ?_
  refine v_cVi o [.int p1] [] (fun sz => metX3_at l G P f sz (a + 7) (wfTrace_t3 ha) p1 _ h) (cwX5_61 o.1.2.2.2.2 (by decide)) ⟨_, _, rfl⟩ (by decide) (wfRow_o (wfTrace_t3 ha)) rfl (Nat.le_of_ble_eq_true rfl) ⟨Nat.zero_le _, Nat.zero_le _⟩ dX5_roundOf_5 rfl (fun r5 g5 h => ?_)
  refine v_istore_n o (lv' := [(2, .int r5), (0, .ref a), (1, .int p1)]) dX5_roundOf_8 rfl (by decide) rfl ?_
  refine v_iconst o (v := 1) dX5_roundOf_9 (by decide) ?_
  refine v_istore_n o (lv' := [(3, .int 1), (2, .int r5), (0, .ref a), (1, .int p1)]) dX5_roundOf_10 rfl (by decide) rfl ?_
  refine v_iconst o (v := 0) dX5_roundOf_11 (by decide) ?_
  refine v_istore o (lv' := [(4, .int 0), (3, .int 1), (2, .int r5), (0, .ref a), (1, .int p1)]) dX5_roundOf_12 (by decide) rfl ?_
  refine v_sub [3, 4, 2, 1, 0] (lv2 := [(0, .ref a), (1, .int p1), (2, .int r5), (3, .int 1), (4, .int 0)]) rfl ?_
  exact (main (μ14 g5 r5 1 0 + 1)) g5 r5 1 0  h (Nat.lt_succ_self _)
def kX5_roundOf (P : Sk) (f : St) (a : Nat) (p1 : Int32) (K : Int32 → St → Prop) : Prop := False
theorem metX5_roundOf (l : Launch) (G : Gl) (P : Sk) (f : St) (sz : Nat) (a : Nat) (ha : IsTrace P a) (p1 : Int32) (K : Int32 → St → Prop) (h : kX5_roundOf P f a p1 K) : Met l yX5_roundOf (wU yX5_roundOf cX5_roundOf 5 (some .int)) rmX5_roundOf (PcW G P f sz [.ref a, .int p1]) (QcI G P sz K) 0 0 (frA P sz) := sorry

def bX5_leastCommonMultiple_4 (P : Sk) (p0 : Int32) (p1 : Int32) (L4 : St → Int32 → Int32 → Prop) (K : Int32 → St → Prop) (f : St) (x2 : Int32) (x3 : Int32) : Prop :=
  (p1 ≤ x3 → K x2 f) ∧ (¬ p1 ≤ x3 → (p1 ≤ 0 → K x2 f) ∧ (¬ p1 ≤ 0 → (¬ p1 = 0) ∧ ((x2 - x2 / p1 * p1 = 0 → K x2 f) ∧ (¬ x2 - x2 / p1 * p1 = 0 → ∀ x2_22 : Int32, x2_22 = x2 + p0 → ∀ x3_23 : Int32, x3_23 = x3 + 1 → L4 f x2_22 x3_23))))
def vX5_leastCommonMultiple (P : Sk) (f : St) (p0 : Int32) (p1 : Int32) (L4 : St → Int32 → Int32 → Prop) (K : Int32 → St → Prop) : Prop :=
  L4 f p0 1
set_option maxRecDepth 20000 in
set_option maxHeartbeats 4000000 in
theorem mX5_leastCommonMultiple (l : Launch) (G : Gl) (P : Sk) (f : St) (sz : Nat) (p0 : Int32) (p1 : Int32) (K : Int32 → St → Prop) (I4 : St → Int32 → Int32 → Prop) (μ4 : St → Int32 → Int32 → Nat) 
  (h : vX5_leastCommonMultiple P f p0 p1 I4 K)
  (h4 : ∀ (g : St) (x2 : Int32) (x3 : Int32) , I4 g x2 x3 → bX5_leastCommonMultiple_4 P p0 p1 (fun g' z0 z1 => I4 g' z0 z1 ∧ μ4 g' z0 z1 < μ4 g x2 x3) K g x2 x3) :
  Met l yX5_leastCommonMultiple (wU yX5_leastCommonMultiple cX5_leastCommonMultiple 4 (some .int)) rmX5_leastCommonMultiple (PcW G P f sz [.int p0, .int p1]) (QcI G P sz K) 0 0 (frA P sz) := by
  refine v_met (own := RX5) [.int p0, .int p1] (by decide +kernel) rfl (Nat.le_of_ble_eq_true rfl) (fun p e s m args below meth c hsz o hr hnm => ?_)
  refine v_lv (lv2 := [(0, .int p0), (1, .int p1)]) rfl ?_
  have main : ∀ n : Nat, (∀ (g : St) (x2 : Int32) (x3 : Int32) , I4 g x2 x3 → μ4 g x2 x3 < n → V p l e rmX5_leastCommonMultiple s m args below meth c 4 G (frA P sz) (MQ below (QcI G P sz K) args s 0 0 (frA P sz)) 0 0 P [(0, .int p0), (1, .int p1), (2, .int x2), (3, .int x3)] [] 4 g) := by
    intro n
    induction n with
    | zero => exact fun g x2 x3 hI hm => absurd hm (Nat.not_lt_zero _)
    | succ n ih =>
      intro g x2 x3 hI hm
      have h := h4 g x2 x3 hI
      clear hI
      unfold bX5_leastCommonMultiple_4 at h
      refine v_iload_n o 3 dX5_leastCommonMultiple_4 rfl ?_
      refine v_iload_n o 1 dX5_leastCommonMultiple_5 rfl ?_
      refine v_icmp_ge o (tgt := 29) dX5_leastCommonMultiple_6 (by decide) (fun c6 => ?_) (fun c6 => ?_)
      · replace h := h.1 c6
        refine v_iload_n o 2 dX5_leastCommonMultiple_29 rfl ?_
        exact v_iret o rfl hr dX5_leastCommonMultiple_30 h
      · replace h := h.2 c6
        refine v_iload_n o 1 dX5_leastCommonMultiple_9 rfl ?_
        refine v_if_le o (tgt := 29) dX5_leastCommonMultiple_10 (by decide) (fun c10 => ?_) (fun c10 => ?_)
        · replace h := h.1 c10
          refine v_iload_n o 2 dX5_leastCommonMultiple_29 rfl ?_
          exact v_iret o rfl hr dX5_leastCommonMultiple_30 h
        · replace h := h.2 c10
          refine v_iload_n o 2 dX5_leastCommonMultiple_13 rfl ?_
          refine v_iload_n o 1 dX5_leastCommonMultiple_14 rfl ?_
          refine v_irem o dX5_leastCommonMultiple_15 h.1 ?_
          replace h := h.2
          refine v_if_eq o (tgt := 29) dX5_leastCommonMultiple_16 (by decide) (fun c16 => ?_) (fun c16 => ?_)
          · replace h := h.1 c16
            refine v_iload_n o 2 dX5_leastCommonMultiple_29 rfl ?_
            exact v_iret o rfl hr dX5_leastCommonMultiple_30 h
          · replace h := h.2 c16
            refine v_iload_n o 2 dX5_leastCommonMultiple_19 rfl ?_
            refine v_iload_n o 0 dX5_leastCommonMultiple_20 rfl ?_
            refine v_iadd o dX5_leastCommonMultiple_21 ?_
            refine v_topi (fun x2_22 ex2_22 => ?_)
            replace h := h x2_22 ex2_22
            refine v_istore_n o (lv' := [(2, .int x2_22), (0, .int p0), (1, .int p1), (3, .int x3)]) dX5_leastCommonMultiple_22 rfl (by decide) rfl ?_
            obtain ⟨x3_23, ex3_23⟩ : ∃ y : Int32, y = x3 + 1 := ⟨_, rfl⟩
            replace h := h x3_23 ex3_23
            refine v_iinc o (v := x3_23) (lv' := [(3, .int x3_23), (2, .int x2_22), (0, .int p0), (1, .int p1)]) 3 dX5_leastCommonMultiple_23 rfl (by rw [ex3_23]; rfl) (by decide) rfl ?_
            refine v_goto o (tgt := 4) dX5_leastCommonMultiple_26 (by decide) ?_
            refine v_sub [2, 3, 1, 0] (lv2 := [(0, .int p0), (1, .int p1), (2, .int x2_22), (3, .int x3_23)]) rfl ?_
            exact ih g x2_22 x3_23  h.1 (by have := h.2; omega)
  unfold vX5_leastCommonMultiple at h
  refine v_iload_n o 0 dX5_leastCommonMultiple_0 rfl ?_
  refine v_istore_n o (lv' := [(2, .int p0), (0, .int p0), (1, .int p1)]) dX5_leastCommonMultiple_1 rfl (by decide) rfl ?_
  refine v_iconst o (v := 1) dX5_leastCommonMultiple_2 (by decide) ?_
  refine v_istore_n o (lv' := [(3, .int 1), (2, .int p0), (0, .int p0), (1, .int p1)]) dX5_leastCommonMultiple_3 rfl (by decide) rfl ?_
  refine v_sub [2, 3, 1, 0] (lv2 := [(0, .int p0), (1, .int p1), (2, .int p0), (3, .int 1)]) rfl ?_
  exact (main (μ4 f p0 1 + 1)) f p0 1  h (Nat.lt_succ_self _)
def kX5_leastCommonMultiple (P : Sk) (f : St) (p0 : Int32) (p1 : Int32) (K : Int32 → St → Prop) : Prop := False
theorem metX5_leastCommonMultiple (l : Launch) (G : Gl) (P : Sk) (f : St) (sz : Nat) (p0 : Int32) (p1 : Int32) (K : Int32 → St → Prop) (h : kX5_leastCommonMultiple P f p0 p1 K) : Met l yX5_leastCommonMultiple (wU yX5_leastCommonMultiple cX5_leastCommonMultiple 4 (some .int)) rmX5_leastCommonMultiple (PcW G P f sz [.int p0, .int p1]) (QcI G P sz K) 0 0 (frA P sz) := sorry

def bX5_timesUntilHome_4 (P : Sk) (a : Nat) (L4 : St → Int32 → Int32 → Prop) (K : Int32 → St → Prop) (f : St) (x1 : Int32) (x2 : Int32) : Prop :=
  (f a 7 ≤ x2 → K x1 f) ∧ (¬ f a 7 ≤ x2 → kX5_roundOf P f a x2 (fun r15 g15 => kX5_leastCommonMultiple P g15 x1 r15 (fun r18 g18 => ∀ x2_22 : Int32, x2_22 = x2 + 1 → L4 g18 r18 x2_22)))
def vX5_timesUntilHome (P : Sk) (f : St) (a : Nat) (L4 : St → Int32 → Int32 → Prop) (K : Int32 → St → Prop) : Prop :=
  L4 f 1 0
set_option maxRecDepth 20000 in
set_option maxHeartbeats 4000000 in
theorem mX5_timesUntilHome (l : Launch) (G : Gl) (P : Sk) (f : St) (sz : Nat) (a : Nat) (ha : IsTrace P a) (K : Int32 → St → Prop) (I4 : St → Int32 → Int32 → Prop) (μ4 : St → Int32 → Int32 → Nat) 
  (h : vX5_timesUntilHome P f a I4 K)
  (h4 : ∀ (g : St) (x1 : Int32) (x2 : Int32) , I4 g x1 x2 → bX5_timesUntilHome_4 P a (fun g' z0 z1 => I4 g' z0 z1 ∧ μ4 g' z0 z1 < μ4 g x1 x2) K g x1 x2) :
  Met l yX5_timesUntilHome (wU yX5_timesUntilHome cX5_timesUntilHome 3 (some .int)) rmX5_timesUntilHome (PcW G P f sz [.ref a]) (QcI G P sz K) 0 0 (frA P sz) := by
  refine v_met (own := RX5) [.ref a] (by decide +kernel) rfl (Nat.le_of_ble_eq_true rfl) (fun p e s m args below meth c hsz o hr hnm => ?_)
  refine v_lv (lv2 := [(0, .ref a)]) rfl ?_
  have main : ∀ n : Nat, (∀ (g : St) (x1 : Int32) (x2 : Int32) , I4 g x1 x2 → μ4 g x1 x2 < n → V p l e rmX5_timesUntilHome s m args below meth c 3 G (frA P sz) (MQ below (QcI G P sz K) args s 0 0 (frA P sz)) 0 0 P [(0, .ref a), (1, .int x1), (2, .int x2)] [] 4 g) := by
    intro n
    induction n with
    | zero => exact fun g x1 x2 hI hm => absurd hm (Nat.not_lt_zero _)
    | succ n ih =>
      intro g x1 x2 hI hm
      have h := h4 g x1 x2 hI
      clear hI
      unfold bX5_timesUntilHome_4 at h
      refine v_iload_n o 2 dX5_timesUntilHome_4 rfl ?_
      refine v_aload_n o 0 dX5_timesUntilHome_5 rfl ?_
      refine v_gfI o lkX5_38 (by decide) (wfTrace_o ha) dX5_timesUntilHome_6 ?_
      refine v_icmp_ge o (tgt := 28) dX5_timesUntilHome_9 (by decide) (fun c9 => ?_) (fun c9 => ?_)
      · replace h := h.1 c9
        refine v_iload_n o 1 dX5_timesUntilHome_28 rfl ?_
        exact v_iret o rfl hr dX5_timesUntilHome_29 h
      · replace h := h.2 c9
        refine v_iload_n o 1 dX5_timesUntilHome_12 rfl ?_
        refine v_aload_n o 0 dX5_timesUntilHome_13 rfl ?_
        refine v_iload_n o 2 dX5_timesUntilHome_14 rfl ?_
        refine v_cVi o [.int x2] [.int x1] (fun sz => metX5_roundOf l G P g sz a ha x2 _ h) (cwX5_81 o.1.2.2.2.2 (by decide)) ⟨_, _, rfl⟩ (by decide) (wfTrace_o ha) rfl (Nat.le_of_ble_eq_true rfl) ⟨Nat.zero_le _, Nat.zero_le _⟩ dX5_timesUntilHome_15 rfl (fun r15 g15 h => ?_)
        refine v_cSi o [.int x1, .int r15] [] (fun sz => metX5_leastCommonMultiple l G P g15 sz x1 r15 _ h) (cwX5_84 o.1.2.2.2.2 (by decide)) rfl (Nat.le_of_ble_eq_true rfl) ⟨Nat.zero_le _, Nat.zero_le _⟩ dX5_timesUntilHome_18 rfl (fun r18 g18 h => ?_)
        refine v_istore_n o (lv' := [(1, .int r18), (0, .ref a), (2, .int x2)]) dX5_timesUntilHome_21 rfl (by decide) rfl ?_
        obtain ⟨x2_22, ex2_22⟩ : ∃ y : Int32, y = x2 + 1 := ⟨_, rfl⟩
        replace h := h x2_22 ex2_22
        refine v_iinc o (v := x2_22) (lv' := [(2, .int x2_22), (1, .int r18), (0, .ref a)]) 2 dX5_timesUntilHome_22 rfl (by rw [ex2_22]; rfl) (by decide) rfl ?_
        refine v_goto o (tgt := 4) dX5_timesUntilHome_25 (by decide) ?_
        refine v_sub [2, 1, 0] (lv2 := [(0, .ref a), (1, .int r18), (2, .int x2_22)]) rfl ?_
        exact ih g18 r18 x2_22  h.1 (by have := h.2; omega)
  unfold vX5_timesUntilHome at h
  refine v_iconst o (v := 1) dX5_timesUntilHome_0 (by decide) ?_
  refine v_istore_n o (lv' := [(1, .int 1), (0, .ref a)]) dX5_timesUntilHome_1 rfl (by decide) rfl ?_
  refine v_iconst o (v := 0) dX5_timesUntilHome_2 (by decide) ?_
  refine v_istore_n o (lv' := [(2, .int 0), (1, .int 1), (0, .ref a)]) dX5_timesUntilHome_3 rfl (by decide) rfl ?_
  refine v_sub [2, 1, 0] (lv2 := [(0, .ref a), (1, .int 1), (2, .int 0)]) rfl ?_
  exact (main (μ4 f 1 0 + 1)) f 1 0  h (Nat.lt_succ_self _)
def kX5_timesUntilHome (P : Sk) (f : St) (a : Nat) (K : Int32 → St → Prop) : Prop := False
theorem metX5_timesUntilHome (l : Launch) (G : Gl) (P : Sk) (f : St) (sz : Nat) (a : Nat) (ha : IsTrace P a) (K : Int32 → St → Prop) (h : kX5_timesUntilHome P f a K) : Met l yX5_timesUntilHome (wU yX5_timesUntilHome cX5_timesUntilHome 3 (some .int)) rmX5_timesUntilHome (PcW G P f sz [.ref a]) (QcI G P sz K) 0 0 (frA P sz) := sorry

def vX6_hasPlace (P : Sk) (f : St) (a : Nat) (p1 : Int32) (K : Int32 → St → Prop) : Prop :=
  (p1 < 0 → K 0 f) ∧ (¬ p1 < 0 → ((f a 1) - 2 < p1 → K 0 f) ∧ (¬ (f a 1) - 2 < p1 → K 1 f))
set_option maxRecDepth 20000 in
set_option maxHeartbeats 4000000 in
theorem mX6_hasPlace (l : Launch) (G : Gl) (P : Sk) (f : St) (sz : Nat) (a : Nat) (ha : IsWord P a) (p1 : Int32) (K : Int32 → St → Prop) (h : vX6_hasPlace P f a p1 K)  :
  Met l yX6_hasPlace (wU yX6_hasPlace cX6_hasPlace 2 (some .boolean)) rmX6_hasPlace (PcW G P f sz [.ref a, .int p1]) (QcI G P sz K) 0 0 (frA P sz) := by
  refine v_met (own := RX6) [.ref a, .int p1] (by decide +kernel) rfl (Nat.le_of_ble_eq_true rfl) (fun p e s m args below meth c hsz o hr hnm => ?_)
  refine v_lv (lv2 := [(0, .ref a), (1, .int p1)]) rfl ?_
  unfold vX6_hasPlace at h
  refine v_iload_n o 1 dX6_hasPlace_0 rfl ?_
  refine v_if_lt o (tgt := 18) dX6_hasPlace_1 (by decide) (fun c1 => ?_) (fun c1 => ?_)
  · replace h := h.1 c1
    refine v_iconst o (v := 0) dX6_hasPlace_18 (by decide) ?_
    exact v_zret o rfl hr bz0.1 dX6_hasPlace_19 h
  · replace h := h.2 c1
    refine v_iload_n o 1 dX6_hasPlace_4 rfl ?_
    refine v_aload_n o 0 dX6_hasPlace_5 rfl ?_
    refine v_gfI o lkX6_20 (by decide) (wfWord_o ha) dX6_hasPlace_6 ?_
    refine v_iconst o (v := 2) dX6_hasPlace_9 (by decide) ?_
    refine v_isub o dX6_hasPlace_10 ?_
    refine v_icmp_gt o (tgt := 18) dX6_hasPlace_11 (by decide) (fun c11 => ?_) (fun c11 => ?_)
    · replace h := h.1 c11
      refine v_iconst o (v := 0) dX6_hasPlace_18 (by decide) ?_
      exact v_zret o rfl hr bz0.1 dX6_hasPlace_19 h
    · replace h := h.2 c11
      refine v_iconst o (v := 1) dX6_hasPlace_14 (by decide) ?_
      refine v_goto o (tgt := 19) dX6_hasPlace_15 (by decide) ?_
      exact v_zret o rfl hr bz1.1 dX6_hasPlace_19 h
abbrev kX6_hasPlace := @vX6_hasPlace
abbrev metX6_hasPlace := @mX6_hasPlace

def bX6_addAll_2 (P : Sk) (a : Nat) (b1 : Nat) (L2 : St → Int32 → Prop) (K : St → Prop) (f : St) (x2 : Int32) : Prop :=
  (f b1 2 ≤ x2 → K f) ∧ (¬ f b1 2 ≤ x2 → kX6_codeAt P f b1 x2 (fun r13 g13 => kX6_add P g13 a r13 (fun g16 => ∀ x2_19 : Int32, x2_19 = x2 + 1 → L2 g16 x2_19)))
def vX6_addAll (P : Sk) (f : St) (a : Nat) (b1 : Nat) (L2 : St → Int32 → Prop) (K : St → Prop) : Prop :=
  L2 f 0
set_option maxRecDepth 20000 in
set_option maxHeartbeats 4000000 in
theorem mX6_addAll (l : Launch) (G : Gl) (P : Sk) (f : St) (sz : Nat) (a : Nat) (ha : IsWord P a) (b1 : Nat) (hb1 : IsWord P b1) (K : St → Prop) (I2 : St → Int32 → Prop) (μ2 : St → Int32 → Nat) 
  (h : vX6_addAll P f a b1 I2 K)
  (h2 : ∀ (g : St) (x2 : Int32) , I2 g x2 → bX6_addAll_2 P a b1 (fun g' z0 => I2 g' z0 ∧ μ2 g' z0 < μ2 g x2) K g x2) :
  Met l yX6_addAll (wU yX6_addAll cX6_addAll 3 none) rmX6_addAll (PcW G P f sz [.ref a, .ref b1]) (QcV G P sz K) 0 0 (frA P sz) := by
  refine v_met (own := RX6) [.ref a, .ref b1] (by decide +kernel) rfl (Nat.le_of_ble_eq_true rfl) (fun p e s m args below meth c hsz o hr hnm => ?_)
  refine v_lv (lv2 := [(0, .ref a), (1, .ref b1)]) rfl ?_
  have main : ∀ n : Nat, (∀ (g : St) (x2 : Int32) , I2 g x2 → μ2 g x2 < n → V p l e rmX6_addAll s m args below meth c 3 G (frA P sz) (MQ below (QcV G P sz K) args s 0 0 (frA P sz)) 0 0 P [(0, .ref a), (1, .ref b1), (2, .int x2)] [] 2 g) := by
    intro n
    induction n with
    | zero => exact fun g x2 hI hm => absurd hm (Nat.not_lt_zero _)
    | succ n ih =>
      intro g x2 hI hm
      have h := h2 g x2 hI
      clear hI
      unfold bX6_addAll_2 at h
      refine v_iload_n o 2 dX6_addAll_2 rfl ?_
      refine v_aload_n o 1 dX6_addAll_3 rfl ?_
      refine v_gfI o lkX6_24 (by decide) (wfWord_o hb1) dX6_addAll_4 ?_
      refine v_icmp_ge o (tgt := 25) dX6_addAll_7 (by decide) (fun c7 => ?_) (fun c7 => ?_)
      · replace h := h.1 c7
        exact v_vret o rfl hr dX6_addAll_25 h
      · replace h := h.2 c7
        refine v_aload_n o 0 dX6_addAll_10 rfl ?_
        refine v_aload_n o 1 dX6_addAll_11 rfl ?_
        refine v_iload_n o 2 dX6_addAll_12 rfl ?_
        refine v_cVi o [.int x2] [.ref a] (fun sz => metX6_codeAt l G P g sz b1 hb1 x2 _ h) (cwX6_35 o.1.2.2.2.2 (by decide)) ⟨_, _, rfl⟩ (by decide) (wfWord_o hb1) rfl (Nat.le_of_ble_eq_true rfl) ⟨Nat.zero_le _, Nat.zero_le _⟩ dX6_addAll_13 rfl (fun r13 g13 h => ?_)
        refine v_cVv o [.int r13] [] (fun sz => metX6_add l G P g13 sz a ha r13 _ h) (cwX6_38 o.1.2.2.2.2 (by decide)) ⟨_, _, rfl⟩ (by decide) (wfWord_o ha) rfl (Nat.le_of_ble_eq_true rfl) ⟨Nat.zero_le _, Nat.zero_le _⟩ dX6_addAll_16 rfl (fun g16 h => ?_)
        obtain ⟨x2_19, ex2_19⟩ : ∃ y : Int32, y = x2 + 1 := ⟨_, rfl⟩
        replace h := h x2_19 ex2_19
        refine v_iinc o (v := x2_19) (lv' := [(2, .int x2_19), (0, .ref a), (1, .ref b1)]) 2 dX6_addAll_19 rfl (by rw [ex2_19]; rfl) (by decide) rfl ?_
        refine v_goto o (tgt := 2) dX6_addAll_22 (by decide) ?_
        refine v_sub [1, 2, 0] (lv2 := [(0, .ref a), (1, .ref b1), (2, .int x2_19)]) rfl ?_
        exact ih g16 x2_19  h.1 (by have := h.2; omega)
  unfold vX6_addAll at h
  refine v_iconst o (v := 0) dX6_addAll_0 (by decide) ?_
  refine v_istore_n o (lv' := [(2, .int 0), (0, .ref a), (1, .ref b1)]) dX6_addAll_1 rfl (by decide) rfl ?_
  refine v_sub [1, 2, 0] (lv2 := [(0, .ref a), (1, .ref b1), (2, .int 0)]) rfl ?_
  exact (main (μ2 f 0 + 1)) f 0  h (Nat.lt_succ_self _)
def kX6_addAll (P : Sk) (f : St) (a : Nat) (b1 : Nat) (K : St → Prop) : Prop := False
theorem metX6_addAll (l : Launch) (G : Gl) (P : Sk) (f : St) (sz : Nat) (a : Nat) (ha : IsWord P a) (b1 : Nat) (hb1 : IsWord P b1) (K : St → Prop) (h : kX6_addAll P f a b1 K) : Met l yX6_addAll (wU yX6_addAll cX6_addAll 3 none) rmX6_addAll (PcW G P f sz [.ref a, .ref b1]) (QcV G P sz K) 0 0 (frA P sz) := sorry

def bX6_isSame_26 (P : Sk) (a : Nat) (b1 : Nat) (L26 : St → Int32 → Prop) (K : Int32 → St → Prop) (f : St) (x2 : Int32) : Prop :=
  (f a 2 ≤ x2 → K 1 f) ∧ (¬ f a 2 ≤ x2 → kX6_codeAt P f a x2 (fun r36 g36 => kX6_codeAt P g36 b1 x2 (fun r41 g41 => (r36 = r41 → ∀ x2_49 : Int32, x2_49 = x2 + 1 → L26 g41 x2_49) ∧ (¬ r36 = r41 → K 0 g41))))
def vX6_isSame (P : Sk) (f : St) (a : Nat) (b1 : Nat) (L26 : St → Int32 → Prop) (K : Int32 → St → Prop) : Prop :=
  (¬ f a 1 = f b1 1 → K 0 f) ∧ (f a 1 = f b1 1 → (f a 2 = f b1 2 → L26 f 0) ∧ (¬ f a 2 = f b1 2 → K 0 f))
set_option maxRecDepth 20000 in
set_option maxHeartbeats 4000000 in
theorem mX6_isSame (l : Launch) (G : Gl) (P : Sk) (f : St) (sz : Nat) (a : Nat) (ha : IsWord P a) (b1 : Nat) (hb1 : IsWord P b1) (K : Int32 → St → Prop) (I26 : St → Int32 → Prop) (μ26 : St → Int32 → Nat) 
  (h : vX6_isSame P f a b1 I26 K)
  (h26 : ∀ (g : St) (x2 : Int32) , I26 g x2 → bX6_isSame_26 P a b1 (fun g' z0 => I26 g' z0 ∧ μ26 g' z0 < μ26 g x2) K g x2) :
  Met l yX6_isSame (wU yX6_isSame cX6_isSame 3 (some .boolean)) rmX6_isSame (PcW G P f sz [.ref a, .ref b1]) (QcI G P sz K) 0 0 (frA P sz) := by
  refine v_met (own := RX6) [.ref a, .ref b1] (by decide +kernel) rfl (Nat.le_of_ble_eq_true rfl) (fun p e s m args below meth c hsz o hr hnm => ?_)
  refine v_lv (lv2 := [(0, .ref a), (1, .ref b1)]) rfl ?_
  have main : ∀ n : Nat, (∀ (g : St) (x2 : Int32) , I26 g x2 → μ26 g x2 < n → V p l e rmX6_isSame s m args below meth c 3 G (frA P sz) (MQ below (QcI G P sz K) args s 0 0 (frA P sz)) 0 0 P [(0, .ref a), (1, .ref b1), (2, .int x2)] [] 26 g) := by
    intro n
    induction n with
    | zero => exact fun g x2 hI hm => absurd hm (Nat.not_lt_zero _)
    | succ n ih =>
      intro g x2 hI hm
      have h := h26 g x2 hI
      clear hI
      unfold bX6_isSame_26 at h
      refine v_iload_n o 2 dX6_isSame_26 rfl ?_
      refine v_aload_n o 0 dX6_isSame_27 rfl ?_
      refine v_gfI o lkX6_24 (by decide) (wfWord_o ha) dX6_isSame_28 ?_
      refine v_icmp_ge o (tgt := 55) dX6_isSame_31 (by decide) (fun c31 => ?_) (fun c31 => ?_)
      · replace h := h.1 c31
        refine v_iconst o (v := 1) dX6_isSame_55 (by decide) ?_
        exact v_zret o rfl hr bz1.1 dX6_isSame_56 h
      · replace h := h.2 c31
        refine v_aload_n o 0 dX6_isSame_34 rfl ?_
        refine v_iload_n o 2 dX6_isSame_35 rfl ?_
        refine v_cVi o [.int x2] [] (fun sz => metX6_codeAt l G P g sz a ha x2 _ h) (cwX6_35 o.1.2.2.2.2 (by decide)) ⟨_, _, rfl⟩ (by decide) (wfWord_o ha) rfl (Nat.le_of_ble_eq_true rfl) ⟨Nat.zero_le _, Nat.zero_le _⟩ dX6_isSame_36 rfl (fun r36 g36 h => ?_)
        refine v_aload_n o 1 dX6_isSame_39 rfl ?_
        refine v_iload_n o 2 dX6_isSame_40 rfl ?_
        refine v_cVi o [.int x2] [.int r36] (fun sz => metX6_codeAt l G P g36 sz b1 hb1 x2 _ h) (cwX6_35 o.1.2.2.2.2 (by decide)) ⟨_, _, rfl⟩ (by decide) (wfWord_o hb1) rfl (Nat.le_of_ble_eq_true rfl) ⟨Nat.zero_le _, Nat.zero_le _⟩ dX6_isSame_41 rfl (fun r41 g41 h => ?_)
        refine v_icmp_eq o (tgt := 49) dX6_isSame_44 (by decide) (fun c44 => ?_) (fun c44 => ?_)
        · replace h := h.1 c44
          obtain ⟨x2_49, ex2_49⟩ : ∃ y : Int32, y = x2 + 1 := ⟨_, rfl⟩
          replace h := h x2_49 ex2_49
          refine v_iinc o (v := x2_49) (lv' := [(2, .int x2_49), (0, .ref a), (1, .ref b1)]) 2 dX6_isSame_49 rfl (by rw [ex2_49]; rfl) (by decide) rfl ?_
          refine v_goto o (tgt := 26) dX6_isSame_52 (by decide) ?_
          refine v_sub [1, 2, 0] (lv2 := [(0, .ref a), (1, .ref b1), (2, .int x2_49)]) rfl ?_
          exact ih g41 x2_49  h.1 (by have := h.2; omega)
        · replace h := h.2 c44
          refine v_iconst o (v := 0) dX6_isSame_47 (by decide) ?_
          exact v_zret o rfl hr bz0.1 dX6_isSame_48 h
  unfold vX6_isSame at h
  refine v_aload_n o 0 dX6_isSame_0 rfl ?_
  refine v_gfI o lkX6_20 (by decide) (wfWord_o ha) dX6_isSame_1 ?_
  refine v_aload_n o 1 dX6_isSame_4 rfl ?_
  refine v_gfI o lkX6_20 (by decide) (wfWord_o hb1) dX6_isSame_5 ?_
  refine v_icmp_ne o (tgt := 22) dX6_isSame_8 (by decide) (fun c8 => ?_) (fun c8 => ?_)
  · replace h := h.1 c8
    refine v_iconst o (v := 0) dX6_isSame_22 (by decide) ?_
    exact v_zret o rfl hr bz0.1 dX6_isSame_23 h
  · replace h := h.2 c8
    refine v_aload_n o 0 dX6_isSame_11 rfl ?_
    refine v_gfI o lkX6_24 (by decide) (wfWord_o ha) dX6_isSame_12 ?_
    refine v_aload_n o 1 dX6_isSame_15 rfl ?_
    refine v_gfI o lkX6_24 (by decide) (wfWord_o hb1) dX6_isSame_16 ?_
    refine v_icmp_eq o (tgt := 24) dX6_isSame_19 (by decide) (fun c19 => ?_) (fun c19 => ?_)
    · replace h := h.1 c19
      refine v_iconst o (v := 0) dX6_isSame_24 (by decide) ?_
      refine v_istore_n o (lv' := [(2, .int 0), (0, .ref a), (1, .ref b1)]) dX6_isSame_25 rfl (by decide) rfl ?_
      refine v_sub [1, 2, 0] (lv2 := [(0, .ref a), (1, .ref b1), (2, .int 0)]) rfl ?_
      exact (main (μ26 f 0 + 1)) f 0  h (Nat.lt_succ_self _)
    · replace h := h.2 c19
      refine v_iconst o (v := 0) dX6_isSame_22 (by decide) ?_
      exact v_zret o rfl hr bz0.1 dX6_isSame_23 h
def kX6_isSame (P : Sk) (f : St) (a : Nat) (b1 : Nat) (K : Int32 → St → Prop) : Prop := False
theorem metX6_isSame (l : Launch) (G : Gl) (P : Sk) (f : St) (sz : Nat) (a : Nat) (ha : IsWord P a) (b1 : Nat) (hb1 : IsWord P b1) (K : Int32 → St → Prop) (h : kX6_isSame P f a b1 K) : Met l yX6_isSame (wU yX6_isSame cX6_isSame 3 (some .boolean)) rmX6_isSame (PcW G P f sz [.ref a, .ref b1]) (QcI G P sz K) 0 0 (frA P sz) := sorry

def jX6_rightLessLeft_29 (P : Sk) (a : Nat) (L4 : St → Int32 → Int32 → Prop) (K : Int32 → St → Prop) (x1 : Int32) (x2 : Int32) (y0 : Int32) (y1 : Int32) (f : St) : Prop :=
  ∀ x1_30 : Int32, x1_30 = y0 + y1 → ∀ x2_31 : Int32, x2_31 = x2 + 1 → L4 f x1_30 x2_31
def bX6_rightLessLeft_4 (P : Sk) (a : Nat) (L4 : St → Int32 → Int32 → Prop) (K : Int32 → St → Prop) (f : St) (x1 : Int32) (x2 : Int32) : Prop :=
  (f a 2 ≤ x2 → K x1 f) ∧ (¬ f a 2 ≤ x2 → kX6_codeAt P f a x2 (fun r15 g15 => kX6_isRight P g15 r15 (fun r18 g18 => (r18 = 0 → jX6_rightLessLeft_29 P a L4 K x1 x2 x1 (-1) g18) ∧ (¬ r18 = 0 → jX6_rightLessLeft_29 P a L4 K x1 x2 x1 1 g18))))
def vX6_rightLessLeft (P : Sk) (f : St) (a : Nat) (L4 : St → Int32 → Int32 → Prop) (K : Int32 → St → Prop) : Prop :=
  L4 f 0 0
set_option maxRecDepth 20000 in
set_option maxHeartbeats 4000000 in
theorem mX6_rightLessLeft (l : Launch) (G : Gl) (P : Sk) (f : St) (sz : Nat) (a : Nat) (ha : IsWord P a) (K : Int32 → St → Prop) (I4 : St → Int32 → Int32 → Prop) (μ4 : St → Int32 → Int32 → Nat) 
  (h : vX6_rightLessLeft P f a I4 K)
  (h4 : ∀ (g : St) (x1 : Int32) (x2 : Int32) , I4 g x1 x2 → bX6_rightLessLeft_4 P a (fun g' z0 z1 => I4 g' z0 z1 ∧ μ4 g' z0 z1 < μ4 g x1 x2) K g x1 x2) :
  Met l yX6_rightLessLeft (wU yX6_rightLessLeft cX6_rightLessLeft 3 (some .int)) rmX6_rightLessLeft (PcW G P f sz [.ref a]) (QcI G P sz K) 0 0 (frA P sz) := by
  refine v_met (own := RX6) [.ref a] (by decide +kernel) rfl (Nat.le_of_ble_eq_true rfl) (fun p e s m args below meth c hsz o hr hnm => ?_)
  refine v_lv (lv2 := [(0, .ref a)]) rfl ?_
  have main : ∀ n : Nat, (∀ (g : St) (x1 : Int32) (x2 : Int32) , I4 g x1 x2 → μ4 g x1 x2 < n → V p l e rmX6_rightLessLeft s m args below meth c 3 G (frA P sz) (MQ below (QcI G P sz K) args s 0 0 (frA P sz)) 0 0 P [(0, .ref a), (1, .int x1), (2, .int x2)] [] 4 g) := by
    intro n
    induction n with
    | zero => exact fun g x1 x2 hI hm => absurd hm (Nat.not_lt_zero _)
    | succ n ih =>
      intro g x1 x2 hI hm
      have h := h4 g x1 x2 hI
      clear hI
      have J29 : ∀ (x1_29 : Int32) (x2_29 : Int32) (y0_29 : Int32) (y1_29 : Int32) (g29 : St), jX6_rightLessLeft_29 P a (fun g' z0 z1 => I4 g' z0 z1 ∧ μ4 g' z0 z1 < μ4 g x1 x2) K x1_29 x2_29 y0_29 y1_29 g29 → V p l e rmX6_rightLessLeft s m args below meth c 3 G (frA P sz) (MQ below (QcI G P sz K) args s 0 0 (frA P sz)) 0 0 P [(0, .ref a), (1, .int x1_29), (2, .int x2_29)] [.int y1_29, .int y0_29] 29 g29 := by
        intro x1_29 x2_29 y0_29 y1_29 g29  h
        unfold jX6_rightLessLeft_29 at h
        refine v_iadd o dX6_rightLessLeft_29 ?_
        refine v_topi (fun x1_30 ex1_30 => ?_)
        replace h := h x1_30 ex1_30
        refine v_istore_n o (lv' := [(1, .int x1_30), (0, .ref a), (2, .int x2_29)]) dX6_rightLessLeft_30 rfl (by decide) rfl ?_
        obtain ⟨x2_31, ex2_31⟩ : ∃ y : Int32, y = x2_29 + 1 := ⟨_, rfl⟩
        replace h := h x2_31 ex2_31
        refine v_iinc o (v := x2_31) (lv' := [(2, .int x2_31), (1, .int x1_30), (0, .ref a)]) 2 dX6_rightLessLeft_31 rfl (by rw [ex2_31]; rfl) (by decide) rfl ?_
        refine v_goto o (tgt := 4) dX6_rightLessLeft_34 (by decide) ?_
        refine v_sub [2, 1, 0] (lv2 := [(0, .ref a), (1, .int x1_30), (2, .int x2_31)]) rfl ?_
        exact ih g29 x1_30 x2_31  h.1 (by have := h.2; omega)
      unfold bX6_rightLessLeft_4 at h
      refine v_iload_n o 2 dX6_rightLessLeft_4 rfl ?_
      refine v_aload_n o 0 dX6_rightLessLeft_5 rfl ?_
      refine v_gfI o lkX6_24 (by decide) (wfWord_o ha) dX6_rightLessLeft_6 ?_
      refine v_icmp_ge o (tgt := 37) dX6_rightLessLeft_9 (by decide) (fun c9 => ?_) (fun c9 => ?_)
      · replace h := h.1 c9
        refine v_iload_n o 1 dX6_rightLessLeft_37 rfl ?_
        exact v_iret o rfl hr dX6_rightLessLeft_38 h
      · replace h := h.2 c9
        refine v_iload_n o 1 dX6_rightLessLeft_12 rfl ?_
        refine v_aload_n o 0 dX6_rightLessLeft_13 rfl ?_
        refine v_iload_n o 2 dX6_rightLessLeft_14 rfl ?_
        refine v_cVi o [.int x2] [.int x1] (fun sz => metX6_codeAt l G P g sz a ha x2 _ h) (cwX6_35 o.1.2.2.2.2 (by decide)) ⟨_, _, rfl⟩ (by decide) (wfWord_o ha) rfl (Nat.le_of_ble_eq_true rfl) ⟨Nat.zero_le _, Nat.zero_le _⟩ dX6_rightLessLeft_15 rfl (fun r15 g15 h => ?_)
        refine v_cSi o [.int r15] [.int x1] (fun sz => metX6_isRight l G P g15 sz r15 _ h) (cwX6_48 o.1.2.2.2.2 (by decide)) rfl (Nat.le_of_ble_eq_true rfl) ⟨Nat.zero_le _, Nat.zero_le _⟩ dX6_rightLessLeft_18 rfl (fun r18 g18 h => ?_)
        refine v_if_eq o (tgt := 28) dX6_rightLessLeft_21 (by decide) (fun c21 => ?_) (fun c21 => ?_)
        · replace h := h.1 c21
          refine v_iconst o (v := (-1)) dX6_rightLessLeft_28 (by decide) ?_
          refine v_sub [0, 1, 2] (lv2 := [(0, .ref a), (1, .int x1), (2, .int x2)]) rfl ?_
          exact J29 x1 x2 x1 (-1) g18  h
        · replace h := h.2 c21
          refine v_iconst o (v := 1) dX6_rightLessLeft_24 (by decide) ?_
          refine v_goto o (tgt := 29) dX6_rightLessLeft_25 (by decide) ?_
          refine v_sub [0, 1, 2] (lv2 := [(0, .ref a), (1, .int x1), (2, .int x2)]) rfl ?_
          exact J29 x1 x2 x1 1 g18  h
  unfold vX6_rightLessLeft at h
  refine v_iconst o (v := 0) dX6_rightLessLeft_0 (by decide) ?_
  refine v_istore_n o (lv' := [(1, .int 0), (0, .ref a)]) dX6_rightLessLeft_1 rfl (by decide) rfl ?_
  refine v_iconst o (v := 0) dX6_rightLessLeft_2 (by decide) ?_
  refine v_istore_n o (lv' := [(2, .int 0), (1, .int 0), (0, .ref a)]) dX6_rightLessLeft_3 rfl (by decide) rfl ?_
  refine v_sub [2, 1, 0] (lv2 := [(0, .ref a), (1, .int 0), (2, .int 0)]) rfl ?_
  exact (main (μ4 f 0 0 + 1)) f 0 0  h (Nat.lt_succ_self _)
def kX6_rightLessLeft (P : Sk) (f : St) (a : Nat) (K : Int32 → St → Prop) : Prop := False
theorem metX6_rightLessLeft (l : Launch) (G : Gl) (P : Sk) (f : St) (sz : Nat) (a : Nat) (ha : IsWord P a) (K : Int32 → St → Prop) (h : kX6_rightLessLeft P f a K) : Met l yX6_rightLessLeft (wU yX6_rightLessLeft cX6_rightLessLeft 3 (some .int)) rmX6_rightLessLeft (PcW G P f sz [.ref a]) (QcI G P sz K) 0 0 (frA P sz) := sorry

def vX6_turned (P : Sk) (f : St) (a : Nat) (p1 : Int32) (K : Int32 → St → Prop) : Prop :=
  kX6_placeOf P f p1 (fun r7 g7 => kX6_isRight P g7 p1 (fun r12 g12 => kX6_codeOf P g12 (((f a 1) - 2) - r7) r12 (fun r15 g15 => K r15 g15)))
set_option maxRecDepth 20000 in
set_option maxHeartbeats 4000000 in
theorem mX6_turned (l : Launch) (G : Gl) (P : Sk) (f : St) (sz : Nat) (a : Nat) (ha : IsWord P a) (p1 : Int32) (K : Int32 → St → Prop) (h : vX6_turned P f a p1 K)  :
  Met l yX6_turned (wU yX6_turned cX6_turned 2 (some .int)) rmX6_turned (PcW G P f sz [.ref a, .int p1]) (QcI G P sz K) 0 0 (frA P sz) := by
  refine v_met (own := RX6) [.ref a, .int p1] (by decide +kernel) rfl (Nat.le_of_ble_eq_true rfl) (fun p e s m args below meth c hsz o hr hnm => ?_)
  refine v_lv (lv2 := [(0, .ref a), (1, .int p1)]) rfl ?_
  unfold vX6_turned at h
  refine v_aload_n o 0 dX6_turned_0 rfl ?_
  refine v_gfI o lkX6_20 (by decide) (wfWord_o ha) dX6_turned_1 ?_
  refine v_iconst o (v := 2) dX6_turned_4 (by decide) ?_
  refine v_isub o dX6_turned_5 ?_
  refine v_iload_n o 1 dX6_turned_6 rfl ?_
  refine v_cSi o [.int p1] [.int ((f a 1) - 2)] (fun sz => metX6_placeOf l G P f sz p1 _ h) (cwX6_65 o.1.2.2.2.2 (by decide)) rfl (Nat.le_of_ble_eq_true rfl) ⟨Nat.zero_le _, Nat.zero_le _⟩ dX6_turned_7 rfl (fun r7 g7 h => ?_)
  refine v_isub o dX6_turned_10 ?_
  refine v_iload_n o 1 dX6_turned_11 rfl ?_
  refine v_cSi o [.int p1] [.int (((f a 1) - 2) - r7)] (fun sz => metX6_isRight l G P g7 sz p1 _ h) (cwX6_48 o.1.2.2.2.2 (by decide)) rfl (Nat.le_of_ble_eq_true rfl) ⟨Nat.zero_le _, Nat.zero_le _⟩ dX6_turned_12 rfl (fun r12 g12 h => ?_)
  refine v_cSi o [.int (((f a 1) - 2) - r7), .int r12] [] (fun sz => metX6_codeOf l G P g12 sz (((f a 1) - 2) - r7) r12 _ h) (cwX6_68 o.1.2.2.2.2 (by decide)) rfl (Nat.le_of_ble_eq_true rfl) ⟨Nat.zero_le _, Nat.zero_le _⟩ dX6_turned_15 rfl (fun r15 g15 h => ?_)
  exact v_iret o rfl hr dX6_turned_18 h
abbrev kX6_turned := @vX6_turned
abbrev metX6_turned := @mX6_turned

def jX6_makeChanged_106 (P : Sk) (a : Nat) (b1 : Nat) (p2 : Int32) (L21 : St → Int32 → Prop) (K : St → Prop) (x3 : Int32) (f : St) : Prop :=
  ∀ x3_106 : Int32, x3_106 = x3 + 1 → L21 f x3_106
def bX6_makeChanged_21 (P : Sk) (a : Nat) (b1 : Nat) (p2 : Int32) (L21 : St → Int32 → Prop) (K : St → Prop) (f : St) (x3 : Int32) : Prop :=
  (f b1 2 ≤ x3 → K f) ∧ (¬ f b1 2 ≤ x3 → (p2 = 0 → kX6_codeAt P f b1 x3 (fun r59 g59 => kX6_flipped P g59 r59 (fun r62 g62 => kX6_add P g62 a r62 (fun g65 => jX6_makeChanged_106 P a b1 p2 L21 K x3 g65)))) ∧ (¬ p2 = 0 → (p2 = 1 → kX6_codeAt P f b1 x3 (fun r75 g75 => kX6_turned P g75 a r75 (fun r78 g78 => kX6_add P g78 a r78 (fun g81 => jX6_makeChanged_106 P a b1 p2 L21 K x3 g81)))) ∧ (¬ p2 = 1 → kX6_codeAt P f b1 (((f b1 2) - 1) - x3) (fun r97 g97 => kX6_flipped P g97 r97 (fun r100 g100 => kX6_add P g100 a r100 (fun g103 => jX6_makeChanged_106 P a b1 p2 L21 K x3 g103))))))
def vX6_makeChanged (P : Sk) (f : St) (a : Nat) (b1 : Nat) (p2 : Int32) (L21 : St → Int32 → Prop) (K : St → Prop) : Prop :=
  (¬ p2 = 3 → kX6_begin P f a (f b1 1) (fun g16 => L21 g16 0)) ∧ (p2 = 3 → kX6_makeLoose P f a b1 (fun g7 => K g7))
set_option maxRecDepth 20000 in
set_option maxHeartbeats 4000000 in
theorem mX6_makeChanged (l : Launch) (G : Gl) (P : Sk) (f : St) (sz : Nat) (a : Nat) (ha : IsWord P a) (b1 : Nat) (hb1 : IsWord P b1) (p2 : Int32) (K : St → Prop) (I21 : St → Int32 → Prop) (μ21 : St → Int32 → Nat) 
  (h : vX6_makeChanged P f a b1 p2 I21 K)
  (h21 : ∀ (g : St) (x3 : Int32) , I21 g x3 → bX6_makeChanged_21 P a b1 p2 (fun g' z0 => I21 g' z0 ∧ μ21 g' z0 < μ21 g x3) K g x3) :
  Met l yX6_makeChanged (wU yX6_makeChanged cX6_makeChanged 4 none) rmX6_makeChanged (PcW G P f sz [.ref a, .ref b1, .int p2]) (QcV G P sz K) 0 0 (frA P sz) := by
  refine v_met (own := RX6) [.ref a, .ref b1, .int p2] (by decide +kernel) rfl (Nat.le_of_ble_eq_true rfl) (fun p e s m args below meth c hsz o hr hnm => ?_)
  refine v_lv (lv2 := [(0, .ref a), (1, .ref b1), (2, .int p2)]) rfl ?_
  have main : ∀ n : Nat, (∀ (g : St) (x3 : Int32) , I21 g x3 → μ21 g x3 < n → V p l e rmX6_makeChanged s m args below meth c 4 G (frA P sz) (MQ below (QcV G P sz K) args s 0 0 (frA P sz)) 0 0 P [(0, .ref a), (1, .ref b1), (2, .int p2), (3, .int x3)] [] 21 g) := by
    intro n
    induction n with
    | zero => exact fun g x3 hI hm => absurd hm (Nat.not_lt_zero _)
    | succ n ih =>
      intro g x3 hI hm
      have h := h21 g x3 hI
      clear hI
      have J106 : ∀ (x3_106 : Int32) (g106 : St), jX6_makeChanged_106 P a b1 p2 (fun g' z0 => I21 g' z0 ∧ μ21 g' z0 < μ21 g x3) K x3_106 g106 → V p l e rmX6_makeChanged s m args below meth c 4 G (frA P sz) (MQ below (QcV G P sz K) args s 0 0 (frA P sz)) 0 0 P [(0, .ref a), (1, .ref b1), (2, .int p2), (3, .int x3_106)] [] 106 g106 := by
        intro x3_106 g106  h
        unfold jX6_makeChanged_106 at h
        obtain ⟨x3_106, ex3_106⟩ : ∃ y : Int32, y = x3_106 + 1 := ⟨_, rfl⟩
        replace h := h x3_106 ex3_106
        refine v_iinc o (v := x3_106) (lv' := [(3, .int x3_106), (0, .ref a), (1, .ref b1), (2, .int p2)]) 3 dX6_makeChanged_106 rfl (by rw [ex3_106]; rfl) (by decide) rfl ?_
        refine v_goto o (tgt := 21) dX6_makeChanged_109 (by decide) ?_
        refine v_sub [1, 2, 3, 0] (lv2 := [(0, .ref a), (1, .ref b1), (2, .int p2), (3, .int x3_106)]) rfl ?_
        exact ih g106 x3_106  h.1 (by have := h.2; omega)
      unfold bX6_makeChanged_21 at h
      refine v_iload_n o 3 dX6_makeChanged_21 rfl ?_
      refine v_aload_n o 1 dX6_makeChanged_22 rfl ?_
      refine v_gfI o lkX6_24 (by decide) (wfWord_o hb1) dX6_makeChanged_23 ?_
      refine v_icmp_ge o (tgt := 112) dX6_makeChanged_26 (by decide) (fun c26 => ?_) (fun c26 => ?_)
      · replace h := h.1 c26
        exact v_vret o rfl hr dX6_makeChanged_112 h
      · replace h := h.2 c26
        refine v_iload_n o 2 dX6_makeChanged_29 rfl ?_
        by_cases c30_0 : p2 = 0
        · replace h := h.1 c30_0
          refine v_lookup o (off := 26) (tgt := 56) dX6_makeChanged_30 (by decide) (by rw [c30_0]; decide) (by decide) ?_
          refine v_aload_n o 0 dX6_makeChanged_56 rfl ?_
          refine v_aload_n o 1 dX6_makeChanged_57 rfl ?_
          refine v_iload_n o 3 dX6_makeChanged_58 rfl ?_
          refine v_cVi o [.int x3] [.ref a] (fun sz => metX6_codeAt l G P g sz b1 hb1 x3 _ h) (cwX6_35 o.1.2.2.2.2 (by decide)) ⟨_, _, rfl⟩ (by decide) (wfWord_o hb1) rfl (Nat.le_of_ble_eq_true rfl) ⟨Nat.zero_le _, Nat.zero_le _⟩ dX6_makeChanged_59 rfl (fun r59 g59 h => ?_)
          refine v_cSi o [.int r59] [.ref a] (fun sz => metX6_flipped l G P g59 sz r59 _ h) (cwX6_59 o.1.2.2.2.2 (by decide)) rfl (Nat.le_of_ble_eq_true rfl) ⟨Nat.zero_le _, Nat.zero_le _⟩ dX6_makeChanged_62 rfl (fun r62 g62 h => ?_)
          refine v_cVv o [.int r62] [] (fun sz => metX6_add l G P g62 sz a ha r62 _ h) (cwX6_38 o.1.2.2.2.2 (by decide)) ⟨_, _, rfl⟩ (by decide) (wfWord_o ha) rfl (Nat.le_of_ble_eq_true rfl) ⟨Nat.zero_le _, Nat.zero_le _⟩ dX6_makeChanged_65 rfl (fun g65 h => ?_)
          refine v_goto o (tgt := 106) dX6_makeChanged_68 (by decide) ?_
          refine v_sub [0, 1, 2, 3] (lv2 := [(0, .ref a), (1, .ref b1), (2, .int p2), (3, .int x3)]) rfl ?_
          exact J106 x3 g65  h
        · replace h := h.2 c30_0
          by_cases c30_1 : p2 = 1
          · replace h := h.1 c30_1
            refine v_lookup o (off := 41) (tgt := 71) dX6_makeChanged_30 (by decide) (by rw [c30_1]; decide) (by decide) ?_
            refine v_aload_n o 0 dX6_makeChanged_71 rfl ?_
            refine v_aload_n o 0 dX6_makeChanged_72 rfl ?_
            refine v_aload_n o 1 dX6_makeChanged_73 rfl ?_
            refine v_iload_n o 3 dX6_makeChanged_74 rfl ?_
            refine v_cVi o [.int x3] [.ref a, .ref a] (fun sz => metX6_codeAt l G P g sz b1 hb1 x3 _ h) (cwX6_35 o.1.2.2.2.2 (by decide)) ⟨_, _, rfl⟩ (by decide) (wfWord_o hb1) rfl (Nat.le_of_ble_eq_true rfl) ⟨Nat.zero_le _, Nat.zero_le _⟩ dX6_makeChanged_75 rfl (fun r75 g75 h => ?_)
            refine v_cVi o [.int r75] [.ref a] (fun sz => metX6_turned l G P g75 sz a ha r75 _ h) (cwX6_62 o.1.2.2.2.2 (by decide)) ⟨_, _, rfl⟩ (by decide) (wfWord_o ha) rfl (Nat.le_of_ble_eq_true rfl) ⟨Nat.zero_le _, Nat.zero_le _⟩ dX6_makeChanged_78 rfl (fun r78 g78 h => ?_)
            refine v_cVv o [.int r78] [] (fun sz => metX6_add l G P g78 sz a ha r78 _ h) (cwX6_38 o.1.2.2.2.2 (by decide)) ⟨_, _, rfl⟩ (by decide) (wfWord_o ha) rfl (Nat.le_of_ble_eq_true rfl) ⟨Nat.zero_le _, Nat.zero_le _⟩ dX6_makeChanged_81 rfl (fun g81 h => ?_)
            refine v_goto o (tgt := 106) dX6_makeChanged_84 (by decide) ?_
            refine v_sub [0, 1, 2, 3] (lv2 := [(0, .ref a), (1, .ref b1), (2, .int p2), (3, .int x3)]) rfl ?_
            exact J106 x3 g81  h
          · replace h := h.2 c30_1
            refine v_lookup o (off := 57) (tgt := 87) dX6_makeChanged_30 (by decide) (by show Op.lookupswitch.offset [(0, 26), (1, 41)] _ _ = _; rw [lv_osw c30_0 (by decide), lv_osw c30_1 (by decide)]; rfl) (by decide) ?_
            refine v_aload_n o 0 dX6_makeChanged_87 rfl ?_
            refine v_aload_n o 1 dX6_makeChanged_88 rfl ?_
            refine v_aload_n o 1 dX6_makeChanged_89 rfl ?_
            refine v_gfI o lkX6_24 (by decide) (wfWord_o hb1) dX6_makeChanged_90 ?_
            refine v_iconst o (v := 1) dX6_makeChanged_93 (by decide) ?_
            refine v_isub o dX6_makeChanged_94 ?_
            refine v_iload_n o 3 dX6_makeChanged_95 rfl ?_
            refine v_isub o dX6_makeChanged_96 ?_
            refine v_cVi o [.int (((g b1 2) - 1) - x3)] [.ref a] (fun sz => metX6_codeAt l G P g sz b1 hb1 (((g b1 2) - 1) - x3) _ h) (cwX6_35 o.1.2.2.2.2 (by decide)) ⟨_, _, rfl⟩ (by decide) (wfWord_o hb1) rfl (Nat.le_of_ble_eq_true rfl) ⟨Nat.zero_le _, Nat.zero_le _⟩ dX6_makeChanged_97 rfl (fun r97 g97 h => ?_)
            refine v_cSi o [.int r97] [.ref a] (fun sz => metX6_flipped l G P g97 sz r97 _ h) (cwX6_59 o.1.2.2.2.2 (by decide)) rfl (Nat.le_of_ble_eq_true rfl) ⟨Nat.zero_le _, Nat.zero_le _⟩ dX6_makeChanged_100 rfl (fun r100 g100 h => ?_)
            refine v_cVv o [.int r100] [] (fun sz => metX6_add l G P g100 sz a ha r100 _ h) (cwX6_38 o.1.2.2.2.2 (by decide)) ⟨_, _, rfl⟩ (by decide) (wfWord_o ha) rfl (Nat.le_of_ble_eq_true rfl) ⟨Nat.zero_le _, Nat.zero_le _⟩ dX6_makeChanged_103 rfl (fun g103 h => ?_)
            refine v_sub [0, 1, 2, 3] (lv2 := [(0, .ref a), (1, .ref b1), (2, .int p2), (3, .int x3)]) rfl ?_
            exact J106 x3 g103  h
  unfold vX6_makeChanged at h
  refine v_iload_n o 2 dX6_makeChanged_0 rfl ?_
  refine v_iconst o (v := 3) dX6_makeChanged_1 (by decide) ?_
  refine v_icmp_ne o (tgt := 11) dX6_makeChanged_2 (by decide) (fun c2 => ?_) (fun c2 => ?_)
  · replace h := h.1 c2
    refine v_aload_n o 0 dX6_makeChanged_11 rfl ?_
    refine v_aload_n o 1 dX6_makeChanged_12 rfl ?_
    refine v_gfI o lkX6_20 (by decide) (wfWord_o hb1) dX6_makeChanged_13 ?_
    refine v_cVv o [.int (f b1 1)] [] (fun sz => metX6_begin l G P f sz a ha (f b1 1) _ h) (cwX6_56 o.1.2.2.2.2 (by decide)) ⟨_, _, rfl⟩ (by decide) (wfWord_o ha) rfl (Nat.le_of_ble_eq_true rfl) ⟨Nat.zero_le _, Nat.zero_le _⟩ dX6_makeChanged_16 rfl (fun g16 h => ?_)
    refine v_iconst o (v := 0) dX6_makeChanged_19 (by decide) ?_
    refine v_istore_n o (lv' := [(3, .int 0), (0, .ref a), (1, .ref b1), (2, .int p2)]) dX6_makeChanged_20 rfl (by decide) rfl ?_
    refine v_sub [1, 2, 3, 0] (lv2 := [(0, .ref a), (1, .ref b1), (2, .int p2), (3, .int 0)]) rfl ?_
    exact (main (μ21 g16 0 + 1)) g16 0  h (Nat.lt_succ_self _)
  · replace h := h.2 c2
    refine v_aload_n o 0 dX6_makeChanged_5 rfl ?_
    refine v_aload_n o 1 dX6_makeChanged_6 rfl ?_
    refine v_cVv o [.ref b1] [] (fun sz => metX6_makeLoose l G P f sz a ha b1 hb1 _ h) (cwX6_52 o.1.2.2.2.2 (by decide)) ⟨_, _, rfl⟩ (by decide) (wfWord_o ha) rfl (Nat.le_of_ble_eq_true rfl) ⟨Nat.zero_le _, Nat.zero_le _⟩ dX6_makeChanged_7 rfl (fun g7 h => ?_)
    exact v_vret o rfl hr dX6_makeChanged_10 h
def kX6_makeChanged (P : Sk) (f : St) (a : Nat) (b1 : Nat) (p2 : Int32) (K : St → Prop) : Prop := False
theorem metX6_makeChanged (l : Launch) (G : Gl) (P : Sk) (f : St) (sz : Nat) (a : Nat) (ha : IsWord P a) (b1 : Nat) (hb1 : IsWord P b1) (p2 : Int32) (K : St → Prop) (h : kX6_makeChanged P f a b1 p2 K) : Met l yX6_makeChanged (wU yX6_makeChanged cX6_makeChanged 4 none) rmX6_makeChanged (PcW G P f sz [.ref a, .ref b1, .int p2]) (QcV G P sz K) 0 0 (frA P sz) := sorry

def jX6_makeShortAtOnce_68 (P : Sk) (a : Nat) (b1 : Nat) (L10 : St → Int32 → Prop) (K : St → Prop) (x2 : Int32) (f : St) : Prop :=
  ∀ x2_68 : Int32, x2_68 = x2 + 1 → L10 f x2_68
def jX6_makeShortAtOnce_59 (P : Sk) (a : Nat) (b1 : Nat) (L10 : St → Int32 → Prop) (K : St → Prop) (x2 : Int32) (f : St) : Prop :=
  kX6_codeAt P f b1 x2 (fun r62 g62 => kX6_add P g62 a r62 (fun g65 => jX6_makeShortAtOnce_68 P a b1 L10 K x2 g65))
def bX6_makeShortAtOnce_10 (P : Sk) (a : Nat) (b1 : Nat) (L10 : St → Int32 → Prop) (K : St → Prop) (f : St) (x2 : Int32) : Prop :=
  (f b1 2 ≤ x2 → K f) ∧ (¬ f b1 2 ≤ x2 → (f a 2 ≤ 0 → jX6_makeShortAtOnce_59 P a b1 L10 K x2 f) ∧ (¬ f a 2 ≤ 0 → kX6_codeAt P f a ((f a 2) - 1) (fun r32 g32 => kX6_codeAt P g32 b1 x2 (fun r37 g37 => kX6_flipped P g37 r37 (fun r40 g40 => (¬ r32 = r40 → jX6_makeShortAtOnce_59 P a b1 L10 K x2 g40) ∧ (r32 = r40 → kX6_removeAt P g40 a ((g40 a 2) - 1) (fun g53 => jX6_makeShortAtOnce_68 P a b1 L10 K x2 g53)))))))
def vX6_makeShortAtOnce (P : Sk) (f : St) (a : Nat) (b1 : Nat) (L10 : St → Int32 → Prop) (K : St → Prop) : Prop :=
  kX6_begin P f a (f b1 1) (fun g5 => L10 g5 0)
set_option maxRecDepth 20000 in
set_option maxHeartbeats 4000000 in
theorem mX6_makeShortAtOnce (l : Launch) (G : Gl) (P : Sk) (f : St) (sz : Nat) (a : Nat) (ha : IsWord P a) (b1 : Nat) (hb1 : IsWord P b1) (K : St → Prop) (I10 : St → Int32 → Prop) (μ10 : St → Int32 → Nat) 
  (h : vX6_makeShortAtOnce P f a b1 I10 K)
  (h10 : ∀ (g : St) (x2 : Int32) , I10 g x2 → bX6_makeShortAtOnce_10 P a b1 (fun g' z0 => I10 g' z0 ∧ μ10 g' z0 < μ10 g x2) K g x2) :
  Met l yX6_makeShortAtOnce (wU yX6_makeShortAtOnce cX6_makeShortAtOnce 3 none) rmX6_makeShortAtOnce (PcW G P f sz [.ref a, .ref b1]) (QcV G P sz K) 0 0 (frA P sz) := by
  refine v_met (own := RX6) [.ref a, .ref b1] (by decide +kernel) rfl (Nat.le_of_ble_eq_true rfl) (fun p e s m args below meth c hsz o hr hnm => ?_)
  refine v_lv (lv2 := [(0, .ref a), (1, .ref b1)]) rfl ?_
  have main : ∀ n : Nat, (∀ (g : St) (x2 : Int32) , I10 g x2 → μ10 g x2 < n → V p l e rmX6_makeShortAtOnce s m args below meth c 3 G (frA P sz) (MQ below (QcV G P sz K) args s 0 0 (frA P sz)) 0 0 P [(0, .ref a), (1, .ref b1), (2, .int x2)] [] 10 g) := by
    intro n
    induction n with
    | zero => exact fun g x2 hI hm => absurd hm (Nat.not_lt_zero _)
    | succ n ih =>
      intro g x2 hI hm
      have h := h10 g x2 hI
      clear hI
      have J68 : ∀ (x2_68 : Int32) (g68 : St), jX6_makeShortAtOnce_68 P a b1 (fun g' z0 => I10 g' z0 ∧ μ10 g' z0 < μ10 g x2) K x2_68 g68 → V p l e rmX6_makeShortAtOnce s m args below meth c 3 G (frA P sz) (MQ below (QcV G P sz K) args s 0 0 (frA P sz)) 0 0 P [(0, .ref a), (1, .ref b1), (2, .int x2_68)] [] 68 g68 := by
        intro x2_68 g68  h
        unfold jX6_makeShortAtOnce_68 at h
        obtain ⟨x2_68, ex2_68⟩ : ∃ y : Int32, y = x2_68 + 1 := ⟨_, rfl⟩
        replace h := h x2_68 ex2_68
        refine v_iinc o (v := x2_68) (lv' := [(2, .int x2_68), (0, .ref a), (1, .ref b1)]) 2 dX6_makeShortAtOnce_68 rfl (by rw [ex2_68]; rfl) (by decide) rfl ?_
        refine v_goto o (tgt := 10) dX6_makeShortAtOnce_71 (by decide) ?_
        refine v_sub [1, 2, 0] (lv2 := [(0, .ref a), (1, .ref b1), (2, .int x2_68)]) rfl ?_
        exact ih g68 x2_68  h.1 (by have := h.2; omega)
      have J59 : ∀ (x2_59 : Int32) (g59 : St), jX6_makeShortAtOnce_59 P a b1 (fun g' z0 => I10 g' z0 ∧ μ10 g' z0 < μ10 g x2) K x2_59 g59 → V p l e rmX6_makeShortAtOnce s m args below meth c 3 G (frA P sz) (MQ below (QcV G P sz K) args s 0 0 (frA P sz)) 0 0 P [(0, .ref a), (1, .ref b1), (2, .int x2_59)] [] 59 g59 := by
        intro x2_59 g59  h
        unfold jX6_makeShortAtOnce_59 at h
        refine v_aload_n o 0 dX6_makeShortAtOnce_59 rfl ?_
        refine v_aload_n o 1 dX6_makeShortAtOnce_60 rfl ?_
        refine v_iload_n o 2 dX6_makeShortAtOnce_61 rfl ?_
        refine v_cVi o [.int x2_59] [.ref a] (fun sz => metX6_codeAt l G P g59 sz b1 hb1 x2_59 _ h) (cwX6_35 o.1.2.2.2.2 (by decide)) ⟨_, _, rfl⟩ (by decide) (wfWord_o hb1) rfl (Nat.le_of_ble_eq_true rfl) ⟨Nat.zero_le _, Nat.zero_le _⟩ dX6_makeShortAtOnce_62 rfl (fun r62 g62 h => ?_)
        refine v_cVv o [.int r62] [] (fun sz => metX6_add l G P g62 sz a ha r62 _ h) (cwX6_38 o.1.2.2.2.2 (by decide)) ⟨_, _, rfl⟩ (by decide) (wfWord_o ha) rfl (Nat.le_of_ble_eq_true rfl) ⟨Nat.zero_le _, Nat.zero_le _⟩ dX6_makeShortAtOnce_65 rfl (fun g65 h => ?_)
        refine v_sub [0, 1, 2] (lv2 := [(0, .ref a), (1, .ref b1), (2, .int x2_59)]) rfl ?_
        exact J68 x2_59 g65  h
      unfold bX6_makeShortAtOnce_10 at h
      refine v_iload_n o 2 dX6_makeShortAtOnce_10 rfl ?_
      refine v_aload_n o 1 dX6_makeShortAtOnce_11 rfl ?_
      refine v_gfI o lkX6_24 (by decide) (wfWord_o hb1) dX6_makeShortAtOnce_12 ?_
      refine v_icmp_ge o (tgt := 74) dX6_makeShortAtOnce_15 (by decide) (fun c15 => ?_) (fun c15 => ?_)
      · replace h := h.1 c15
        exact v_vret o rfl hr dX6_makeShortAtOnce_74 h
      · replace h := h.2 c15
        refine v_aload_n o 0 dX6_makeShortAtOnce_18 rfl ?_
        refine v_gfI o lkX6_24 (by decide) (wfWord_o ha) dX6_makeShortAtOnce_19 ?_
        refine v_if_le o (tgt := 59) dX6_makeShortAtOnce_22 (by decide) (fun c22 => ?_) (fun c22 => ?_)
        · replace h := h.1 c22
          refine v_sub [0, 1, 2] (lv2 := [(0, .ref a), (1, .ref b1), (2, .int x2)]) rfl ?_
          exact J59 x2 g  h
        · replace h := h.2 c22
          refine v_aload_n o 0 dX6_makeShortAtOnce_25 rfl ?_
          refine v_aload_n o 0 dX6_makeShortAtOnce_26 rfl ?_
          refine v_gfI o lkX6_24 (by decide) (wfWord_o ha) dX6_makeShortAtOnce_27 ?_
          refine v_iconst o (v := 1) dX6_makeShortAtOnce_30 (by decide) ?_
          refine v_isub o dX6_makeShortAtOnce_31 ?_
          refine v_cVi o [.int ((g a 2) - 1)] [] (fun sz => metX6_codeAt l G P g sz a ha ((g a 2) - 1) _ h) (cwX6_35 o.1.2.2.2.2 (by decide)) ⟨_, _, rfl⟩ (by decide) (wfWord_o ha) rfl (Nat.le_of_ble_eq_true rfl) ⟨Nat.zero_le _, Nat.zero_le _⟩ dX6_makeShortAtOnce_32 rfl (fun r32 g32 h => ?_)
          refine v_aload_n o 1 dX6_makeShortAtOnce_35 rfl ?_
          refine v_iload_n o 2 dX6_makeShortAtOnce_36 rfl ?_
          refine v_cVi o [.int x2] [.int r32] (fun sz => metX6_codeAt l G P g32 sz b1 hb1 x2 _ h) (cwX6_35 o.1.2.2.2.2 (by decide)) ⟨_, _, rfl⟩ (by decide) (wfWord_o hb1) rfl (Nat.le_of_ble_eq_true rfl) ⟨Nat.zero_le _, Nat.zero_le _⟩ dX6_makeShortAtOnce_37 rfl (fun r37 g37 h => ?_)
          refine v_cSi o [.int r37] [.int r32] (fun sz => metX6_flipped l G P g37 sz r37 _ h) (cwX6_59 o.1.2.2.2.2 (by decide)) rfl (Nat.le_of_ble_eq_true rfl) ⟨Nat.zero_le _, Nat.zero_le _⟩ dX6_makeShortAtOnce_40 rfl (fun r40 g40 h => ?_)
          refine v_icmp_ne o (tgt := 59) dX6_makeShortAtOnce_43 (by decide) (fun c43 => ?_) (fun c43 => ?_)
          · replace h := h.1 c43
            refine v_sub [0, 1, 2] (lv2 := [(0, .ref a), (1, .ref b1), (2, .int x2)]) rfl ?_
            exact J59 x2 g40  h
          · replace h := h.2 c43
            refine v_aload_n o 0 dX6_makeShortAtOnce_46 rfl ?_
            refine v_aload_n o 0 dX6_makeShortAtOnce_47 rfl ?_
            refine v_gfI o lkX6_24 (by decide) (wfWord_o ha) dX6_makeShortAtOnce_48 ?_
            refine v_iconst o (v := 1) dX6_makeShortAtOnce_51 (by decide) ?_
            refine v_isub o dX6_makeShortAtOnce_52 ?_
            refine v_cVv o [.int ((g40 a 2) - 1)] [] (fun sz => metX6_removeAt l G P g40 sz a ha ((g40 a 2) - 1) _ h) (cwX6_75 o.1.2.2.2.2 (by decide)) ⟨_, _, rfl⟩ (by decide) (wfWord_o ha) rfl (Nat.le_of_ble_eq_true rfl) ⟨Nat.zero_le _, Nat.zero_le _⟩ dX6_makeShortAtOnce_53 rfl (fun g53 h => ?_)
            refine v_goto o (tgt := 68) dX6_makeShortAtOnce_56 (by decide) ?_
            refine v_sub [0, 1, 2] (lv2 := [(0, .ref a), (1, .ref b1), (2, .int x2)]) rfl ?_
            exact J68 x2 g53  h
  unfold vX6_makeShortAtOnce at h
  refine v_aload_n o 0 dX6_makeShortAtOnce_0 rfl ?_
  refine v_aload_n o 1 dX6_makeShortAtOnce_1 rfl ?_
  refine v_gfI o lkX6_20 (by decide) (wfWord_o hb1) dX6_makeShortAtOnce_2 ?_
  refine v_cVv o [.int (f b1 1)] [] (fun sz => metX6_begin l G P f sz a ha (f b1 1) _ h) (cwX6_56 o.1.2.2.2.2 (by decide)) ⟨_, _, rfl⟩ (by decide) (wfWord_o ha) rfl (Nat.le_of_ble_eq_true rfl) ⟨Nat.zero_le _, Nat.zero_le _⟩ dX6_makeShortAtOnce_5 rfl (fun g5 h => ?_)
  refine v_iconst o (v := 0) dX6_makeShortAtOnce_8 (by decide) ?_
  refine v_istore_n o (lv' := [(2, .int 0), (0, .ref a), (1, .ref b1)]) dX6_makeShortAtOnce_9 rfl (by decide) rfl ?_
  refine v_sub [1, 2, 0] (lv2 := [(0, .ref a), (1, .ref b1), (2, .int 0)]) rfl ?_
  exact (main (μ10 g5 0 + 1)) g5 0  h (Nat.lt_succ_self _)
def kX6_makeShortAtOnce (P : Sk) (f : St) (a : Nat) (b1 : Nat) (K : St → Prop) : Prop := False
theorem metX6_makeShortAtOnce (l : Launch) (G : Gl) (P : Sk) (f : St) (sz : Nat) (a : Nat) (ha : IsWord P a) (b1 : Nat) (hb1 : IsWord P b1) (K : St → Prop) (h : kX6_makeShortAtOnce P f a b1 K) : Met l yX6_makeShortAtOnce (wU yX6_makeShortAtOnce cX6_makeShortAtOnce 3 none) rmX6_makeShortAtOnce (PcW G P f sz [.ref a, .ref b1]) (QcV G P sz K) 0 0 (frA P sz) := sorry

def bX6_firstPair_2 (P : Sk) (a : Nat) (L2 : St → Int32 → Prop) (K : Int32 → St → Prop) (f : St) (x1 : Int32) : Prop :=
  ((f a 2) - 1 ≤ x1 → K (-1) f) ∧ (¬ (f a 2) - 1 ≤ x1 → kX6_codeAt P f a (x1 + 1) (fun r16 g16 => kX6_codeAt P g16 a x1 (fun r21 g21 => kX6_flipped P g21 r21 (fun r24 g24 => (¬ r16 = r24 → ∀ x1_32 : Int32, x1_32 = x1 + 1 → L2 g24 x1_32) ∧ (r16 = r24 → K x1 g24)))))
def vX6_firstPair (P : Sk) (f : St) (a : Nat) (L2 : St → Int32 → Prop) (K : Int32 → St → Prop) : Prop :=
  L2 f 0
set_option maxRecDepth 20000 in
set_option maxHeartbeats 4000000 in
theorem mX6_firstPair (l : Launch) (G : Gl) (P : Sk) (f : St) (sz : Nat) (a : Nat) (ha : IsWord P a) (K : Int32 → St → Prop) (I2 : St → Int32 → Prop) (μ2 : St → Int32 → Nat) 
  (h : vX6_firstPair P f a I2 K)
  (h2 : ∀ (g : St) (x1 : Int32) , I2 g x1 → bX6_firstPair_2 P a (fun g' z0 => I2 g' z0 ∧ μ2 g' z0 < μ2 g x1) K g x1) :
  Met l yX6_firstPair (wU yX6_firstPair cX6_firstPair 2 (some .int)) rmX6_firstPair (PcW G P f sz [.ref a]) (QcI G P sz K) 0 0 (frA P sz) := by
  refine v_met (own := RX6) [.ref a] (by decide +kernel) rfl (Nat.le_of_ble_eq_true rfl) (fun p e s m args below meth c hsz o hr hnm => ?_)
  refine v_lv (lv2 := [(0, .ref a)]) rfl ?_
  have main : ∀ n : Nat, (∀ (g : St) (x1 : Int32) , I2 g x1 → μ2 g x1 < n → V p l e rmX6_firstPair s m args below meth c 2 G (frA P sz) (MQ below (QcI G P sz K) args s 0 0 (frA P sz)) 0 0 P [(0, .ref a), (1, .int x1)] [] 2 g) := by
    intro n
    induction n with
    | zero => exact fun g x1 hI hm => absurd hm (Nat.not_lt_zero _)
    | succ n ih =>
      intro g x1 hI hm
      have h := h2 g x1 hI
      clear hI
      unfold bX6_firstPair_2 at h
      refine v_iload_n o 1 dX6_firstPair_2 rfl ?_
      refine v_aload_n o 0 dX6_firstPair_3 rfl ?_
      refine v_gfI o lkX6_24 (by decide) (wfWord_o ha) dX6_firstPair_4 ?_
      refine v_iconst o (v := 1) dX6_firstPair_7 (by decide) ?_
      refine v_isub o dX6_firstPair_8 ?_
      refine v_icmp_ge o (tgt := 38) dX6_firstPair_9 (by decide) (fun c9 => ?_) (fun c9 => ?_)
      · replace h := h.1 c9
        refine v_iconst o (v := (-1)) dX6_firstPair_38 (by decide) ?_
        exact v_iret o rfl hr dX6_firstPair_39 h
      · replace h := h.2 c9
        refine v_aload_n o 0 dX6_firstPair_12 rfl ?_
        refine v_iload_n o 1 dX6_firstPair_13 rfl ?_
        refine v_iconst o (v := 1) dX6_firstPair_14 (by decide) ?_
        refine v_iadd o dX6_firstPair_15 ?_
        refine v_cVi o [.int (x1 + 1)] [] (fun sz => metX6_codeAt l G P g sz a ha (x1 + 1) _ h) (cwX6_35 o.1.2.2.2.2 (by decide)) ⟨_, _, rfl⟩ (by decide) (wfWord_o ha) rfl (Nat.le_of_ble_eq_true rfl) ⟨Nat.zero_le _, Nat.zero_le _⟩ dX6_firstPair_16 rfl (fun r16 g16 h => ?_)
        refine v_aload_n o 0 dX6_firstPair_19 rfl ?_
        refine v_iload_n o 1 dX6_firstPair_20 rfl ?_
        refine v_cVi o [.int x1] [.int r16] (fun sz => metX6_codeAt l G P g16 sz a ha x1 _ h) (cwX6_35 o.1.2.2.2.2 (by decide)) ⟨_, _, rfl⟩ (by decide) (wfWord_o ha) rfl (Nat.le_of_ble_eq_true rfl) ⟨Nat.zero_le _, Nat.zero_le _⟩ dX6_firstPair_21 rfl (fun r21 g21 h => ?_)
        refine v_cSi o [.int r21] [.int r16] (fun sz => metX6_flipped l G P g21 sz r21 _ h) (cwX6_59 o.1.2.2.2.2 (by decide)) rfl (Nat.le_of_ble_eq_true rfl) ⟨Nat.zero_le _, Nat.zero_le _⟩ dX6_firstPair_24 rfl (fun r24 g24 h => ?_)
        refine v_icmp_ne o (tgt := 32) dX6_firstPair_27 (by decide) (fun c27 => ?_) (fun c27 => ?_)
        · replace h := h.1 c27
          obtain ⟨x1_32, ex1_32⟩ : ∃ y : Int32, y = x1 + 1 := ⟨_, rfl⟩
          replace h := h x1_32 ex1_32
          refine v_iinc o (v := x1_32) (lv' := [(1, .int x1_32), (0, .ref a)]) 1 dX6_firstPair_32 rfl (by rw [ex1_32]; rfl) (by decide) rfl ?_
          refine v_goto o (tgt := 2) dX6_firstPair_35 (by decide) ?_
          refine v_sub [1, 0] (lv2 := [(0, .ref a), (1, .int x1_32)]) rfl ?_
          exact ih g24 x1_32  h.1 (by have := h.2; omega)
        · replace h := h.2 c27
          refine v_iload_n o 1 dX6_firstPair_30 rfl ?_
          exact v_iret o rfl hr dX6_firstPair_31 h
  unfold vX6_firstPair at h
  refine v_iconst o (v := 0) dX6_firstPair_0 (by decide) ?_
  refine v_istore_n o (lv' := [(1, .int 0), (0, .ref a)]) dX6_firstPair_1 rfl (by decide) rfl ?_
  refine v_sub [1, 0] (lv2 := [(0, .ref a), (1, .int 0)]) rfl ?_
  exact (main (μ2 f 0 + 1)) f 0  h (Nat.lt_succ_self _)
def kX6_firstPair (P : Sk) (f : St) (a : Nat) (K : Int32 → St → Prop) : Prop := False
theorem metX6_firstPair (l : Launch) (G : Gl) (P : Sk) (f : St) (sz : Nat) (a : Nat) (ha : IsWord P a) (K : Int32 → St → Prop) (h : kX6_firstPair P f a K) : Met l yX6_firstPair (wU yX6_firstPair cX6_firstPair 2 (some .int)) rmX6_firstPair (PcW G P f sz [.ref a]) (QcI G P sz K) 0 0 (frA P sz) := sorry

def bX6_makeShortByLooking_12 (P : Sk) (a : Nat) (b1 : Nat) (L12 : St → Int32 → Int32 → Prop) (K : St → Prop) (f : St) (x2 : Int32) (x3 : Int32) : Prop :=
  (24 ≤ x3 → K f) ∧ (¬ 24 ≤ x3 → (x2 = (-1) → K f) ∧ (¬ x2 = (-1) → kX6_removeAt P f a (x2 + 1) (fun g27 => kX6_removeAt P g27 a x2 (fun g32 => kX6_firstPair P g32 a (fun r36 g36 => ∀ x3_40 : Int32, x3_40 = x3 + 1 → L12 g36 r36 x3_40)))))
def vX6_makeShortByLooking (P : Sk) (f : St) (a : Nat) (b1 : Nat) (L12 : St → Int32 → Int32 → Prop) (K : St → Prop) : Prop :=
  kX6_copyFrom P f a b1 (fun g2 => kX6_firstPair P g2 a (fun r6 g6 => L12 g6 r6 0))
set_option maxRecDepth 20000 in
set_option maxHeartbeats 4000000 in
theorem mX6_makeShortByLooking (l : Launch) (G : Gl) (P : Sk) (f : St) (sz : Nat) (a : Nat) (ha : IsWord P a) (b1 : Nat) (hb1 : IsWord P b1) (K : St → Prop) (I12 : St → Int32 → Int32 → Prop) (μ12 : St → Int32 → Int32 → Nat) 
  (h : vX6_makeShortByLooking P f a b1 I12 K)
  (h12 : ∀ (g : St) (x2 : Int32) (x3 : Int32) , I12 g x2 x3 → bX6_makeShortByLooking_12 P a b1 (fun g' z0 z1 => I12 g' z0 z1 ∧ μ12 g' z0 z1 < μ12 g x2 x3) K g x2 x3) :
  Met l yX6_makeShortByLooking (wU yX6_makeShortByLooking cX6_makeShortByLooking 4 none) rmX6_makeShortByLooking (PcW G P f sz [.ref a, .ref b1]) (QcV G P sz K) 0 0 (frA P sz) := by
  refine v_met (own := RX6) [.ref a, .ref b1] (by decide +kernel) rfl (Nat.le_of_ble_eq_true rfl) (fun p e s m args below meth c hsz o hr hnm => ?_)
  refine v_lv (lv2 := [(0, .ref a), (1, .ref b1)]) rfl ?_
  have main : ∀ n : Nat, (∀ (g : St) (x2 : Int32) (x3 : Int32) , I12 g x2 x3 → μ12 g x2 x3 < n → V p l e rmX6_makeShortByLooking s m args below meth c 4 G (frA P sz) (MQ below (QcV G P sz K) args s 0 0 (frA P sz)) 0 0 P [(0, .ref a), (1, .ref b1), (2, .int x2), (3, .int x3)] [] 12 g) := by
    intro n
    induction n with
    | zero => exact fun g x2 x3 hI hm => absurd hm (Nat.not_lt_zero _)
    | succ n ih =>
      intro g x2 x3 hI hm
      have h := h12 g x2 x3 hI
      clear hI
      unfold bX6_makeShortByLooking_12 at h
      refine v_iload_n o 3 dX6_makeShortByLooking_12 rfl ?_
      refine v_bipush o (v := 24) dX6_makeShortByLooking_13 (by decide) ?_
      refine v_icmp_ge o (tgt := 46) dX6_makeShortByLooking_15 (by decide) (fun c15 => ?_) (fun c15 => ?_)
      · replace h := h.1 c15
        exact v_vret o rfl hr dX6_makeShortByLooking_46 h
      · replace h := h.2 c15
        refine v_iload_n o 2 dX6_makeShortByLooking_18 rfl ?_
        refine v_iconst o (v := (-1)) dX6_makeShortByLooking_19 (by decide) ?_
        refine v_icmp_eq o (tgt := 46) dX6_makeShortByLooking_20 (by decide) (fun c20 => ?_) (fun c20 => ?_)
        · replace h := h.1 c20
          exact v_vret o rfl hr dX6_makeShortByLooking_46 h
        · replace h := h.2 c20
          refine v_aload_n o 0 dX6_makeShortByLooking_23 rfl ?_
          refine v_iload_n o 2 dX6_makeShortByLooking_24 rfl ?_
          refine v_iconst o (v := 1) dX6_makeShortByLooking_25 (by decide) ?_
          refine v_iadd o dX6_makeShortByLooking_26 ?_
          refine v_cVv o [.int (x2 + 1)] [] (fun sz => metX6_removeAt l G P g sz a ha (x2 + 1) _ h) (cwX6_75 o.1.2.2.2.2 (by decide)) ⟨_, _, rfl⟩ (by decide) (wfWord_o ha) rfl (Nat.le_of_ble_eq_true rfl) ⟨Nat.zero_le _, Nat.zero_le _⟩ dX6_makeShortByLooking_27 rfl (fun g27 h => ?_)
          refine v_aload_n o 0 dX6_makeShortByLooking_30 rfl ?_
          refine v_iload_n o 2 dX6_makeShortByLooking_31 rfl ?_
          refine v_cVv o [.int x2] [] (fun sz => metX6_removeAt l G P g27 sz a ha x2 _ h) (cwX6_75 o.1.2.2.2.2 (by decide)) ⟨_, _, rfl⟩ (by decide) (wfWord_o ha) rfl (Nat.le_of_ble_eq_true rfl) ⟨Nat.zero_le _, Nat.zero_le _⟩ dX6_makeShortByLooking_32 rfl (fun g32 h => ?_)
          refine v_aload_n o 0 dX6_makeShortByLooking_35 rfl ?_
          refine v_cVi o [] [] (fun sz => metX6_firstPair l G P g32 sz a ha _ h) (cwX6_80 o.1.2.2.2.2 (by decide)) ⟨_, _, rfl⟩ (by decide) (wfWord_o ha) rfl (Nat.le_of_ble_eq_true rfl) ⟨Nat.zero_le _, Nat.zero_le _⟩ dX6_makeShortByLooking_36 rfl (fun r36 g36 h => ?_)
          refine v_istore_n o (lv' := [(2, .int r36), (0, .ref a), (1, .ref b1), (3, .int x3)]) dX6_makeShortByLooking_39 rfl (by decide) rfl ?_
          obtain ⟨x3_40, ex3_40⟩ : ∃ y : Int32, y = x3 + 1 := ⟨_, rfl⟩
          replace h := h x3_40 ex3_40
          refine v_iinc o (v := x3_40) (lv' := [(3, .int x3_40), (2, .int r36), (0, .ref a), (1, .ref b1)]) 3 dX6_makeShortByLooking_40 rfl (by rw [ex3_40]; rfl) (by decide) rfl ?_
          refine v_goto o (tgt := 12) dX6_makeShortByLooking_43 (by decide) ?_
          refine v_sub [2, 3, 1, 0] (lv2 := [(0, .ref a), (1, .ref b1), (2, .int r36), (3, .int x3_40)]) rfl ?_
          exact ih g36 r36 x3_40  h.1 (by have := h.2; omega)
  unfold vX6_makeShortByLooking at h
  refine v_aload_n o 0 dX6_makeShortByLooking_0 rfl ?_
  refine v_aload_n o 1 dX6_makeShortByLooking_1 rfl ?_
  refine v_cVv o [.ref b1] [] (fun sz => metX6_copyFrom l G P f sz a ha b1 hb1 _ h) (cwX6_78 o.1.2.2.2.2 (by decide)) ⟨_, _, rfl⟩ (by decide) (wfWord_o ha) rfl (Nat.le_of_ble_eq_true rfl) ⟨Nat.zero_le _, Nat.zero_le _⟩ dX6_makeShortByLooking_2 rfl (fun g2 h => ?_)
  refine v_aload_n o 0 dX6_makeShortByLooking_5 rfl ?_
  refine v_cVi o [] [] (fun sz => metX6_firstPair l G P g2 sz a ha _ h) (cwX6_80 o.1.2.2.2.2 (by decide)) ⟨_, _, rfl⟩ (by decide) (wfWord_o ha) rfl (Nat.le_of_ble_eq_true rfl) ⟨Nat.zero_le _, Nat.zero_le _⟩ dX6_makeShortByLooking_6 rfl (fun r6 g6 h => ?_)
  refine v_istore_n o (lv' := [(2, .int r6), (0, .ref a), (1, .ref b1)]) dX6_makeShortByLooking_9 rfl (by decide) rfl ?_
  refine v_iconst o (v := 0) dX6_makeShortByLooking_10 (by decide) ?_
  refine v_istore_n o (lv' := [(3, .int 0), (2, .int r6), (0, .ref a), (1, .ref b1)]) dX6_makeShortByLooking_11 rfl (by decide) rfl ?_
  refine v_sub [2, 3, 1, 0] (lv2 := [(0, .ref a), (1, .ref b1), (2, .int r6), (3, .int 0)]) rfl ?_
  exact (main (μ12 g6 r6 0 + 1)) g6 r6 0  h (Nat.lt_succ_self _)
def kX6_makeShortByLooking (P : Sk) (f : St) (a : Nat) (b1 : Nat) (K : St → Prop) : Prop := False
theorem metX6_makeShortByLooking (l : Launch) (G : Gl) (P : Sk) (f : St) (sz : Nat) (a : Nat) (ha : IsWord P a) (b1 : Nat) (hb1 : IsWord P b1) (K : St → Prop) (h : kX6_makeShortByLooking P f a b1 K) : Met l yX6_makeShortByLooking (wU yX6_makeShortByLooking cX6_makeShortByLooking 4 none) rmX6_makeShortByLooking (PcW G P f sz [.ref a, .ref b1]) (QcV G P sz K) 0 0 (frA P sz) := sorry

def vX7_clearBuffer (P : Sk) (f : St) (a : Nat) (K : Int32 → St → Prop) : Prop :=
  kX4_size P f (a + 1) (fun r4 g4 => kX4_clear P g4 (a + 1) (fun g12 => K r4 g12))
set_option maxRecDepth 20000 in
set_option maxHeartbeats 4000000 in
theorem mX7_clearBuffer (l : Launch) (G : Gl) (P : Sk) (f : St) (sz : Nat) (a : Nat) (ha : IsComp P a) (K : Int32 → St → Prop) (h : vX7_clearBuffer P f a K)  :
  Met l yX7_clearBuffer (wU yX7_clearBuffer cX7_clearBuffer 2 (some .int)) rmX7_clearBuffer (PcW G P f sz [.ref a]) (QcI G P sz K) 0 0 (frA P sz) := by
  refine v_met (own := RX7) [.ref a] (by decide +kernel) rfl (Nat.le_of_ble_eq_true rfl) (fun p e s m args below meth c hsz o hr hnm => ?_)
  refine v_lv (lv2 := [(0, .ref a)]) rfl ?_
  unfold vX7_clearBuffer at h
  refine v_aload_n o 0 dX7_clearBuffer_0 rfl ?_
  refine v_gfR o lkX7_10 (by decide) (wfComp_o ha) (wfComp_r0 ha) dX7_clearBuffer_1 ?_
  refine v_cVi o [] [] (fun sz => metX4_size l G P f sz (a + 1) (wfComp_t0 ha) _ h) (cwX7_152 o.1.2.2.2.2 (by decide)) ⟨_, _, rfl⟩ (by decide) (wfText_o (wfComp_t0 ha)) rfl (Nat.le_of_ble_eq_true rfl) ⟨Nat.zero_le _, Nat.zero_le _⟩ dX7_clearBuffer_4 rfl (fun r4 g4 h => ?_)
  refine v_istore_n o (lv' := [(1, .int r4), (0, .ref a)]) dX7_clearBuffer_7 rfl (by decide) rfl ?_
  refine v_aload_n o 1 dX7_clearBuffer_8 rfl ?_
  refine v_gfR o lkX7_10 (by decide) (wfComp_o ha) (wfComp_r0 ha) dX7_clearBuffer_9 ?_
  refine v_cVv o [] [] (fun sz => metX4_clear l G P g4 sz (a + 1) (wfComp_t0 ha) _ h) (cwX7_95 o.1.2.2.2.2 (by decide)) ⟨_, _, rfl⟩ (by decide) (wfText_o (wfComp_t0 ha)) rfl (Nat.le_of_ble_eq_true rfl) ⟨Nat.zero_le _, Nat.zero_le _⟩ dX7_clearBuffer_12 rfl (fun g12 h => ?_)
  refine v_iload_n o 0 dX7_clearBuffer_15 rfl ?_
  exact v_iret o rfl hr dX7_clearBuffer_16 h
abbrev kX7_clearBuffer := @vX7_clearBuffer
abbrev metX7_clearBuffer := @mX7_clearBuffer

def vX7_firstError (P : Sk) (f : St) (a : Nat) (p1 : Int32) (K : Int32 → St → Prop) : Prop :=
  (p1 = 0 → kX4_firstErrorOfLoaf P f (a + 1) (fun r18 g18 => K r18 g18)) ∧ (¬ p1 = 0 → kX4_firstErrorOfWorks P f (a + 1) (fun r8 g8 => K r8 g8))
set_option maxRecDepth 20000 in
set_option maxHeartbeats 4000000 in
theorem mX7_firstError (l : Launch) (G : Gl) (P : Sk) (f : St) (sz : Nat) (a : Nat) (ha : IsComp P a) (p1 : Int32) (K : Int32 → St → Prop) (h : vX7_firstError P f a p1 K)  :
  Met l yX7_firstError (wU yX7_firstError cX7_firstError 2 (some .int)) rmX7_firstError (PcW G P f sz [.ref a, .int p1]) (QcI G P sz K) 0 0 (frA P sz) := by
  refine v_met (own := RX7) [.ref a, .int p1] (by decide +kernel) rfl (Nat.le_of_ble_eq_true rfl) (fun p e s m args below meth c hsz o hr hnm => ?_)
  refine v_lv (lv2 := [(0, .ref a), (1, .int p1)]) rfl ?_
  unfold vX7_firstError at h
  refine v_iload_n o 1 dX7_firstError_0 rfl ?_
  refine v_if_eq o (tgt := 14) dX7_firstError_1 (by decide) (fun c1 => ?_) (fun c1 => ?_)
  · replace h := h.1 c1
    refine v_aload_n o 0 dX7_firstError_14 rfl ?_
    refine v_gfR o lkX7_10 (by decide) (wfComp_o ha) (wfComp_r0 ha) dX7_firstError_15 ?_
    refine v_cVi o [] [] (fun sz => metX4_firstErrorOfLoaf l G P f sz (a + 1) (wfComp_t0 ha) _ h) (cwX7_161 o.1.2.2.2.2 (by decide)) ⟨_, _, rfl⟩ (by decide) (wfText_o (wfComp_t0 ha)) rfl (Nat.le_of_ble_eq_true rfl) ⟨Nat.zero_le _, Nat.zero_le _⟩ dX7_firstError_18 rfl (fun r18 g18 h => ?_)
    exact v_iret o rfl hr dX7_firstError_21 h
  · replace h := h.2 c1
    refine v_aload_n o 0 dX7_firstError_4 rfl ?_
    refine v_gfR o lkX7_10 (by decide) (wfComp_o ha) (wfComp_r0 ha) dX7_firstError_5 ?_
    refine v_cVi o [] [] (fun sz => metX4_firstErrorOfWorks l G P f sz (a + 1) (wfComp_t0 ha) _ h) (cwX7_158 o.1.2.2.2.2 (by decide)) ⟨_, _, rfl⟩ (by decide) (wfText_o (wfComp_t0 ha)) rfl (Nat.le_of_ble_eq_true rfl) ⟨Nat.zero_le _, Nat.zero_le _⟩ dX7_firstError_8 rfl (fun r8 g8 h => ?_)
    refine v_goto o (tgt := 21) dX7_firstError_11 (by decide) ?_
    exact v_iret o rfl hr dX7_firstError_21 h
abbrev kX7_firstError := @vX7_firstError
abbrev metX7_firstError := @mX7_firstError

def vX7_keep (P : Sk) (f : St) (a : Nat) (K : Int32 → St → Prop) : Prop :=
  kX0_copyFrom P f (a + 1254) (a + 4) (fun g8 => ∀ g13 : St, g13 = setf g8 a 4 1 → kX0_size P g13 (a + 4) (fun r20 g20 => K r20 g20))
set_option maxRecDepth 20000 in
set_option maxHeartbeats 4000000 in
theorem mX7_keep (l : Launch) (G : Gl) (P : Sk) (f : St) (sz : Nat) (a : Nat) (ha : IsComp P a) (K : Int32 → St → Prop) (h : vX7_keep P f a K)  :
  Met l yX7_keep (wU yX7_keep cX7_keep 1 (some .int)) rmX7_keep (PcW G P f sz [.ref a]) (QcI G P sz K) 0 0 (frA P sz) := by
  refine v_met (own := RX7) [.ref a] (by decide +kernel) rfl (Nat.le_of_ble_eq_true rfl) (fun p e s m args below meth c hsz o hr hnm => ?_)
  refine v_lv (lv2 := [(0, .ref a)]) rfl ?_
  unfold vX7_keep at h
  refine v_aload_n o 0 dX7_keep_0 rfl ?_
  refine v_gfR o lkX7_30 (by decide) (wfComp_o ha) (wfComp_r3 ha) dX7_keep_1 ?_
  refine v_aload_n o 0 dX7_keep_4 rfl ?_
  refine v_gfR o lkX7_19 (by decide) (wfComp_o ha) (wfComp_r1 ha) dX7_keep_5 ?_
  refine v_cVv o [.ref (a + 4)] [] (fun sz => metX0_copyFrom l G P f sz (a + 1254) (wfComp_t3 ha) (a + 4) (wfComp_t1 ha) _ h) (cwX7_193 o.1.2.2.2.2 (by decide)) ⟨_, _, rfl⟩ (by decide) (wfBoard_o (wfComp_t3 ha)) rfl (Nat.le_of_ble_eq_true rfl) ⟨Nat.zero_le _, Nat.zero_le _⟩ dX7_keep_8 rfl (fun g8 h => ?_)
  refine v_aload_n o 0 dX7_keep_11 rfl ?_
  refine v_iconst o (v := 1) dX7_keep_12 (by decide) ?_
  refine v_pf o lpX7_33 (wfComp_o ha) bz1 dX7_keep_13 ?_
  refine v_nmf (fun g13 eg13 => ?_)
  replace h := h g13 eg13
  refine v_aload_n o 0 dX7_keep_16 rfl ?_
  refine v_gfR o lkX7_19 (by decide) (wfComp_o ha) (wfComp_r1 ha) dX7_keep_17 ?_
  refine v_cVi o [] [] (fun sz => metX0_size l G P g13 sz (a + 4) (wfComp_t1 ha) _ h) (cwX7_65 o.1.2.2.2.2 (by decide)) ⟨_, _, rfl⟩ (by decide) (wfBoard_o (wfComp_t1 ha)) rfl (Nat.le_of_ble_eq_true rfl) ⟨Nat.zero_le _, Nat.zero_le _⟩ dX7_keep_20 rfl (fun r20 g20 h => ?_)
  exact v_iret o rfl hr dX7_keep_23 h
abbrev kX7_keep := @vX7_keep
abbrev metX7_keep := @mX7_keep

def bX7_crossingsOfAll_4 (P : Sk) (a : Nat) (L4 : St → Int32 → Int32 → Prop) (K : Int32 → St → Prop) (f : St) (x1 : Int32) (x2 : Int32) : Prop :=
  kX0_size P f (a + 4) (fun r9 g9 => (r9 ≤ x2 → K x1 g9) ∧ (¬ r9 ≤ x2 → kX6_size P g9 ((atB (a + 4) x2) + 1) (fun r27 g27 => ∀ x1_31 : Int32, x1_31 = x1 + r27 → ∀ x2_32 : Int32, x2_32 = x2 + 1 → L4 g27 x1_31 x2_32)))
def vX7_crossingsOfAll (P : Sk) (f : St) (a : Nat) (L4 : St → Int32 → Int32 → Prop) (K : Int32 → St → Prop) : Prop :=
  L4 f 0 0
set_option maxRecDepth 20000 in
set_option maxHeartbeats 4000000 in
theorem mX7_crossingsOfAll (l : Launch) (G : Gl) (P : Sk) (f : St) (sz : Nat) (a : Nat) (ha : IsComp P a) (K : Int32 → St → Prop) (I4 : St → Int32 → Int32 → Prop) (μ4 : St → Int32 → Int32 → Nat) 
  (h : vX7_crossingsOfAll P f a I4 K)
  (h4 : ∀ (g : St) (x1 : Int32) (x2 : Int32) , I4 g x1 x2 → bX7_crossingsOfAll_4 P a (fun g' z0 z1 => I4 g' z0 z1 ∧ μ4 g' z0 z1 < μ4 g x1 x2) K g x1 x2) :
  Met l yX7_crossingsOfAll (wU yX7_crossingsOfAll cX7_crossingsOfAll 3 (some .int)) rmX7_crossingsOfAll (PcW G P f sz [.ref a]) (QcI G P sz K) 0 0 (frA P sz) := by
  refine v_met (own := RX7) [.ref a] (by decide +kernel) rfl (Nat.le_of_ble_eq_true rfl) (fun p e s m args below meth c hsz o hr hnm => ?_)
  refine v_lv (lv2 := [(0, .ref a)]) rfl ?_
  have main : ∀ n : Nat, (∀ (g : St) (x1 : Int32) (x2 : Int32) , I4 g x1 x2 → μ4 g x1 x2 < n → V p l e rmX7_crossingsOfAll s m args below meth c 3 G (frA P sz) (MQ below (QcI G P sz K) args s 0 0 (frA P sz)) 0 0 P [(0, .ref a), (1, .int x1), (2, .int x2)] [] 4 g) := by
    intro n
    induction n with
    | zero => exact fun g x1 x2 hI hm => absurd hm (Nat.not_lt_zero _)
    | succ n ih =>
      intro g x1 x2 hI hm
      have h := h4 g x1 x2 hI
      clear hI
      unfold bX7_crossingsOfAll_4 at h
      refine v_iload_n o 2 dX7_crossingsOfAll_4 rfl ?_
      refine v_aload_n o 0 dX7_crossingsOfAll_5 rfl ?_
      refine v_gfR o lkX7_19 (by decide) (wfComp_o ha) (wfComp_r1 ha) dX7_crossingsOfAll_6 ?_
      refine v_cVi o [] [.int x2] (fun sz => metX0_size l G P g sz (a + 4) (wfComp_t1 ha) _ h) (cwX7_65 o.1.2.2.2.2 (by decide)) ⟨_, _, rfl⟩ (by decide) (wfBoard_o (wfComp_t1 ha)) rfl (Nat.le_of_ble_eq_true rfl) ⟨Nat.zero_le _, Nat.zero_le _⟩ dX7_crossingsOfAll_9 rfl (fun r9 g9 h => ?_)
      refine v_icmp_ge o (tgt := 38) dX7_crossingsOfAll_12 (by decide) (fun c12 => ?_) (fun c12 => ?_)
      · replace h := h.1 c12
        refine v_iload_n o 1 dX7_crossingsOfAll_38 rfl ?_
        exact v_iret o rfl hr dX7_crossingsOfAll_39 h
      · replace h := h.2 c12
        refine v_iload_n o 1 dX7_crossingsOfAll_15 rfl ?_
        refine v_aload_n o 0 dX7_crossingsOfAll_16 rfl ?_
        refine v_gfR o lkX7_19 (by decide) (wfComp_o ha) (wfComp_r1 ha) dX7_crossingsOfAll_17 ?_
        refine v_iload_n o 2 dX7_crossingsOfAll_20 rfl ?_
        refine v_cVr o [.int x2] [.int x1] (fun sz => metX0_at l G P g9 sz (a + 4) (wfComp_t1 ha) x2) (cwX7_102 o.1.2.2.2.2 (by decide)) ⟨_, _, rfl⟩ (by decide) (wfBoard_o (wfComp_t1 ha)) rfl (Nat.le_of_ble_eq_true rfl) ⟨Nat.zero_le _, Nat.zero_le _⟩ dX7_crossingsOfAll_21 rfl (fun r21 g21 h21 => ?_)
        obtain ⟨rfl, rfl⟩ := h21
        refine v_cVr o [] [.int x1] (fun sz => metX2_word l G P g9 sz (atB (a + 4) x2) (is_atB (wfComp_t1 ha) x2)) (cwX7_74 o.1.2.2.2.2 (by decide)) ⟨_, _, rfl⟩ (by decide) (wfLoaf_o (is_atB (wfComp_t1 ha) x2)) rfl (Nat.le_of_ble_eq_true rfl) ⟨Nat.zero_le _, Nat.zero_le _⟩ dX7_crossingsOfAll_24 rfl (fun r24 g24 h24 => ?_)
        obtain ⟨rfl, rfl⟩ := h24
        refine v_cVi o [] [.int x1] (fun sz => metX6_size l G P g9 sz ((atB (a + 4) x2) + 1) (wfLoaf_t0 (is_atB (wfComp_t1 ha) x2)) _ h) (cwX7_106 o.1.2.2.2.2 (by decide)) ⟨_, _, rfl⟩ (by decide) (wfWord_o (wfLoaf_t0 (is_atB (wfComp_t1 ha) x2))) rfl (Nat.le_of_ble_eq_true rfl) ⟨Nat.zero_le _, Nat.zero_le _⟩ dX7_crossingsOfAll_27 rfl (fun r27 g27 h => ?_)
        refine v_iadd o dX7_crossingsOfAll_30 ?_
        refine v_topi (fun x1_31 ex1_31 => ?_)
        replace h := h x1_31 ex1_31
        refine v_istore_n o (lv' := [(1, .int x1_31), (0, .ref a), (2, .int x2)]) dX7_crossingsOfAll_31 rfl (by decide) rfl ?_
        obtain ⟨x2_32, ex2_32⟩ : ∃ y : Int32, y = x2 + 1 := ⟨_, rfl⟩
        replace h := h x2_32 ex2_32
        refine v_iinc o (v := x2_32) (lv' := [(2, .int x2_32), (1, .int x1_31), (0, .ref a)]) 2 dX7_crossingsOfAll_32 rfl (by rw [ex2_32]; rfl) (by decide) rfl ?_
        refine v_goto o (tgt := 4) dX7_crossingsOfAll_35 (by decide) ?_
        refine v_sub [2, 1, 0] (lv2 := [(0, .ref a), (1, .int x1_31), (2, .int x2_32)]) rfl ?_
        exact ih g27 x1_31 x2_32  h.1 (by have := h.2; omega)
  unfold vX7_crossingsOfAll at h
  refine v_iconst o (v := 0) dX7_crossingsOfAll_0 (by decide) ?_
  refine v_istore_n o (lv' := [(1, .int 0), (0, .ref a)]) dX7_crossingsOfAll_1 rfl (by decide) rfl ?_
  refine v_iconst o (v := 0) dX7_crossingsOfAll_2 (by decide) ?_
  refine v_istore_n o (lv' := [(2, .int 0), (1, .int 0), (0, .ref a)]) dX7_crossingsOfAll_3 rfl (by decide) rfl ?_
  refine v_sub [2, 1, 0] (lv2 := [(0, .ref a), (1, .int 0), (2, .int 0)]) rfl ?_
  exact (main (μ4 f 0 0 + 1)) f 0 0  h (Nat.lt_succ_self _)
def kX7_crossingsOfAll (P : Sk) (f : St) (a : Nat) (K : Int32 → St → Prop) : Prop := False
theorem metX7_crossingsOfAll (l : Launch) (G : Gl) (P : Sk) (f : St) (sz : Nat) (a : Nat) (ha : IsComp P a) (K : Int32 → St → Prop) (h : kX7_crossingsOfAll P f a K) : Met l yX7_crossingsOfAll (wU yX7_crossingsOfAll cX7_crossingsOfAll 3 (some .int)) rmX7_crossingsOfAll (PcW G P f sz [.ref a]) (QcI G P sz K) 0 0 (frA P sz) := sorry

def bX7_looseShare_4 (P : Sk) (a : Nat) (L4 : St → Int32 → Int32 → Prop) (K : UInt64 → St → Prop) (f : St) (x1 : Int32) (x2 : Int32) : Prop :=
  kX0_size P f (a + 4) (fun r9 g9 => (r9 ≤ x2 → kX7_crossingsOfAll P g9 a (fun r39 g39 => (¬ r39 = 0 → vf_n64 (FP.ddiv (FP.i2d x1) (FP.i2d r39)) ∧ (K (FP.ddiv (FP.i2d x1) (FP.i2d r39)) g39)) ∧ (r39 = 0 → K (FP.dconst1) g39))) ∧ (¬ r9 ≤ x2 → kX6_size P g9 ((atB (a + 4) x2) + 4) (fun r27 g27 => ∀ x1_31 : Int32, x1_31 = x1 + r27 → ∀ x2_32 : Int32, x2_32 = x2 + 1 → L4 g27 x1_31 x2_32)))
def vX7_looseShare (P : Sk) (f : St) (a : Nat) (L4 : St → Int32 → Int32 → Prop) (K : UInt64 → St → Prop) : Prop :=
  L4 f 0 0
set_option maxRecDepth 20000 in
set_option maxHeartbeats 4000000 in
theorem mX7_looseShare (l : Launch) (G : Gl) (P : Sk) (f : St) (sz : Nat) (a : Nat) (ha : IsComp P a) (K : UInt64 → St → Prop) (I4 : St → Int32 → Int32 → Prop) (μ4 : St → Int32 → Int32 → Nat) 
  (h : vX7_looseShare P f a I4 K)
  (h4 : ∀ (g : St) (x1 : Int32) (x2 : Int32) , I4 g x1 x2 → bX7_looseShare_4 P a (fun g' z0 z1 => I4 g' z0 z1 ∧ μ4 g' z0 z1 < μ4 g x1 x2) K g x1 x2) :
  Met l yX7_looseShare (wU yX7_looseShare cX7_looseShare 3 (some .double)) rmX7_looseShare (PcW G P f sz [.ref a]) (QcD G P sz K) 0 0 (frA P sz) := by
  refine v_met (own := RX7) [.ref a] (by decide +kernel) rfl (Nat.le_of_ble_eq_true rfl) (fun p e s m args below meth c hsz o hr hnm => ?_)
  refine v_lv (lv2 := [(0, .ref a)]) rfl ?_
  have main : ∀ n : Nat, (∀ (g : St) (x1 : Int32) (x2 : Int32) , I4 g x1 x2 → μ4 g x1 x2 < n → V p l e rmX7_looseShare s m args below meth c 3 G (frA P sz) (MQ below (QcD G P sz K) args s 0 0 (frA P sz)) 0 0 P [(0, .ref a), (1, .int x1), (2, .int x2)] [] 4 g) := by
    intro n
    induction n with
    | zero => exact fun g x1 x2 hI hm => absurd hm (Nat.not_lt_zero _)
    | succ n ih =>
      intro g x1 x2 hI hm
      have h := h4 g x1 x2 hI
      clear hI
      unfold bX7_looseShare_4 at h
      refine v_iload_n o 2 dX7_looseShare_4 rfl ?_
      refine v_aload_n o 0 dX7_looseShare_5 rfl ?_
      refine v_gfR o lkX7_19 (by decide) (wfComp_o ha) (wfComp_r1 ha) dX7_looseShare_6 ?_
      refine v_cVi o [] [.int x2] (fun sz => metX0_size l G P g sz (a + 4) (wfComp_t1 ha) _ h) (cwX7_65 o.1.2.2.2.2 (by decide)) ⟨_, _, rfl⟩ (by decide) (wfBoard_o (wfComp_t1 ha)) rfl (Nat.le_of_ble_eq_true rfl) ⟨Nat.zero_le _, Nat.zero_le _⟩ dX7_looseShare_9 rfl (fun r9 g9 h => ?_)
      refine v_icmp_ge o (tgt := 38) dX7_looseShare_12 (by decide) (fun c12 => ?_) (fun c12 => ?_)
      · replace h := h.1 c12
        refine v_aload_n o 0 dX7_looseShare_38 rfl ?_
        refine v_cVi o [] [] (fun sz => metX7_crossingsOfAll l G P g9 sz a ha _ h) (cwX7_224 o.1.2.2.2.2 (by decide)) ⟨_, _, rfl⟩ (by decide) (wfComp_o ha) rfl (Nat.le_of_ble_eq_true rfl) ⟨Nat.zero_le _, Nat.zero_le _⟩ dX7_looseShare_39 rfl (fun r39 g39 h => ?_)
        refine v_istore_n o (lv' := [(2, .int r39), (0, .ref a), (1, .int x1)]) dX7_looseShare_42 rfl (by decide) rfl ?_
        refine v_iload_n o 0 dX7_looseShare_43 rfl ?_
        refine v_if_ne o (tgt := 51) dX7_looseShare_44 (by decide) (fun c44 => ?_) (fun c44 => ?_)
        · replace h := h.1 c44
          refine v_iload_n o 2 dX7_looseShare_51 rfl ?_
          refine v_i2d o dX7_looseShare_52 ?_
          refine v_iload_n o 0 dX7_looseShare_53 rfl ?_
          refine v_i2d o dX7_looseShare_54 ?_
          refine v_ddiv o dX7_looseShare_55 h.1 ?_
          replace h := h.2
          exact v_dret o rfl hr dX7_looseShare_56 h
        · replace h := h.2 c44
          refine v_dconst1 o dX7_looseShare_47 ?_
          refine v_goto o (tgt := 56) dX7_looseShare_48 (by decide) ?_
          exact v_dret o rfl hr dX7_looseShare_56 h
      · replace h := h.2 c12
        refine v_iload_n o 1 dX7_looseShare_15 rfl ?_
        refine v_aload_n o 0 dX7_looseShare_16 rfl ?_
        refine v_gfR o lkX7_19 (by decide) (wfComp_o ha) (wfComp_r1 ha) dX7_looseShare_17 ?_
        refine v_iload_n o 2 dX7_looseShare_20 rfl ?_
        refine v_cVr o [.int x2] [.int x1] (fun sz => metX0_at l G P g9 sz (a + 4) (wfComp_t1 ha) x2) (cwX7_102 o.1.2.2.2.2 (by decide)) ⟨_, _, rfl⟩ (by decide) (wfBoard_o (wfComp_t1 ha)) rfl (Nat.le_of_ble_eq_true rfl) ⟨Nat.zero_le _, Nat.zero_le _⟩ dX7_looseShare_21 rfl (fun r21 g21 h21 => ?_)
        obtain ⟨rfl, rfl⟩ := h21
        refine v_cVr o [] [.int x1] (fun sz => metX2_looseWord l G P g9 sz (atB (a + 4) x2) (is_atB (wfComp_t1 ha) x2)) (cwX7_206 o.1.2.2.2.2 (by decide)) ⟨_, _, rfl⟩ (by decide) (wfLoaf_o (is_atB (wfComp_t1 ha) x2)) rfl (Nat.le_of_ble_eq_true rfl) ⟨Nat.zero_le _, Nat.zero_le _⟩ dX7_looseShare_24 rfl (fun r24 g24 h24 => ?_)
        obtain ⟨rfl, rfl⟩ := h24
        refine v_cVi o [] [.int x1] (fun sz => metX6_size l G P g9 sz ((atB (a + 4) x2) + 4) (wfLoaf_t1 (is_atB (wfComp_t1 ha) x2)) _ h) (cwX7_106 o.1.2.2.2.2 (by decide)) ⟨_, _, rfl⟩ (by decide) (wfWord_o (wfLoaf_t1 (is_atB (wfComp_t1 ha) x2))) rfl (Nat.le_of_ble_eq_true rfl) ⟨Nat.zero_le _, Nat.zero_le _⟩ dX7_looseShare_27 rfl (fun r27 g27 h => ?_)
        refine v_iadd o dX7_looseShare_30 ?_
        refine v_topi (fun x1_31 ex1_31 => ?_)
        replace h := h x1_31 ex1_31
        refine v_istore_n o (lv' := [(1, .int x1_31), (0, .ref a), (2, .int x2)]) dX7_looseShare_31 rfl (by decide) rfl ?_
        obtain ⟨x2_32, ex2_32⟩ : ∃ y : Int32, y = x2 + 1 := ⟨_, rfl⟩
        replace h := h x2_32 ex2_32
        refine v_iinc o (v := x2_32) (lv' := [(2, .int x2_32), (1, .int x1_31), (0, .ref a)]) 2 dX7_looseShare_32 rfl (by rw [ex2_32]; rfl) (by decide) rfl ?_
        refine v_goto o (tgt := 4) dX7_looseShare_35 (by decide) ?_
        refine v_sub [2, 1, 0] (lv2 := [(0, .ref a), (1, .int x1_31), (2, .int x2_32)]) rfl ?_
        exact ih g27 x1_31 x2_32  h.1 (by have := h.2; omega)
  unfold vX7_looseShare at h
  refine v_iconst o (v := 0) dX7_looseShare_0 (by decide) ?_
  refine v_istore_n o (lv' := [(1, .int 0), (0, .ref a)]) dX7_looseShare_1 rfl (by decide) rfl ?_
  refine v_iconst o (v := 0) dX7_looseShare_2 (by decide) ?_
  refine v_istore_n o (lv' := [(2, .int 0), (1, .int 0), (0, .ref a)]) dX7_looseShare_3 rfl (by decide) rfl ?_
  refine v_sub [2, 1, 0] (lv2 := [(0, .ref a), (1, .int 0), (2, .int 0)]) rfl ?_
  exact (main (μ4 f 0 0 + 1)) f 0 0  h (Nat.lt_succ_self _)
def kX7_looseShare (P : Sk) (f : St) (a : Nat) (K : UInt64 → St → Prop) : Prop := False
theorem metX7_looseShare (l : Launch) (G : Gl) (P : Sk) (f : St) (sz : Nat) (a : Nat) (ha : IsComp P a) (K : UInt64 → St → Prop) (h : kX7_looseShare P f a K) : Met l yX7_looseShare (wU yX7_looseShare cX7_looseShare 3 (some .double)) rmX7_looseShare (PcW G P f sz [.ref a]) (QcD G P sz K) 0 0 (frA P sz) := sorry

def bX7_doughUsedByStrands_4 (P : Sk) (a : Nat) (L4 : St → Int32 → Int32 → Prop) (K : Int32 → St → Prop) (f : St) (x1 : Int32) (x2 : Int32) : Prop :=
  kX0_size P f (a + 4) (fun r9 g9 => (r9 ≤ x2 → K x1 g9) ∧ (¬ r9 ≤ x2 → kX5_doughUsedByAll P g9 ((atB (a + 4) x2) + 7) (fun r27 g27 => ∀ x1_31 : Int32, x1_31 = x1 + r27 → ∀ x2_32 : Int32, x2_32 = x2 + 1 → L4 g27 x1_31 x2_32)))
def vX7_doughUsedByStrands (P : Sk) (f : St) (a : Nat) (L4 : St → Int32 → Int32 → Prop) (K : Int32 → St → Prop) : Prop :=
  L4 f 0 0
set_option maxRecDepth 20000 in
set_option maxHeartbeats 4000000 in
theorem mX7_doughUsedByStrands (l : Launch) (G : Gl) (P : Sk) (f : St) (sz : Nat) (a : Nat) (ha : IsComp P a) (K : Int32 → St → Prop) (I4 : St → Int32 → Int32 → Prop) (μ4 : St → Int32 → Int32 → Nat) 
  (h : vX7_doughUsedByStrands P f a I4 K)
  (h4 : ∀ (g : St) (x1 : Int32) (x2 : Int32) , I4 g x1 x2 → bX7_doughUsedByStrands_4 P a (fun g' z0 z1 => I4 g' z0 z1 ∧ μ4 g' z0 z1 < μ4 g x1 x2) K g x1 x2) :
  Met l yX7_doughUsedByStrands (wU yX7_doughUsedByStrands cX7_doughUsedByStrands 3 (some .int)) rmX7_doughUsedByStrands (PcW G P f sz [.ref a]) (QcI G P sz K) 0 0 (frA P sz) := by
  refine v_met (own := RX7) [.ref a] (by decide +kernel) rfl (Nat.le_of_ble_eq_true rfl) (fun p e s m args below meth c hsz o hr hnm => ?_)
  refine v_lv (lv2 := [(0, .ref a)]) rfl ?_
  have main : ∀ n : Nat, (∀ (g : St) (x1 : Int32) (x2 : Int32) , I4 g x1 x2 → μ4 g x1 x2 < n → V p l e rmX7_doughUsedByStrands s m args below meth c 3 G (frA P sz) (MQ below (QcI G P sz K) args s 0 0 (frA P sz)) 0 0 P [(0, .ref a), (1, .int x1), (2, .int x2)] [] 4 g) := by
    intro n
    induction n with
    | zero => exact fun g x1 x2 hI hm => absurd hm (Nat.not_lt_zero _)
    | succ n ih =>
      intro g x1 x2 hI hm
      have h := h4 g x1 x2 hI
      clear hI
      unfold bX7_doughUsedByStrands_4 at h
      refine v_iload_n o 2 dX7_doughUsedByStrands_4 rfl ?_
      refine v_aload_n o 0 dX7_doughUsedByStrands_5 rfl ?_
      refine v_gfR o lkX7_19 (by decide) (wfComp_o ha) (wfComp_r1 ha) dX7_doughUsedByStrands_6 ?_
      refine v_cVi o [] [.int x2] (fun sz => metX0_size l G P g sz (a + 4) (wfComp_t1 ha) _ h) (cwX7_65 o.1.2.2.2.2 (by decide)) ⟨_, _, rfl⟩ (by decide) (wfBoard_o (wfComp_t1 ha)) rfl (Nat.le_of_ble_eq_true rfl) ⟨Nat.zero_le _, Nat.zero_le _⟩ dX7_doughUsedByStrands_9 rfl (fun r9 g9 h => ?_)
      refine v_icmp_ge o (tgt := 38) dX7_doughUsedByStrands_12 (by decide) (fun c12 => ?_) (fun c12 => ?_)
      · replace h := h.1 c12
        refine v_iload_n o 1 dX7_doughUsedByStrands_38 rfl ?_
        exact v_iret o rfl hr dX7_doughUsedByStrands_39 h
      · replace h := h.2 c12
        refine v_iload_n o 1 dX7_doughUsedByStrands_15 rfl ?_
        refine v_aload_n o 0 dX7_doughUsedByStrands_16 rfl ?_
        refine v_gfR o lkX7_19 (by decide) (wfComp_o ha) (wfComp_r1 ha) dX7_doughUsedByStrands_17 ?_
        refine v_iload_n o 2 dX7_doughUsedByStrands_20 rfl ?_
        refine v_cVr o [.int x2] [.int x1] (fun sz => metX0_at l G P g9 sz (a + 4) (wfComp_t1 ha) x2) (cwX7_102 o.1.2.2.2.2 (by decide)) ⟨_, _, rfl⟩ (by decide) (wfBoard_o (wfComp_t1 ha)) rfl (Nat.le_of_ble_eq_true rfl) ⟨Nat.zero_le _, Nat.zero_le _⟩ dX7_doughUsedByStrands_21 rfl (fun r21 g21 h21 => ?_)
        obtain ⟨rfl, rfl⟩ := h21
        refine v_cVr o [] [.int x1] (fun sz => metX2_trace l G P g9 sz (atB (a + 4) x2) (is_atB (wfComp_t1 ha) x2)) (cwX7_124 o.1.2.2.2.2 (by decide)) ⟨_, _, rfl⟩ (by decide) (wfLoaf_o (is_atB (wfComp_t1 ha) x2)) rfl (Nat.le_of_ble_eq_true rfl) ⟨Nat.zero_le _, Nat.zero_le _⟩ dX7_doughUsedByStrands_24 rfl (fun r24 g24 h24 => ?_)
        obtain ⟨rfl, rfl⟩ := h24
        refine v_cVi o [] [.int x1] (fun sz => metX5_doughUsedByAll l G P g9 sz ((atB (a + 4) x2) + 7) (wfLoaf_t2 (is_atB (wfComp_t1 ha) x2)) _ h) (cwX7_328 o.1.2.2.2.2 (by decide)) ⟨_, _, rfl⟩ (by decide) (wfTrace_o (wfLoaf_t2 (is_atB (wfComp_t1 ha) x2))) rfl (Nat.le_of_ble_eq_true rfl) ⟨Nat.zero_le _, Nat.zero_le _⟩ dX7_doughUsedByStrands_27 rfl (fun r27 g27 h => ?_)
        refine v_iadd o dX7_doughUsedByStrands_30 ?_
        refine v_topi (fun x1_31 ex1_31 => ?_)
        replace h := h x1_31 ex1_31
        refine v_istore_n o (lv' := [(1, .int x1_31), (0, .ref a), (2, .int x2)]) dX7_doughUsedByStrands_31 rfl (by decide) rfl ?_
        obtain ⟨x2_32, ex2_32⟩ : ∃ y : Int32, y = x2 + 1 := ⟨_, rfl⟩
        replace h := h x2_32 ex2_32
        refine v_iinc o (v := x2_32) (lv' := [(2, .int x2_32), (1, .int x1_31), (0, .ref a)]) 2 dX7_doughUsedByStrands_32 rfl (by rw [ex2_32]; rfl) (by decide) rfl ?_
        refine v_goto o (tgt := 4) dX7_doughUsedByStrands_35 (by decide) ?_
        refine v_sub [2, 1, 0] (lv2 := [(0, .ref a), (1, .int x1_31), (2, .int x2_32)]) rfl ?_
        exact ih g27 x1_31 x2_32  h.1 (by have := h.2; omega)
  unfold vX7_doughUsedByStrands at h
  refine v_iconst o (v := 0) dX7_doughUsedByStrands_0 (by decide) ?_
  refine v_istore_n o (lv' := [(1, .int 0), (0, .ref a)]) dX7_doughUsedByStrands_1 rfl (by decide) rfl ?_
  refine v_iconst o (v := 0) dX7_doughUsedByStrands_2 (by decide) ?_
  refine v_istore_n o (lv' := [(2, .int 0), (1, .int 0), (0, .ref a)]) dX7_doughUsedByStrands_3 rfl (by decide) rfl ?_
  refine v_sub [2, 1, 0] (lv2 := [(0, .ref a), (1, .int 0), (2, .int 0)]) rfl ?_
  exact (main (μ4 f 0 0 + 1)) f 0 0  h (Nat.lt_succ_self _)
def kX7_doughUsedByStrands (P : Sk) (f : St) (a : Nat) (K : Int32 → St → Prop) : Prop := False
theorem metX7_doughUsedByStrands (l : Launch) (G : Gl) (P : Sk) (f : St) (sz : Nat) (a : Nat) (ha : IsComp P a) (K : Int32 → St → Prop) (h : kX7_doughUsedByStrands P f a K) : Met l yX7_doughUsedByStrands (wU yX7_doughUsedByStrands cX7_doughUsedByStrands 3 (some .int)) rmX7_doughUsedByStrands (PcW G P f sz [.ref a]) (QcI G P sz K) 0 0 (frA P sz) := sorry

def bX7_firstAlike_14 (P : Sk) (a : Nat) (p1 : Int32) (L14 : St → Nat → Int32 → Prop) (K : Int32 → St → Prop) (f : St) (x2 : Nat) (x3 : Int32) : Prop :=
  (p1 ≤ x3 → K p1 f) ∧ (¬ p1 ≤ x3 → kX6_isSame P f ((atB (a + 4) x3) + 4) x2 (fun r31 g31 => (r31 = 0 → ∀ x3_39 : Int32, x3_39 = x3 + 1 → L14 g31 x2 x3_39) ∧ (¬ r31 = 0 → K x3 g31)))
def vX7_firstAlike (P : Sk) (f : St) (a : Nat) (p1 : Int32) (L14 : St → Nat → Int32 → Prop) (K : Int32 → St → Prop) : Prop :=
  L14 f ((atB (a + 4) p1) + 4) 0
set_option maxRecDepth 20000 in
set_option maxHeartbeats 4000000 in
theorem mX7_firstAlike (l : Launch) (G : Gl) (P : Sk) (f : St) (sz : Nat) (a : Nat) (ha : IsComp P a) (p1 : Int32) (K : Int32 → St → Prop) (I14 : St → Nat → Int32 → Prop) (μ14 : St → Nat → Int32 → Nat) 
  (h : vX7_firstAlike P f a p1 I14 K)
  (h14 : ∀ (g : St) (x2 : Nat) (x3 : Int32) , I14 g x2 x3 → bX7_firstAlike_14 P a p1 (fun g' z0 z1 => I14 g' z0 z1 ∧ μ14 g' z0 z1 < μ14 g x2 x3) K g x2 x3) :
  Met l yX7_firstAlike (wU yX7_firstAlike cX7_firstAlike 4 (some .int)) rmX7_firstAlike (PcW G P f sz [.ref a, .int p1]) (QcI G P sz K) 0 0 (frA P sz) := by
  refine v_met (own := RX7) [.ref a, .int p1] (by decide +kernel) rfl (Nat.le_of_ble_eq_true rfl) (fun p e s m args below meth c hsz o hr hnm => ?_)
  refine v_lv (lv2 := [(0, .ref a), (1, .int p1)]) rfl ?_
  have main : ∀ n : Nat, (∀ (g : St) (x2 : Nat) (x3 : Int32) , IsWord P x2 → I14 g x2 x3 → μ14 g x2 x3 < n → V p l e rmX7_firstAlike s m args below meth c 4 G (frA P sz) (MQ below (QcI G P sz K) args s 0 0 (frA P sz)) 0 0 P [(0, .ref a), (1, .int p1), (2, .ref x2), (3, .int x3)] [] 14 g) := by
    intro n
    induction n with
    | zero => exact fun g x2 x3 hx2 hI hm => absurd hm (Nat.not_lt_zero _)
    | succ n ih =>
      intro g x2 x3 hx2 hI hm
      have h := h14 g x2 x3 hI
      clear hI
      unfold bX7_firstAlike_14 at h
      refine v_iload_n o 3 dX7_firstAlike_14 rfl ?_
      refine v_iload_n o 1 dX7_firstAlike_15 rfl ?_
      refine v_icmp_ge o (tgt := 45) dX7_firstAlike_16 (by decide) (fun c16 => ?_) (fun c16 => ?_)
      · replace h := h.1 c16
        refine v_iload_n o 1 dX7_firstAlike_45 rfl ?_
        exact v_iret o rfl hr dX7_firstAlike_46 h
      · replace h := h.2 c16
        refine v_aload_n o 0 dX7_firstAlike_19 rfl ?_
        refine v_gfR o lkX7_19 (by decide) (wfComp_o ha) (wfComp_r1 ha) dX7_firstAlike_20 ?_
        refine v_iload_n o 3 dX7_firstAlike_23 rfl ?_
        refine v_cVr o [.int x3] [] (fun sz => metX0_at l G P g sz (a + 4) (wfComp_t1 ha) x3) (cwX7_102 o.1.2.2.2.2 (by decide)) ⟨_, _, rfl⟩ (by decide) (wfBoard_o (wfComp_t1 ha)) rfl (Nat.le_of_ble_eq_true rfl) ⟨Nat.zero_le _, Nat.zero_le _⟩ dX7_firstAlike_24 rfl (fun r24 g24 h24 => ?_)
        obtain ⟨rfl, rfl⟩ := h24
        refine v_cVr o [] [] (fun sz => metX2_looseWord l G P g sz (atB (a + 4) x3) (is_atB (wfComp_t1 ha) x3)) (cwX7_206 o.1.2.2.2.2 (by decide)) ⟨_, _, rfl⟩ (by decide) (wfLoaf_o (is_atB (wfComp_t1 ha) x3)) rfl (Nat.le_of_ble_eq_true rfl) ⟨Nat.zero_le _, Nat.zero_le _⟩ dX7_firstAlike_27 rfl (fun r27 g27 h27 => ?_)
        obtain ⟨rfl, rfl⟩ := h27
        refine v_aload_n o 2 dX7_firstAlike_30 rfl ?_
        refine v_cVi o [.ref x2] [] (fun sz => metX6_isSame l G P g sz ((atB (a + 4) x3) + 4) (wfLoaf_t1 (is_atB (wfComp_t1 ha) x3)) x2 hx2 _ h) (cwX7_331 o.1.2.2.2.2 (by decide)) ⟨_, _, rfl⟩ (by decide) (wfWord_o (wfLoaf_t1 (is_atB (wfComp_t1 ha) x3))) rfl (Nat.le_of_ble_eq_true rfl) ⟨Nat.zero_le _, Nat.zero_le _⟩ dX7_firstAlike_31 rfl (fun r31 g31 h => ?_)
        refine v_if_eq o (tgt := 39) dX7_firstAlike_34 (by decide) (fun c34 => ?_) (fun c34 => ?_)
        · replace h := h.1 c34
          obtain ⟨x3_39, ex3_39⟩ : ∃ y : Int32, y = x3 + 1 := ⟨_, rfl⟩
          replace h := h x3_39 ex3_39
          refine v_iinc o (v := x3_39) (lv' := [(3, .int x3_39), (0, .ref a), (1, .int p1), (2, .ref x2)]) 3 dX7_firstAlike_39 rfl (by rw [ex3_39]; rfl) (by decide) rfl ?_
          refine v_goto o (tgt := 14) dX7_firstAlike_42 (by decide) ?_
          refine v_sub [1, 2, 3, 0] (lv2 := [(0, .ref a), (1, .int p1), (2, .ref x2), (3, .int x3_39)]) rfl ?_
          exact ih g31 x2 x3_39 hx2 h.1 (by have := h.2; omega)
        · replace h := h.2 c34
          refine v_iload_n o 3 dX7_firstAlike_37 rfl ?_
          exact v_iret o rfl hr dX7_firstAlike_38 h
  unfold vX7_firstAlike at h
  refine v_aload_n o 0 dX7_firstAlike_0 rfl ?_
  refine v_gfR o lkX7_19 (by decide) (wfComp_o ha) (wfComp_r1 ha) dX7_firstAlike_1 ?_
  refine v_iload_n o 1 dX7_firstAlike_4 rfl ?_
  refine v_cVr o [.int p1] [] (fun sz => metX0_at l G P f sz (a + 4) (wfComp_t1 ha) p1) (cwX7_102 o.1.2.2.2.2 (by decide)) ⟨_, _, rfl⟩ (by decide) (wfBoard_o (wfComp_t1 ha)) rfl (Nat.le_of_ble_eq_true rfl) ⟨Nat.zero_le _, Nat.zero_le _⟩ dX7_firstAlike_5 rfl (fun r5 g5 h5 => ?_)
  obtain ⟨rfl, rfl⟩ := h5
  refine v_cVr o [] [] (fun sz => metX2_looseWord l G P f sz (atB (a + 4) p1) (is_atB (wfComp_t1 ha) p1)) (cwX7_206 o.1.2.2.2.2 (by decide)) ⟨_, _, rfl⟩ (by decide) (wfLoaf_o (is_atB (wfComp_t1 ha) p1)) rfl (Nat.le_of_ble_eq_true rfl) ⟨Nat.zero_le _, Nat.zero_le _⟩ dX7_firstAlike_8 rfl (fun r8 g8 h8 => ?_)
  obtain ⟨rfl, rfl⟩ := h8
  refine v_astore_n o (lv' := [(2, .ref ((atB (a + 4) p1) + 4)), (0, .ref a), (1, .int p1)]) dX7_firstAlike_11 rfl (by decide) rfl ?_
  refine v_iconst o (v := 0) dX7_firstAlike_12 (by decide) ?_
  refine v_istore_n o (lv' := [(3, .int 0), (2, .ref ((atB (a + 4) p1) + 4)), (0, .ref a), (1, .int p1)]) dX7_firstAlike_13 rfl (by decide) rfl ?_
  refine v_sub [2, 3, 1, 0] (lv2 := [(0, .ref a), (1, .int p1), (2, .ref ((atB (a + 4) p1) + 4)), (3, .int 0)]) rfl ?_
  exact (main (μ14 f ((atB (a + 4) p1) + 4) 0 + 1)) f ((atB (a + 4) p1) + 4) 0 (wfLoaf_t1 (is_atB (wfComp_t1 ha) p1)) h (Nat.lt_succ_self _)
def kX7_firstAlike (P : Sk) (f : St) (a : Nat) (p1 : Int32) (K : Int32 → St → Prop) : Prop := False
theorem metX7_firstAlike (l : Launch) (G : Gl) (P : Sk) (f : St) (sz : Nat) (a : Nat) (ha : IsComp P a) (p1 : Int32) (K : Int32 → St → Prop) (h : kX7_firstAlike P f a p1 K) : Met l yX7_firstAlike (wU yX7_firstAlike cX7_firstAlike 4 (some .int)) rmX7_firstAlike (PcW G P f sz [.ref a, .int p1]) (QcI G P sz K) 0 0 (frA P sz) := sorry

def jX7_kinds_27 (P : Sk) (a : Nat) (L4 : St → Int32 → Int32 → Prop) (K : Int32 → St → Prop) (x1 : Int32) (x2 : Int32) (f : St) : Prop :=
  ∀ x2_27 : Int32, x2_27 = x2 + 1 → L4 f x1 x2_27
def bX7_kinds_4 (P : Sk) (a : Nat) (L4 : St → Int32 → Int32 → Prop) (K : Int32 → St → Prop) (f : St) (x1 : Int32) (x2 : Int32) : Prop :=
  kX0_size P f (a + 4) (fun r9 g9 => (r9 ≤ x2 → K x1 g9) ∧ (¬ r9 ≤ x2 → kX7_firstAlike P g9 a x2 (fun r17 g17 => (¬ r17 = x2 → jX7_kinds_27 P a L4 K x1 x2 g17) ∧ (r17 = x2 → ∀ x1_24 : Int32, x1_24 = x1 + 1 → jX7_kinds_27 P a L4 K x1_24 x2 g17))))
def vX7_kinds (P : Sk) (f : St) (a : Nat) (L4 : St → Int32 → Int32 → Prop) (K : Int32 → St → Prop) : Prop :=
  L4 f 0 0
set_option maxRecDepth 20000 in
set_option maxHeartbeats 4000000 in
theorem mX7_kinds (l : Launch) (G : Gl) (P : Sk) (f : St) (sz : Nat) (a : Nat) (ha : IsComp P a) (K : Int32 → St → Prop) (I4 : St → Int32 → Int32 → Prop) (μ4 : St → Int32 → Int32 → Nat) 
  (h : vX7_kinds P f a I4 K)
  (h4 : ∀ (g : St) (x1 : Int32) (x2 : Int32) , I4 g x1 x2 → bX7_kinds_4 P a (fun g' z0 z1 => I4 g' z0 z1 ∧ μ4 g' z0 z1 < μ4 g x1 x2) K g x1 x2) :
  Met l yX7_kinds (wU yX7_kinds cX7_kinds 3 (some .int)) rmX7_kinds (PcW G P f sz [.ref a]) (QcI G P sz K) 0 0 (frA P sz) := by
  refine v_met (own := RX7) [.ref a] (by decide +kernel) rfl (Nat.le_of_ble_eq_true rfl) (fun p e s m args below meth c hsz o hr hnm => ?_)
  refine v_lv (lv2 := [(0, .ref a)]) rfl ?_
  have main : ∀ n : Nat, (∀ (g : St) (x1 : Int32) (x2 : Int32) , I4 g x1 x2 → μ4 g x1 x2 < n → V p l e rmX7_kinds s m args below meth c 3 G (frA P sz) (MQ below (QcI G P sz K) args s 0 0 (frA P sz)) 0 0 P [(0, .ref a), (1, .int x1), (2, .int x2)] [] 4 g) := by
    intro n
    induction n with
    | zero => exact fun g x1 x2 hI hm => absurd hm (Nat.not_lt_zero _)
    | succ n ih =>
      intro g x1 x2 hI hm
      have h := h4 g x1 x2 hI
      clear hI
      have J27 : ∀ (x1_27 : Int32) (x2_27 : Int32) (g27 : St), jX7_kinds_27 P a (fun g' z0 z1 => I4 g' z0 z1 ∧ μ4 g' z0 z1 < μ4 g x1 x2) K x1_27 x2_27 g27 → V p l e rmX7_kinds s m args below meth c 3 G (frA P sz) (MQ below (QcI G P sz K) args s 0 0 (frA P sz)) 0 0 P [(0, .ref a), (1, .int x1_27), (2, .int x2_27)] [] 27 g27 := by
        intro x1_27 x2_27 g27  h
        unfold jX7_kinds_27 at h
        obtain ⟨x2_27, ex2_27⟩ : ∃ y : Int32, y = x2_27 + 1 := ⟨_, rfl⟩
        replace h := h x2_27 ex2_27
        refine v_iinc o (v := x2_27) (lv' := [(2, .int x2_27), (0, .ref a), (1, .int x1_27)]) 2 dX7_kinds_27 rfl (by rw [ex2_27]; rfl) (by decide) rfl ?_
        refine v_goto o (tgt := 4) dX7_kinds_30 (by decide) ?_
        refine v_sub [1, 2, 0] (lv2 := [(0, .ref a), (1, .int x1_27), (2, .int x2_27)]) rfl ?_
        exact ih g27 x1_27 x2_27  h.1 (by have := h.2; omega)
      unfold bX7_kinds_4 at h
      refine v_iload_n o 2 dX7_kinds_4 rfl ?_
      refine v_aload_n o 0 dX7_kinds_5 rfl ?_
      refine v_gfR o lkX7_19 (by decide) (wfComp_o ha) (wfComp_r1 ha) dX7_kinds_6 ?_
      refine v_cVi o [] [.int x2] (fun sz => metX0_size l G P g sz (a + 4) (wfComp_t1 ha) _ h) (cwX7_65 o.1.2.2.2.2 (by decide)) ⟨_, _, rfl⟩ (by decide) (wfBoard_o (wfComp_t1 ha)) rfl (Nat.le_of_ble_eq_true rfl) ⟨Nat.zero_le _, Nat.zero_le _⟩ dX7_kinds_9 rfl (fun r9 g9 h => ?_)
      refine v_icmp_ge o (tgt := 33) dX7_kinds_12 (by decide) (fun c12 => ?_) (fun c12 => ?_)
      · replace h := h.1 c12
        refine v_iload_n o 1 dX7_kinds_33 rfl ?_
        exact v_iret o rfl hr dX7_kinds_34 h
      · replace h := h.2 c12
        refine v_aload_n o 0 dX7_kinds_15 rfl ?_
        refine v_iload_n o 2 dX7_kinds_16 rfl ?_
        refine v_cVi o [.int x2] [] (fun sz => metX7_firstAlike l G P g9 sz a ha x2 _ h) (cwX7_316 o.1.2.2.2.2 (by decide)) ⟨_, _, rfl⟩ (by decide) (wfComp_o ha) rfl (Nat.le_of_ble_eq_true rfl) ⟨Nat.zero_le _, Nat.zero_le _⟩ dX7_kinds_17 rfl (fun r17 g17 h => ?_)
        refine v_iload_n o 2 dX7_kinds_20 rfl ?_
        refine v_icmp_ne o (tgt := 27) dX7_kinds_21 (by decide) (fun c21 => ?_) (fun c21 => ?_)
        · replace h := h.1 c21
          refine v_sub [0, 1, 2] (lv2 := [(0, .ref a), (1, .int x1), (2, .int x2)]) rfl ?_
          exact J27 x1 x2 g17  h
        · replace h := h.2 c21
          obtain ⟨x1_24, ex1_24⟩ : ∃ y : Int32, y = x1 + 1 := ⟨_, rfl⟩
          replace h := h x1_24 ex1_24
          refine v_iinc o (v := x1_24) (lv' := [(1, .int x1_24), (0, .ref a), (2, .int x2)]) 1 dX7_kinds_24 rfl (by rw [ex1_24]; rfl) (by decide) rfl ?_
          refine v_sub [1, 0, 2] (lv2 := [(0, .ref a), (1, .int x1_24), (2, .int x2)]) rfl ?_
          exact J27 x1_24 x2 g17  h
  unfold vX7_kinds at h
  refine v_iconst o (v := 0) dX7_kinds_0 (by decide) ?_
  refine v_istore_n o (lv' := [(1, .int 0), (0, .ref a)]) dX7_kinds_1 rfl (by decide) rfl ?_
  refine v_iconst o (v := 0) dX7_kinds_2 (by decide) ?_
  refine v_istore_n o (lv' := [(2, .int 0), (1, .int 0), (0, .ref a)]) dX7_kinds_3 rfl (by decide) rfl ?_
  refine v_sub [2, 1, 0] (lv2 := [(0, .ref a), (1, .int 0), (2, .int 0)]) rfl ?_
  exact (main (μ4 f 0 0 + 1)) f 0 0  h (Nat.lt_succ_self _)
def kX7_kinds (P : Sk) (f : St) (a : Nat) (K : Int32 → St → Prop) : Prop := False
theorem metX7_kinds (l : Launch) (G : Gl) (P : Sk) (f : St) (sz : Nat) (a : Nat) (ha : IsComp P a) (K : Int32 → St → Prop) (h : kX7_kinds P f a K) : Met l yX7_kinds (wU yX7_kinds cX7_kinds 3 (some .int)) rmX7_kinds (PcW G P f sz [.ref a]) (QcI G P sz K) 0 0 (frA P sz) := sorry

def vX7_numberOfBoard (P : Sk) (f : St) (a : Nat) (p1 : Int32) (K : Int32 → St → Prop) : Prop :=
  (p1 = 0 → kX0_size P f (a + 4) (fun r44 g44 => K r44 g44)) ∧ (¬ p1 = 0 → (p1 = 1 → kX7_crossingsOfAll P f a (fun r49 g49 => K r49 g49)) ∧ (¬ p1 = 1 → (p1 = 2 → kX7_doughUsedByStrands P f a (fun r54 g54 => K r54 g54)) ∧ (¬ p1 = 2 → (p1 = 3 → kX7_crossingsOfAll P f a (fun r60 g60 => K (3 * r60) g60)) ∧ (¬ p1 = 3 → (p1 = 4 → kX7_kinds P f a (fun r66 g66 => K r66 g66)) ∧ (¬ p1 = 4 → (p1 = 5 → kX0_changes P f (a + 4) (fun r74 g74 => K r74 g74)) ∧ (¬ p1 = 5 → kX1_size P f (a + 160) (fun r82 g82 => K r82 g82)))))))
set_option maxRecDepth 20000 in
set_option maxHeartbeats 4000000 in
theorem mX7_numberOfBoard (l : Launch) (G : Gl) (P : Sk) (f : St) (sz : Nat) (a : Nat) (ha : IsComp P a) (p1 : Int32) (K : Int32 → St → Prop) (h : vX7_numberOfBoard P f a p1 K)  :
  Met l yX7_numberOfBoard (wU yX7_numberOfBoard cX7_numberOfBoard 2 (some .int)) rmX7_numberOfBoard (PcW G P f sz [.ref a, .int p1]) (QcI G P sz K) 0 0 (frA P sz) := by
  refine v_met (own := RX7) [.ref a, .int p1] (by decide +kernel) rfl (Nat.le_of_ble_eq_true rfl) (fun p e s m args below meth c hsz o hr hnm => ?_)
  refine v_lv (lv2 := [(0, .ref a), (1, .int p1)]) rfl ?_
  unfold vX7_numberOfBoard at h
  refine v_iload_n o 1 dX7_numberOfBoard_0 rfl ?_
  by_cases c1_0 : p1 = 0
  · replace h := h.1 c1_0
    refine v_tableIn o (off := 39) (tgt := 40) dX7_numberOfBoard_1 (by rw [c1_0]; decide) (by rw [c1_0]; decide) (by rw [c1_0]; decide) (by decide) ?_
    refine v_aload_n o 0 dX7_numberOfBoard_40 rfl ?_
    refine v_gfR o lkX7_19 (by decide) (wfComp_o ha) (wfComp_r1 ha) dX7_numberOfBoard_41 ?_
    refine v_cVi o [] [] (fun sz => metX0_size l G P f sz (a + 4) (wfComp_t1 ha) _ h) (cwX7_65 o.1.2.2.2.2 (by decide)) ⟨_, _, rfl⟩ (by decide) (wfBoard_o (wfComp_t1 ha)) rfl (Nat.le_of_ble_eq_true rfl) ⟨Nat.zero_le _, Nat.zero_le _⟩ dX7_numberOfBoard_44 rfl (fun r44 g44 h => ?_)
    exact v_iret o rfl hr dX7_numberOfBoard_47 h
  · replace h := h.2 c1_0
    by_cases c1_1 : p1 = 1
    · replace h := h.1 c1_1
      refine v_tableIn o (off := 47) (tgt := 48) dX7_numberOfBoard_1 (by rw [c1_1]; decide) (by rw [c1_1]; decide) (by rw [c1_1]; decide) (by decide) ?_
      refine v_aload_n o 0 dX7_numberOfBoard_48 rfl ?_
      refine v_cVi o [] [] (fun sz => metX7_crossingsOfAll l G P f sz a ha _ h) (cwX7_224 o.1.2.2.2.2 (by decide)) ⟨_, _, rfl⟩ (by decide) (wfComp_o ha) rfl (Nat.le_of_ble_eq_true rfl) ⟨Nat.zero_le _, Nat.zero_le _⟩ dX7_numberOfBoard_49 rfl (fun r49 g49 h => ?_)
      exact v_iret o rfl hr dX7_numberOfBoard_52 h
    · replace h := h.2 c1_1
      by_cases c1_2 : p1 = 2
      · replace h := h.1 c1_2
        refine v_tableIn o (off := 52) (tgt := 53) dX7_numberOfBoard_1 (by rw [c1_2]; decide) (by rw [c1_2]; decide) (by rw [c1_2]; decide) (by decide) ?_
        refine v_aload_n o 0 dX7_numberOfBoard_53 rfl ?_
        refine v_cVi o [] [] (fun sz => metX7_doughUsedByStrands l G P f sz a ha _ h) (cwX7_319 o.1.2.2.2.2 (by decide)) ⟨_, _, rfl⟩ (by decide) (wfComp_o ha) rfl (Nat.le_of_ble_eq_true rfl) ⟨Nat.zero_le _, Nat.zero_le _⟩ dX7_numberOfBoard_54 rfl (fun r54 g54 h => ?_)
        exact v_iret o rfl hr dX7_numberOfBoard_57 h
      · replace h := h.2 c1_2
        by_cases c1_3 : p1 = 3
        · replace h := h.1 c1_3
          refine v_tableIn o (off := 57) (tgt := 58) dX7_numberOfBoard_1 (by rw [c1_3]; decide) (by rw [c1_3]; decide) (by rw [c1_3]; decide) (by decide) ?_
          refine v_iconst o (v := 3) dX7_numberOfBoard_58 (by decide) ?_
          refine v_aload_n o 0 dX7_numberOfBoard_59 rfl ?_
          refine v_cVi o [] [.int 3] (fun sz => metX7_crossingsOfAll l G P f sz a ha _ h) (cwX7_224 o.1.2.2.2.2 (by decide)) ⟨_, _, rfl⟩ (by decide) (wfComp_o ha) rfl (Nat.le_of_ble_eq_true rfl) ⟨Nat.zero_le _, Nat.zero_le _⟩ dX7_numberOfBoard_60 rfl (fun r60 g60 h => ?_)
          refine v_imul o dX7_numberOfBoard_63 ?_
          exact v_iret o rfl hr dX7_numberOfBoard_64 h
        · replace h := h.2 c1_3
          by_cases c1_4 : p1 = 4
          · replace h := h.1 c1_4
            refine v_tableIn o (off := 64) (tgt := 65) dX7_numberOfBoard_1 (by rw [c1_4]; decide) (by rw [c1_4]; decide) (by rw [c1_4]; decide) (by decide) ?_
            refine v_aload_n o 0 dX7_numberOfBoard_65 rfl ?_
            refine v_cVi o [] [] (fun sz => metX7_kinds l G P f sz a ha _ h) (cwX7_322 o.1.2.2.2.2 (by decide)) ⟨_, _, rfl⟩ (by decide) (wfComp_o ha) rfl (Nat.le_of_ble_eq_true rfl) ⟨Nat.zero_le _, Nat.zero_le _⟩ dX7_numberOfBoard_66 rfl (fun r66 g66 h => ?_)
            exact v_iret o rfl hr dX7_numberOfBoard_69 h
          · replace h := h.2 c1_4
            by_cases c1_5 : p1 = 5
            · replace h := h.1 c1_5
              refine v_tableIn o (off := 69) (tgt := 70) dX7_numberOfBoard_1 (by rw [c1_5]; decide) (by rw [c1_5]; decide) (by rw [c1_5]; decide) (by decide) ?_
              refine v_aload_n o 0 dX7_numberOfBoard_70 rfl ?_
              refine v_gfR o lkX7_19 (by decide) (wfComp_o ha) (wfComp_r1 ha) dX7_numberOfBoard_71 ?_
              refine v_cVi o [] [] (fun sz => metX0_changes l G P f sz (a + 4) (wfComp_t1 ha) _ h) (cwX7_325 o.1.2.2.2.2 (by decide)) ⟨_, _, rfl⟩ (by decide) (wfBoard_o (wfComp_t1 ha)) rfl (Nat.le_of_ble_eq_true rfl) ⟨Nat.zero_le _, Nat.zero_le _⟩ dX7_numberOfBoard_74 rfl (fun r74 g74 h => ?_)
              exact v_iret o rfl hr dX7_numberOfBoard_77 h
            · replace h := h.2 c1_5
              refine v_tableOut o (tgt := 78) dX7_numberOfBoard_1 (by have q0 := lv_neT c1_0 (a := 0) (by decide); have q1 := lv_neT c1_1 (a := 1) (by decide); have q2 := lv_neT c1_2 (a := 2) (by decide); have q3 := lv_neT c1_3 (a := 3) (by decide); have q4 := lv_neT c1_4 (a := 4) (by decide); have q5 := lv_neT c1_5 (a := 5) (by decide); omega) (by decide) ?_
              refine v_aload_n o 0 dX7_numberOfBoard_78 rfl ?_
              refine v_gfR o lkX7_26 (by decide) (wfComp_o ha) (wfComp_r2 ha) dX7_numberOfBoard_79 ?_
              refine v_cVi o [] [] (fun sz => metX1_size l G P f sz (a + 160) (wfComp_t2 ha) _ h) (cwX7_187 o.1.2.2.2.2 (by decide)) ⟨_, _, rfl⟩ (by decide) (wfHist_o (wfComp_t2 ha)) rfl (Nat.le_of_ble_eq_true rfl) ⟨Nat.zero_le _, Nat.zero_le _⟩ dX7_numberOfBoard_82 rfl (fun r82 g82 h => ?_)
              exact v_iret o rfl hr dX7_numberOfBoard_85 h
abbrev kX7_numberOfBoard := @vX7_numberOfBoard
abbrev metX7_numberOfBoard := @mX7_numberOfBoard

def vX7_numberOfLoaf (P : Sk) (f : St) (a : Nat) (p1 : Int32) (p2 : Int32) (K : Int32 → St → Prop) : Prop :=
  (p2 = 0 → kX6_strands P f ((atB (a + 4) p1) + 1) (fun r68 g68 => K r68 g68)) ∧ (¬ p2 = 0 → (p2 = 1 → kX6_size P f ((atB (a + 4) p1) + 1) (fun r76 g76 => K r76 g76)) ∧ (¬ p2 = 1 → (p2 = 2 → kX6_rightLessLeft P f ((atB (a + 4) p1) + 1) (fun r86 g86 => K (100 + r86) g86)) ∧ (¬ p2 = 2 → (p2 = 3 → kX5_ringsByGoingRound P f ((atB (a + 4) p1) + 7) (fun r95 g95 => K r95 g95)) ∧ (¬ p2 = 3 → (p2 = 4 → kX5_ringsByJoining P f ((atB (a + 4) p1) + 7) (fun r103 g103 => K r103 g103)) ∧ (¬ p2 = 4 → (p2 = 5 → kX6_makeShortAtOnce P f (a + 1435) ((atB (a + 4) p1) + 1) (fun g115 => kX6_size P g115 (a + 1435) (fun r122 g122 => K r122 g122))) ∧ (¬ p2 = 5 → (p2 = 6 → kX6_makeShortByLooking P f (a + 1435) ((atB (a + 4) p1) + 1) (fun g134 => kX6_size P g134 (a + 1435) (fun r141 g141 => K r141 g141))) ∧ (¬ p2 = 6 → (p2 = 7 → kX6_size P f ((atB (a + 4) p1) + 4) (fun r149 g149 => K r149 g149)) ∧ (¬ p2 = 7 → (p2 = 8 → kX5_areAllHome P f ((atB (a + 4) p1) + 7) (fun r157 g157 => (r157 = 0 → K 0 g157) ∧ (¬ r157 = 0 → K 1 g157))) ∧ (¬ p2 = 8 → (p2 = 9 → kX5_mostHidden P f ((atB (a + 4) p1) + 7) (fun r173 g173 => K r173 g173)) ∧ (¬ p2 = 9 → kX7_firstAlike P f a p1 (fun r179 g179 => K r179 g179)))))))))))
set_option maxRecDepth 20000 in
set_option maxHeartbeats 4000000 in
theorem mX7_numberOfLoaf (l : Launch) (G : Gl) (P : Sk) (f : St) (sz : Nat) (a : Nat) (ha : IsComp P a) (p1 : Int32) (p2 : Int32) (K : Int32 → St → Prop) (h : vX7_numberOfLoaf P f a p1 p2 K)  :
  Met l yX7_numberOfLoaf (wU yX7_numberOfLoaf cX7_numberOfLoaf 4 (some .int)) rmX7_numberOfLoaf (PcW G P f sz [.ref a, .int p1, .int p2]) (QcI G P sz K) 0 0 (frA P sz) := by
  refine v_met (own := RX7) [.ref a, .int p1, .int p2] (by decide +kernel) rfl (Nat.le_of_ble_eq_true rfl) (fun p e s m args below meth c hsz o hr hnm => ?_)
  refine v_lv (lv2 := [(0, .ref a), (1, .int p1), (2, .int p2)]) rfl ?_
  unfold vX7_numberOfLoaf at h
  refine v_aload_n o 0 dX7_numberOfLoaf_0 rfl ?_
  refine v_gfR o lkX7_19 (by decide) (wfComp_o ha) (wfComp_r1 ha) dX7_numberOfLoaf_1 ?_
  refine v_iload_n o 1 dX7_numberOfLoaf_4 rfl ?_
  refine v_cVr o [.int p1] [] (fun sz => metX0_at l G P f sz (a + 4) (wfComp_t1 ha) p1) (cwX7_102 o.1.2.2.2.2 (by decide)) ⟨_, _, rfl⟩ (by decide) (wfBoard_o (wfComp_t1 ha)) rfl (Nat.le_of_ble_eq_true rfl) ⟨Nat.zero_le _, Nat.zero_le _⟩ dX7_numberOfLoaf_5 rfl (fun r5 g5 h5 => ?_)
  obtain ⟨rfl, rfl⟩ := h5
  refine v_astore_n o (lv' := [(3, .ref (atB (a + 4) p1)), (0, .ref a), (1, .int p1), (2, .int p2)]) dX7_numberOfLoaf_8 rfl (by decide) rfl ?_
  refine v_iload_n o 3 dX7_numberOfLoaf_9 rfl ?_
  by_cases c10_0 : p2 = 0
  · replace h := h.1 c10_0
    refine v_tableIn o (off := 54) (tgt := 64) dX7_numberOfLoaf_10 (by rw [c10_0]; decide) (by rw [c10_0]; decide) (by rw [c10_0]; decide) (by decide) ?_
    refine v_aload_n o 0 dX7_numberOfLoaf_64 rfl ?_
    refine v_cVr o [] [] (fun sz => metX2_word l G P f sz (atB (a + 4) p1) (is_atB (wfComp_t1 ha) p1)) (cwX7_74 o.1.2.2.2.2 (by decide)) ⟨_, _, rfl⟩ (by decide) (wfLoaf_o (is_atB (wfComp_t1 ha) p1)) rfl (Nat.le_of_ble_eq_true rfl) ⟨Nat.zero_le _, Nat.zero_le _⟩ dX7_numberOfLoaf_65 rfl (fun r65 g65 h65 => ?_)
    obtain ⟨rfl, rfl⟩ := h65
    refine v_cVi o [] [] (fun sz => metX6_strands l G P f sz ((atB (a + 4) p1) + 1) (wfLoaf_t0 (is_atB (wfComp_t1 ha) p1)) _ h) (cwX7_280 o.1.2.2.2.2 (by decide)) ⟨_, _, rfl⟩ (by decide) (wfWord_o (wfLoaf_t0 (is_atB (wfComp_t1 ha) p1))) rfl (Nat.le_of_ble_eq_true rfl) ⟨Nat.zero_le _, Nat.zero_le _⟩ dX7_numberOfLoaf_68 rfl (fun r68 g68 h => ?_)
    exact v_iret o rfl hr dX7_numberOfLoaf_71 h
  · replace h := h.2 c10_0
    by_cases c10_1 : p2 = 1
    · replace h := h.1 c10_1
      refine v_tableIn o (off := 62) (tgt := 72) dX7_numberOfLoaf_10 (by rw [c10_1]; decide) (by rw [c10_1]; decide) (by rw [c10_1]; decide) (by decide) ?_
      refine v_aload_n o 0 dX7_numberOfLoaf_72 rfl ?_
      refine v_cVr o [] [] (fun sz => metX2_word l G P f sz (atB (a + 4) p1) (is_atB (wfComp_t1 ha) p1)) (cwX7_74 o.1.2.2.2.2 (by decide)) ⟨_, _, rfl⟩ (by decide) (wfLoaf_o (is_atB (wfComp_t1 ha) p1)) rfl (Nat.le_of_ble_eq_true rfl) ⟨Nat.zero_le _, Nat.zero_le _⟩ dX7_numberOfLoaf_73 rfl (fun r73 g73 h73 => ?_)
      obtain ⟨rfl, rfl⟩ := h73
      refine v_cVi o [] [] (fun sz => metX6_size l G P f sz ((atB (a + 4) p1) + 1) (wfLoaf_t0 (is_atB (wfComp_t1 ha) p1)) _ h) (cwX7_106 o.1.2.2.2.2 (by decide)) ⟨_, _, rfl⟩ (by decide) (wfWord_o (wfLoaf_t0 (is_atB (wfComp_t1 ha) p1))) rfl (Nat.le_of_ble_eq_true rfl) ⟨Nat.zero_le _, Nat.zero_le _⟩ dX7_numberOfLoaf_76 rfl (fun r76 g76 h => ?_)
      exact v_iret o rfl hr dX7_numberOfLoaf_79 h
    · replace h := h.2 c10_1
      by_cases c10_2 : p2 = 2
      · replace h := h.1 c10_2
        refine v_tableIn o (off := 70) (tgt := 80) dX7_numberOfLoaf_10 (by rw [c10_2]; decide) (by rw [c10_2]; decide) (by rw [c10_2]; decide) (by decide) ?_
        refine v_bipush o (v := 100) dX7_numberOfLoaf_80 (by decide) ?_
        refine v_aload_n o 0 dX7_numberOfLoaf_82 rfl ?_
        refine v_cVr o [] [.int 100] (fun sz => metX2_word l G P f sz (atB (a + 4) p1) (is_atB (wfComp_t1 ha) p1)) (cwX7_74 o.1.2.2.2.2 (by decide)) ⟨_, _, rfl⟩ (by decide) (wfLoaf_o (is_atB (wfComp_t1 ha) p1)) rfl (Nat.le_of_ble_eq_true rfl) ⟨Nat.zero_le _, Nat.zero_le _⟩ dX7_numberOfLoaf_83 rfl (fun r83 g83 h83 => ?_)
        obtain ⟨rfl, rfl⟩ := h83
        refine v_cVi o [] [.int 100] (fun sz => metX6_rightLessLeft l G P f sz ((atB (a + 4) p1) + 1) (wfLoaf_t0 (is_atB (wfComp_t1 ha) p1)) _ h) (cwX7_295 o.1.2.2.2.2 (by decide)) ⟨_, _, rfl⟩ (by decide) (wfWord_o (wfLoaf_t0 (is_atB (wfComp_t1 ha) p1))) rfl (Nat.le_of_ble_eq_true rfl) ⟨Nat.zero_le _, Nat.zero_le _⟩ dX7_numberOfLoaf_86 rfl (fun r86 g86 h => ?_)
        refine v_iadd o dX7_numberOfLoaf_89 ?_
        exact v_iret o rfl hr dX7_numberOfLoaf_90 h
      · replace h := h.2 c10_2
        by_cases c10_3 : p2 = 3
        · replace h := h.1 c10_3
          refine v_tableIn o (off := 81) (tgt := 91) dX7_numberOfLoaf_10 (by rw [c10_3]; decide) (by rw [c10_3]; decide) (by rw [c10_3]; decide) (by decide) ?_
          refine v_aload_n o 0 dX7_numberOfLoaf_91 rfl ?_
          refine v_cVr o [] [] (fun sz => metX2_trace l G P f sz (atB (a + 4) p1) (is_atB (wfComp_t1 ha) p1)) (cwX7_124 o.1.2.2.2.2 (by decide)) ⟨_, _, rfl⟩ (by decide) (wfLoaf_o (is_atB (wfComp_t1 ha) p1)) rfl (Nat.le_of_ble_eq_true rfl) ⟨Nat.zero_le _, Nat.zero_le _⟩ dX7_numberOfLoaf_92 rfl (fun r92 g92 h92 => ?_)
          obtain ⟨rfl, rfl⟩ := h92
          refine v_cVi o [] [] (fun sz => metX5_ringsByGoingRound l G P f sz ((atB (a + 4) p1) + 7) (wfLoaf_t2 (is_atB (wfComp_t1 ha) p1)) _ h) (cwX7_298 o.1.2.2.2.2 (by decide)) ⟨_, _, rfl⟩ (by decide) (wfTrace_o (wfLoaf_t2 (is_atB (wfComp_t1 ha) p1))) rfl (Nat.le_of_ble_eq_true rfl) ⟨Nat.zero_le _, Nat.zero_le _⟩ dX7_numberOfLoaf_95 rfl (fun r95 g95 h => ?_)
          exact v_iret o rfl hr dX7_numberOfLoaf_98 h
        · replace h := h.2 c10_3
          by_cases c10_4 : p2 = 4
          · replace h := h.1 c10_4
            refine v_tableIn o (off := 89) (tgt := 99) dX7_numberOfLoaf_10 (by rw [c10_4]; decide) (by rw [c10_4]; decide) (by rw [c10_4]; decide) (by decide) ?_
            refine v_aload_n o 0 dX7_numberOfLoaf_99 rfl ?_
            refine v_cVr o [] [] (fun sz => metX2_trace l G P f sz (atB (a + 4) p1) (is_atB (wfComp_t1 ha) p1)) (cwX7_124 o.1.2.2.2.2 (by decide)) ⟨_, _, rfl⟩ (by decide) (wfLoaf_o (is_atB (wfComp_t1 ha) p1)) rfl (Nat.le_of_ble_eq_true rfl) ⟨Nat.zero_le _, Nat.zero_le _⟩ dX7_numberOfLoaf_100 rfl (fun r100 g100 h100 => ?_)
            obtain ⟨rfl, rfl⟩ := h100
            refine v_cVi o [] [] (fun sz => metX5_ringsByJoining l G P f sz ((atB (a + 4) p1) + 7) (wfLoaf_t2 (is_atB (wfComp_t1 ha) p1)) _ h) (cwX7_301 o.1.2.2.2.2 (by decide)) ⟨_, _, rfl⟩ (by decide) (wfTrace_o (wfLoaf_t2 (is_atB (wfComp_t1 ha) p1))) rfl (Nat.le_of_ble_eq_true rfl) ⟨Nat.zero_le _, Nat.zero_le _⟩ dX7_numberOfLoaf_103 rfl (fun r103 g103 h => ?_)
            exact v_iret o rfl hr dX7_numberOfLoaf_106 h
          · replace h := h.2 c10_4
            by_cases c10_5 : p2 = 5
            · replace h := h.1 c10_5
              refine v_tableIn o (off := 97) (tgt := 107) dX7_numberOfLoaf_10 (by rw [c10_5]; decide) (by rw [c10_5]; decide) (by rw [c10_5]; decide) (by decide) ?_
              refine v_aload_n o 1 dX7_numberOfLoaf_107 rfl ?_
              refine v_gfR o lkX7_51 (by decide) (wfComp_o ha) (wfComp_r7 ha) dX7_numberOfLoaf_108 ?_
              refine v_aload_n o 0 dX7_numberOfLoaf_111 rfl ?_
              refine v_cVr o [] [.ref (a + 1435)] (fun sz => metX2_word l G P f sz (atB (a + 4) p1) (is_atB (wfComp_t1 ha) p1)) (cwX7_74 o.1.2.2.2.2 (by decide)) ⟨_, _, rfl⟩ (by decide) (wfLoaf_o (is_atB (wfComp_t1 ha) p1)) rfl (Nat.le_of_ble_eq_true rfl) ⟨Nat.zero_le _, Nat.zero_le _⟩ dX7_numberOfLoaf_112 rfl (fun r112 g112 h112 => ?_)
              obtain ⟨rfl, rfl⟩ := h112
              refine v_cVv o [.ref ((atB (a + 4) p1) + 1)] [] (fun sz => metX6_makeShortAtOnce l G P f sz (a + 1435) (wfComp_t7 ha) ((atB (a + 4) p1) + 1) (wfLoaf_t0 (is_atB (wfComp_t1 ha) p1)) _ h) (cwX7_304 o.1.2.2.2.2 (by decide)) ⟨_, _, rfl⟩ (by decide) (wfWord_o (wfComp_t7 ha)) rfl (Nat.le_of_ble_eq_true rfl) ⟨Nat.zero_le _, Nat.zero_le _⟩ dX7_numberOfLoaf_115 rfl (fun g115 h => ?_)
              refine v_aload_n o 1 dX7_numberOfLoaf_118 rfl ?_
              refine v_gfR o lkX7_51 (by decide) (wfComp_o ha) (wfComp_r7 ha) dX7_numberOfLoaf_119 ?_
              refine v_cVi o [] [] (fun sz => metX6_size l G P g115 sz (a + 1435) (wfComp_t7 ha) _ h) (cwX7_106 o.1.2.2.2.2 (by decide)) ⟨_, _, rfl⟩ (by decide) (wfWord_o (wfComp_t7 ha)) rfl (Nat.le_of_ble_eq_true rfl) ⟨Nat.zero_le _, Nat.zero_le _⟩ dX7_numberOfLoaf_122 rfl (fun r122 g122 h => ?_)
              exact v_iret o rfl hr dX7_numberOfLoaf_125 h
            · replace h := h.2 c10_5
              by_cases c10_6 : p2 = 6
              · replace h := h.1 c10_6
                refine v_tableIn o (off := 116) (tgt := 126) dX7_numberOfLoaf_10 (by rw [c10_6]; decide) (by rw [c10_6]; decide) (by rw [c10_6]; decide) (by decide) ?_
                refine v_aload_n o 1 dX7_numberOfLoaf_126 rfl ?_
                refine v_gfR o lkX7_51 (by decide) (wfComp_o ha) (wfComp_r7 ha) dX7_numberOfLoaf_127 ?_
                refine v_aload_n o 0 dX7_numberOfLoaf_130 rfl ?_
                refine v_cVr o [] [.ref (a + 1435)] (fun sz => metX2_word l G P f sz (atB (a + 4) p1) (is_atB (wfComp_t1 ha) p1)) (cwX7_74 o.1.2.2.2.2 (by decide)) ⟨_, _, rfl⟩ (by decide) (wfLoaf_o (is_atB (wfComp_t1 ha) p1)) rfl (Nat.le_of_ble_eq_true rfl) ⟨Nat.zero_le _, Nat.zero_le _⟩ dX7_numberOfLoaf_131 rfl (fun r131 g131 h131 => ?_)
                obtain ⟨rfl, rfl⟩ := h131
                refine v_cVv o [.ref ((atB (a + 4) p1) + 1)] [] (fun sz => metX6_makeShortByLooking l G P f sz (a + 1435) (wfComp_t7 ha) ((atB (a + 4) p1) + 1) (wfLoaf_t0 (is_atB (wfComp_t1 ha) p1)) _ h) (cwX7_307 o.1.2.2.2.2 (by decide)) ⟨_, _, rfl⟩ (by decide) (wfWord_o (wfComp_t7 ha)) rfl (Nat.le_of_ble_eq_true rfl) ⟨Nat.zero_le _, Nat.zero_le _⟩ dX7_numberOfLoaf_134 rfl (fun g134 h => ?_)
                refine v_aload_n o 1 dX7_numberOfLoaf_137 rfl ?_
                refine v_gfR o lkX7_51 (by decide) (wfComp_o ha) (wfComp_r7 ha) dX7_numberOfLoaf_138 ?_
                refine v_cVi o [] [] (fun sz => metX6_size l G P g134 sz (a + 1435) (wfComp_t7 ha) _ h) (cwX7_106 o.1.2.2.2.2 (by decide)) ⟨_, _, rfl⟩ (by decide) (wfWord_o (wfComp_t7 ha)) rfl (Nat.le_of_ble_eq_true rfl) ⟨Nat.zero_le _, Nat.zero_le _⟩ dX7_numberOfLoaf_141 rfl (fun r141 g141 h => ?_)
                exact v_iret o rfl hr dX7_numberOfLoaf_144 h
              · replace h := h.2 c10_6
                by_cases c10_7 : p2 = 7
                · replace h := h.1 c10_7
                  refine v_tableIn o (off := 135) (tgt := 145) dX7_numberOfLoaf_10 (by rw [c10_7]; decide) (by rw [c10_7]; decide) (by rw [c10_7]; decide) (by decide) ?_
                  refine v_aload_n o 0 dX7_numberOfLoaf_145 rfl ?_
                  refine v_cVr o [] [] (fun sz => metX2_looseWord l G P f sz (atB (a + 4) p1) (is_atB (wfComp_t1 ha) p1)) (cwX7_206 o.1.2.2.2.2 (by decide)) ⟨_, _, rfl⟩ (by decide) (wfLoaf_o (is_atB (wfComp_t1 ha) p1)) rfl (Nat.le_of_ble_eq_true rfl) ⟨Nat.zero_le _, Nat.zero_le _⟩ dX7_numberOfLoaf_146 rfl (fun r146 g146 h146 => ?_)
                  obtain ⟨rfl, rfl⟩ := h146
                  refine v_cVi o [] [] (fun sz => metX6_size l G P f sz ((atB (a + 4) p1) + 4) (wfLoaf_t1 (is_atB (wfComp_t1 ha) p1)) _ h) (cwX7_106 o.1.2.2.2.2 (by decide)) ⟨_, _, rfl⟩ (by decide) (wfWord_o (wfLoaf_t1 (is_atB (wfComp_t1 ha) p1))) rfl (Nat.le_of_ble_eq_true rfl) ⟨Nat.zero_le _, Nat.zero_le _⟩ dX7_numberOfLoaf_149 rfl (fun r149 g149 h => ?_)
                  exact v_iret o rfl hr dX7_numberOfLoaf_152 h
                · replace h := h.2 c10_7
                  by_cases c10_8 : p2 = 8
                  · replace h := h.1 c10_8
                    refine v_tableIn o (off := 143) (tgt := 153) dX7_numberOfLoaf_10 (by rw [c10_8]; decide) (by rw [c10_8]; decide) (by rw [c10_8]; decide) (by decide) ?_
                    refine v_aload_n o 0 dX7_numberOfLoaf_153 rfl ?_
                    refine v_cVr o [] [] (fun sz => metX2_trace l G P f sz (atB (a + 4) p1) (is_atB (wfComp_t1 ha) p1)) (cwX7_124 o.1.2.2.2.2 (by decide)) ⟨_, _, rfl⟩ (by decide) (wfLoaf_o (is_atB (wfComp_t1 ha) p1)) rfl (Nat.le_of_ble_eq_true rfl) ⟨Nat.zero_le _, Nat.zero_le _⟩ dX7_numberOfLoaf_154 rfl (fun r154 g154 h154 => ?_)
                    obtain ⟨rfl, rfl⟩ := h154
                    refine v_cVi o [] [] (fun sz => metX5_areAllHome l G P f sz ((atB (a + 4) p1) + 7) (wfLoaf_t2 (is_atB (wfComp_t1 ha) p1)) _ h) (cwX7_310 o.1.2.2.2.2 (by decide)) ⟨_, _, rfl⟩ (by decide) (wfTrace_o (wfLoaf_t2 (is_atB (wfComp_t1 ha) p1))) rfl (Nat.le_of_ble_eq_true rfl) ⟨Nat.zero_le _, Nat.zero_le _⟩ dX7_numberOfLoaf_157 rfl (fun r157 g157 h => ?_)
                    refine v_if_eq o (tgt := 167) dX7_numberOfLoaf_160 (by decide) (fun c160 => ?_) (fun c160 => ?_)
                    · replace h := h.1 c160
                      refine v_iconst o (v := 0) dX7_numberOfLoaf_167 (by decide) ?_
                      exact v_iret o rfl hr dX7_numberOfLoaf_168 h
                    · replace h := h.2 c160
                      refine v_iconst o (v := 1) dX7_numberOfLoaf_163 (by decide) ?_
                      refine v_goto o (tgt := 168) dX7_numberOfLoaf_164 (by decide) ?_
                      exact v_iret o rfl hr dX7_numberOfLoaf_168 h
                  · replace h := h.2 c10_8
                    by_cases c10_9 : p2 = 9
                    · replace h := h.1 c10_9
                      refine v_tableIn o (off := 159) (tgt := 169) dX7_numberOfLoaf_10 (by rw [c10_9]; decide) (by rw [c10_9]; decide) (by rw [c10_9]; decide) (by decide) ?_
                      refine v_aload_n o 0 dX7_numberOfLoaf_169 rfl ?_
                      refine v_cVr o [] [] (fun sz => metX2_trace l G P f sz (atB (a + 4) p1) (is_atB (wfComp_t1 ha) p1)) (cwX7_124 o.1.2.2.2.2 (by decide)) ⟨_, _, rfl⟩ (by decide) (wfLoaf_o (is_atB (wfComp_t1 ha) p1)) rfl (Nat.le_of_ble_eq_true rfl) ⟨Nat.zero_le _, Nat.zero_le _⟩ dX7_numberOfLoaf_170 rfl (fun r170 g170 h170 => ?_)
                      obtain ⟨rfl, rfl⟩ := h170
                      refine v_cVi o [] [] (fun sz => metX5_mostHidden l G P f sz ((atB (a + 4) p1) + 7) (wfLoaf_t2 (is_atB (wfComp_t1 ha) p1)) _ h) (cwX7_313 o.1.2.2.2.2 (by decide)) ⟨_, _, rfl⟩ (by decide) (wfTrace_o (wfLoaf_t2 (is_atB (wfComp_t1 ha) p1))) rfl (Nat.le_of_ble_eq_true rfl) ⟨Nat.zero_le _, Nat.zero_le _⟩ dX7_numberOfLoaf_173 rfl (fun r173 g173 h => ?_)
                      exact v_iret o rfl hr dX7_numberOfLoaf_176 h
                    · replace h := h.2 c10_9
                      refine v_tableOut o (tgt := 177) dX7_numberOfLoaf_10 (by have q0 := lv_neT c10_0 (a := 0) (by decide); have q1 := lv_neT c10_1 (a := 1) (by decide); have q2 := lv_neT c10_2 (a := 2) (by decide); have q3 := lv_neT c10_3 (a := 3) (by decide); have q4 := lv_neT c10_4 (a := 4) (by decide); have q5 := lv_neT c10_5 (a := 5) (by decide); have q6 := lv_neT c10_6 (a := 6) (by decide); have q7 := lv_neT c10_7 (a := 7) (by decide); have q8 := lv_neT c10_8 (a := 8) (by decide); have q9 := lv_neT c10_9 (a := 9) (by decide); omega) (by decide) ?_
                      refine v_aload_n o 1 dX7_numberOfLoaf_177 rfl ?_
                      refine v_iload_n o 2 dX7_numberOfLoaf_178 rfl ?_
                      refine v_cVi o [.int p1] [] (fun sz => metX7_firstAlike l G P f sz a ha p1 _ h) (cwX7_316 o.1.2.2.2.2 (by decide)) ⟨_, _, rfl⟩ (by decide) (wfComp_o ha) rfl (Nat.le_of_ble_eq_true rfl) ⟨Nat.zero_le _, Nat.zero_le _⟩ dX7_numberOfLoaf_179 rfl (fun r179 g179 h => ?_)
                      exact v_iret o rfl hr dX7_numberOfLoaf_182 h
abbrev kX7_numberOfLoaf := @vX7_numberOfLoaf
abbrev metX7_numberOfLoaf := @mX7_numberOfLoaf

def vX7_looseSizeIfChanged (P : Sk) (f : St) (a : Nat) (p1 : Int32) (p2 : Int32) (K : Int32 → St → Prop) : Prop :=
  kX6_makeChanged P f (a + 1432) ((atB (a + 4) p1) + 1) p2 (fun g16 => kX6_makeLoose P g16 (a + 1435) (a + 1432) (fun g27 => kX6_size P g27 (a + 1435) (fun r34 g34 => K r34 g34)))
set_option maxRecDepth 20000 in
set_option maxHeartbeats 4000000 in
theorem mX7_looseSizeIfChanged (l : Launch) (G : Gl) (P : Sk) (f : St) (sz : Nat) (a : Nat) (ha : IsComp P a) (p1 : Int32) (p2 : Int32) (K : Int32 → St → Prop) (h : vX7_looseSizeIfChanged P f a p1 p2 K)  :
  Met l yX7_looseSizeIfChanged (wU yX7_looseSizeIfChanged cX7_looseSizeIfChanged 3 (some .int)) rmX7_looseSizeIfChanged (PcW G P f sz [.ref a, .int p1, .int p2]) (QcI G P sz K) 0 0 (frA P sz) := by
  refine v_met (own := RX7) [.ref a, .int p1, .int p2] (by decide +kernel) rfl (Nat.le_of_ble_eq_true rfl) (fun p e s m args below meth c hsz o hr hnm => ?_)
  refine v_lv (lv2 := [(0, .ref a), (1, .int p1), (2, .int p2)]) rfl ?_
  unfold vX7_looseSizeIfChanged at h
  refine v_aload_n o 0 dX7_looseSizeIfChanged_0 rfl ?_
  refine v_gfR o lkX7_47 (by decide) (wfComp_o ha) (wfComp_r6 ha) dX7_looseSizeIfChanged_1 ?_
  refine v_aload_n o 0 dX7_looseSizeIfChanged_4 rfl ?_
  refine v_gfR o lkX7_19 (by decide) (wfComp_o ha) (wfComp_r1 ha) dX7_looseSizeIfChanged_5 ?_
  refine v_iload_n o 1 dX7_looseSizeIfChanged_8 rfl ?_
  refine v_cVr o [.int p1] [.ref (a + 1432)] (fun sz => metX0_at l G P f sz (a + 4) (wfComp_t1 ha) p1) (cwX7_102 o.1.2.2.2.2 (by decide)) ⟨_, _, rfl⟩ (by decide) (wfBoard_o (wfComp_t1 ha)) rfl (Nat.le_of_ble_eq_true rfl) ⟨Nat.zero_le _, Nat.zero_le _⟩ dX7_looseSizeIfChanged_9 rfl (fun r9 g9 h9 => ?_)
  obtain ⟨rfl, rfl⟩ := h9
  refine v_cVr o [] [.ref (a + 1432)] (fun sz => metX2_word l G P f sz (atB (a + 4) p1) (is_atB (wfComp_t1 ha) p1)) (cwX7_74 o.1.2.2.2.2 (by decide)) ⟨_, _, rfl⟩ (by decide) (wfLoaf_o (is_atB (wfComp_t1 ha) p1)) rfl (Nat.le_of_ble_eq_true rfl) ⟨Nat.zero_le _, Nat.zero_le _⟩ dX7_looseSizeIfChanged_12 rfl (fun r12 g12 h12 => ?_)
  obtain ⟨rfl, rfl⟩ := h12
  refine v_iload_n o 2 dX7_looseSizeIfChanged_15 rfl ?_
  refine v_cVv o [.ref ((atB (a + 4) p1) + 1), .int p2] [] (fun sz => metX6_makeChanged l G P f sz (a + 1432) (wfComp_t6 ha) ((atB (a + 4) p1) + 1) (wfLoaf_t0 (is_atB (wfComp_t1 ha) p1)) p2 _ h) (cwX7_276 o.1.2.2.2.2 (by decide)) ⟨_, _, rfl⟩ (by decide) (wfWord_o (wfComp_t6 ha)) rfl (Nat.le_of_ble_eq_true rfl) ⟨Nat.zero_le _, Nat.zero_le _⟩ dX7_looseSizeIfChanged_16 rfl (fun g16 h => ?_)
  refine v_aload_n o 0 dX7_looseSizeIfChanged_19 rfl ?_
  refine v_gfR o lkX7_51 (by decide) (wfComp_o ha) (wfComp_r7 ha) dX7_looseSizeIfChanged_20 ?_
  refine v_aload_n o 0 dX7_looseSizeIfChanged_23 rfl ?_
  refine v_gfR o lkX7_47 (by decide) (wfComp_o ha) (wfComp_r6 ha) dX7_looseSizeIfChanged_24 ?_
  refine v_cVv o [.ref (a + 1432)] [] (fun sz => metX6_makeLoose l G P g16 sz (a + 1435) (wfComp_t7 ha) (a + 1432) (wfComp_t6 ha) _ h) (cwX7_335 o.1.2.2.2.2 (by decide)) ⟨_, _, rfl⟩ (by decide) (wfWord_o (wfComp_t7 ha)) rfl (Nat.le_of_ble_eq_true rfl) ⟨Nat.zero_le _, Nat.zero_le _⟩ dX7_looseSizeIfChanged_27 rfl (fun g27 h => ?_)
  refine v_aload_n o 0 dX7_looseSizeIfChanged_30 rfl ?_
  refine v_gfR o lkX7_51 (by decide) (wfComp_o ha) (wfComp_r7 ha) dX7_looseSizeIfChanged_31 ?_
  refine v_cVi o [] [] (fun sz => metX6_size l G P g27 sz (a + 1435) (wfComp_t7 ha) _ h) (cwX7_106 o.1.2.2.2.2 (by decide)) ⟨_, _, rfl⟩ (by decide) (wfWord_o (wfComp_t7 ha)) rfl (Nat.le_of_ble_eq_true rfl) ⟨Nat.zero_le _, Nat.zero_le _⟩ dX7_looseSizeIfChanged_34 rfl (fun r34 g34 h => ?_)
  exact v_iret o rfl hr dX7_looseSizeIfChanged_37 h
abbrev kX7_looseSizeIfChanged := @vX7_looseSizeIfChanged
abbrev metX7_looseSizeIfChanged := @mX7_looseSizeIfChanged

def bX7_likeness_35 (P : Sk) (a : Nat) (p1 : Int32) (p2 : Int32) (L35 : St → Nat → Int32 → Prop) (K : Int32 → St → Prop) (f : St) (x3 : Nat) (x4 : Int32) : Prop :=
  (2 < x4 → K 0 f) ∧ (¬ 2 < x4 → kX6_makeChanged P f (a + 1432) ((atB (a + 4) p1) + 1) x4 (fun g58 => kX6_makeLoose P g58 (a + 1435) (a + 1432) (fun g69 => kX6_isSame P g69 (a + 1435) x3 (fun r77 g77 => (r77 = 0 → ∀ x4_88 : Int32, x4_88 = x4 + 1 → L35 g77 x3 x4_88) ∧ (¬ r77 = 0 → K (2 + x4) g77)))))
def vX7_likeness (P : Sk) (f : St) (a : Nat) (p1 : Int32) (p2 : Int32) (L35 : St → Nat → Int32 → Prop) (K : Int32 → St → Prop) : Prop :=
  kX6_isSame P f ((atB (a + 4) p1) + 4) ((atB (a + 4) p2) + 4) (fun r24 g24 => (r24 = 0 → L35 g24 ((atB (a + 4) p2) + 4) 0) ∧ (¬ r24 = 0 → K 1 g24))
set_option maxRecDepth 20000 in
set_option maxHeartbeats 4000000 in
theorem mX7_likeness (l : Launch) (G : Gl) (P : Sk) (f : St) (sz : Nat) (a : Nat) (ha : IsComp P a) (p1 : Int32) (p2 : Int32) (K : Int32 → St → Prop) (I35 : St → Nat → Int32 → Prop) (μ35 : St → Nat → Int32 → Nat) 
  (h : vX7_likeness P f a p1 p2 I35 K)
  (h35 : ∀ (g : St) (x3 : Nat) (x4 : Int32) , I35 g x3 x4 → bX7_likeness_35 P a p1 p2 (fun g' z0 z1 => I35 g' z0 z1 ∧ μ35 g' z0 z1 < μ35 g x3 x4) K g x3 x4) :
  Met l yX7_likeness (wU yX7_likeness cX7_likeness 5 (some .int)) rmX7_likeness (PcW G P f sz [.ref a, .int p1, .int p2]) (QcI G P sz K) 0 0 (frA P sz) := by
  refine v_met (own := RX7) [.ref a, .int p1, .int p2] (by decide +kernel) rfl (Nat.le_of_ble_eq_true rfl) (fun p e s m args below meth c hsz o hr hnm => ?_)
  refine v_lv (lv2 := [(0, .ref a), (1, .int p1), (2, .int p2)]) rfl ?_
  have main : ∀ n : Nat, (∀ (g : St) (x3 : Nat) (x4 : Int32) , IsWord P x3 → I35 g x3 x4 → μ35 g x3 x4 < n → V p l e rmX7_likeness s m args below meth c 5 G (frA P sz) (MQ below (QcI G P sz K) args s 0 0 (frA P sz)) 0 0 P [(0, .ref a), (1, .int p1), (2, .int p2), (3, .ref x3), (4, .int x4)] [] 35 g) := by
    intro n
    induction n with
    | zero => exact fun g x3 x4 hx3 hI hm => absurd hm (Nat.not_lt_zero _)
    | succ n ih =>
      intro g x3 x4 hx3 hI hm
      have h := h35 g x3 x4 hI
      clear hI
      unfold bX7_likeness_35 at h
      refine v_iload o 4 dX7_likeness_35 rfl ?_
      refine v_iconst o (v := 2) dX7_likeness_37 (by decide) ?_
      refine v_icmp_gt o (tgt := 94) dX7_likeness_38 (by decide) (fun c38 => ?_) (fun c38 => ?_)
      · replace h := h.1 c38
        refine v_iconst o (v := 0) dX7_likeness_94 (by decide) ?_
        exact v_iret o rfl hr dX7_likeness_95 h
      · replace h := h.2 c38
        refine v_aload_n o 0 dX7_likeness_41 rfl ?_
        refine v_gfR o lkX7_47 (by decide) (wfComp_o ha) (wfComp_r6 ha) dX7_likeness_42 ?_
        refine v_aload_n o 0 dX7_likeness_45 rfl ?_
        refine v_gfR o lkX7_19 (by decide) (wfComp_o ha) (wfComp_r1 ha) dX7_likeness_46 ?_
        refine v_iload_n o 1 dX7_likeness_49 rfl ?_
        refine v_cVr o [.int p1] [.ref (a + 1432)] (fun sz => metX0_at l G P g sz (a + 4) (wfComp_t1 ha) p1) (cwX7_102 o.1.2.2.2.2 (by decide)) ⟨_, _, rfl⟩ (by decide) (wfBoard_o (wfComp_t1 ha)) rfl (Nat.le_of_ble_eq_true rfl) ⟨Nat.zero_le _, Nat.zero_le _⟩ dX7_likeness_50 rfl (fun r50 g50 h50 => ?_)
        obtain ⟨rfl, rfl⟩ := h50
        refine v_cVr o [] [.ref (a + 1432)] (fun sz => metX2_word l G P g sz (atB (a + 4) p1) (is_atB (wfComp_t1 ha) p1)) (cwX7_74 o.1.2.2.2.2 (by decide)) ⟨_, _, rfl⟩ (by decide) (wfLoaf_o (is_atB (wfComp_t1 ha) p1)) rfl (Nat.le_of_ble_eq_true rfl) ⟨Nat.zero_le _, Nat.zero_le _⟩ dX7_likeness_53 rfl (fun r53 g53 h53 => ?_)
        obtain ⟨rfl, rfl⟩ := h53
        refine v_iload o 4 dX7_likeness_56 rfl ?_
        refine v_cVv o [.ref ((atB (a + 4) p1) + 1), .int x4] [] (fun sz => metX6_makeChanged l G P g sz (a + 1432) (wfComp_t6 ha) ((atB (a + 4) p1) + 1) (wfLoaf_t0 (is_atB (wfComp_t1 ha) p1)) x4 _ h) (cwX7_276 o.1.2.2.2.2 (by decide)) ⟨_, _, rfl⟩ (by decide) (wfWord_o (wfComp_t6 ha)) rfl (Nat.le_of_ble_eq_true rfl) ⟨Nat.zero_le _, Nat.zero_le _⟩ dX7_likeness_58 rfl (fun g58 h => ?_)
        refine v_aload_n o 0 dX7_likeness_61 rfl ?_
        refine v_gfR o lkX7_51 (by decide) (wfComp_o ha) (wfComp_r7 ha) dX7_likeness_62 ?_
        refine v_aload_n o 0 dX7_likeness_65 rfl ?_
        refine v_gfR o lkX7_47 (by decide) (wfComp_o ha) (wfComp_r6 ha) dX7_likeness_66 ?_
        refine v_cVv o [.ref (a + 1432)] [] (fun sz => metX6_makeLoose l G P g58 sz (a + 1435) (wfComp_t7 ha) (a + 1432) (wfComp_t6 ha) _ h) (cwX7_335 o.1.2.2.2.2 (by decide)) ⟨_, _, rfl⟩ (by decide) (wfWord_o (wfComp_t7 ha)) rfl (Nat.le_of_ble_eq_true rfl) ⟨Nat.zero_le _, Nat.zero_le _⟩ dX7_likeness_69 rfl (fun g69 h => ?_)
        refine v_aload_n o 0 dX7_likeness_72 rfl ?_
        refine v_gfR o lkX7_51 (by decide) (wfComp_o ha) (wfComp_r7 ha) dX7_likeness_73 ?_
        refine v_aload_n o 3 dX7_likeness_76 rfl ?_
        refine v_cVi o [.ref x3] [] (fun sz => metX6_isSame l G P g69 sz (a + 1435) (wfComp_t7 ha) x3 hx3 _ h) (cwX7_331 o.1.2.2.2.2 (by decide)) ⟨_, _, rfl⟩ (by decide) (wfWord_o (wfComp_t7 ha)) rfl (Nat.le_of_ble_eq_true rfl) ⟨Nat.zero_le _, Nat.zero_le _⟩ dX7_likeness_77 rfl (fun r77 g77 h => ?_)
        refine v_if_eq o (tgt := 88) dX7_likeness_80 (by decide) (fun c80 => ?_) (fun c80 => ?_)
        · replace h := h.1 c80
          obtain ⟨x4_88, ex4_88⟩ : ∃ y : Int32, y = x4 + 1 := ⟨_, rfl⟩
          replace h := h x4_88 ex4_88
          refine v_iinc o (v := x4_88) (lv' := [(4, .int x4_88), (0, .ref a), (1, .int p1), (2, .int p2), (3, .ref x3)]) 4 dX7_likeness_88 rfl (by rw [ex4_88]; rfl) (by decide) rfl ?_
          refine v_goto o (tgt := 35) dX7_likeness_91 (by decide) ?_
          refine v_sub [1, 2, 3, 4, 0] (lv2 := [(0, .ref a), (1, .int p1), (2, .int p2), (3, .ref x3), (4, .int x4_88)]) rfl ?_
          exact ih g77 x3 x4_88 hx3 h.1 (by have := h.2; omega)
        · replace h := h.2 c80
          refine v_iconst o (v := 2) dX7_likeness_83 (by decide) ?_
          refine v_iload o 4 dX7_likeness_84 rfl ?_
          refine v_iadd o dX7_likeness_86 ?_
          exact v_iret o rfl hr dX7_likeness_87 h
  unfold vX7_likeness at h
  refine v_aload_n o 0 dX7_likeness_0 rfl ?_
  refine v_gfR o lkX7_19 (by decide) (wfComp_o ha) (wfComp_r1 ha) dX7_likeness_1 ?_
  refine v_iload_n o 2 dX7_likeness_4 rfl ?_
  refine v_cVr o [.int p2] [] (fun sz => metX0_at l G P f sz (a + 4) (wfComp_t1 ha) p2) (cwX7_102 o.1.2.2.2.2 (by decide)) ⟨_, _, rfl⟩ (by decide) (wfBoard_o (wfComp_t1 ha)) rfl (Nat.le_of_ble_eq_true rfl) ⟨Nat.zero_le _, Nat.zero_le _⟩ dX7_likeness_5 rfl (fun r5 g5 h5 => ?_)
  obtain ⟨rfl, rfl⟩ := h5
  refine v_cVr o [] [] (fun sz => metX2_looseWord l G P f sz (atB (a + 4) p2) (is_atB (wfComp_t1 ha) p2)) (cwX7_206 o.1.2.2.2.2 (by decide)) ⟨_, _, rfl⟩ (by decide) (wfLoaf_o (is_atB (wfComp_t1 ha) p2)) rfl (Nat.le_of_ble_eq_true rfl) ⟨Nat.zero_le _, Nat.zero_le _⟩ dX7_likeness_8 rfl (fun r8 g8 h8 => ?_)
  obtain ⟨rfl, rfl⟩ := h8
  refine v_astore_n o (lv' := [(3, .ref ((atB (a + 4) p2) + 4)), (0, .ref a), (1, .int p1), (2, .int p2)]) dX7_likeness_11 rfl (by decide) rfl ?_
  refine v_aload_n o 1 dX7_likeness_12 rfl ?_
  refine v_gfR o lkX7_19 (by decide) (wfComp_o ha) (wfComp_r1 ha) dX7_likeness_13 ?_
  refine v_iload_n o 2 dX7_likeness_16 rfl ?_
  refine v_cVr o [.int p1] [] (fun sz => metX0_at l G P f sz (a + 4) (wfComp_t1 ha) p1) (cwX7_102 o.1.2.2.2.2 (by decide)) ⟨_, _, rfl⟩ (by decide) (wfBoard_o (wfComp_t1 ha)) rfl (Nat.le_of_ble_eq_true rfl) ⟨Nat.zero_le _, Nat.zero_le _⟩ dX7_likeness_17 rfl (fun r17 g17 h17 => ?_)
  obtain ⟨rfl, rfl⟩ := h17
  refine v_cVr o [] [] (fun sz => metX2_looseWord l G P f sz (atB (a + 4) p1) (is_atB (wfComp_t1 ha) p1)) (cwX7_206 o.1.2.2.2.2 (by decide)) ⟨_, _, rfl⟩ (by decide) (wfLoaf_o (is_atB (wfComp_t1 ha) p1)) rfl (Nat.le_of_ble_eq_true rfl) ⟨Nat.zero_le _, Nat.zero_le _⟩ dX7_likeness_20 rfl (fun r20 g20 h20 => ?_)
  obtain ⟨rfl, rfl⟩ := h20
  refine v_aload_n o 0 dX7_likeness_23 rfl ?_
  refine v_cVi o [.ref ((atB (a + 4) p2) + 4)] [] (fun sz => metX6_isSame l G P f sz ((atB (a + 4) p1) + 4) (wfLoaf_t1 (is_atB (wfComp_t1 ha) p1)) ((atB (a + 4) p2) + 4) (wfLoaf_t1 (is_atB (wfComp_t1 ha) p2)) _ h) (cwX7_331 o.1.2.2.2.2 (by decide)) ⟨_, _, rfl⟩ (by decide) (wfWord_o (wfLoaf_t1 (is_atB (wfComp_t1 ha) p1))) rfl (Nat.le_of_ble_eq_true rfl) ⟨Nat.zero_le _, Nat.zero_le _⟩ dX7_likeness_24 rfl (fun r24 g24 h => ?_)
  refine v_if_eq o (tgt := 32) dX7_likeness_27 (by decide) (fun c27 => ?_) (fun c27 => ?_)
  · replace h := h.1 c27
    refine v_iconst o (v := 0) dX7_likeness_32 (by decide) ?_
    refine v_istore o (lv' := [(4, .int 0), (3, .ref ((atB (a + 4) p2) + 4)), (0, .ref a), (1, .int p1), (2, .int p2)]) dX7_likeness_33 (by decide) rfl ?_
    refine v_sub [2, 3, 4, 1, 0] (lv2 := [(0, .ref a), (1, .int p1), (2, .int p2), (3, .ref ((atB (a + 4) p2) + 4)), (4, .int 0)]) rfl ?_
    exact (main (μ35 g24 ((atB (a + 4) p2) + 4) 0 + 1)) g24 ((atB (a + 4) p2) + 4) 0 (wfLoaf_t1 (is_atB (wfComp_t1 ha) p2)) h (Nat.lt_succ_self _)
  · replace h := h.2 c27
    refine v_iconst o (v := 1) dX7_likeness_30 (by decide) ?_
    exact v_iret o rfl hr dX7_likeness_31 h
def kX7_likeness (P : Sk) (f : St) (a : Nat) (p1 : Int32) (p2 : Int32) (K : Int32 → St → Prop) : Prop := False
theorem metX7_likeness (l : Launch) (G : Gl) (P : Sk) (f : St) (sz : Nat) (a : Nat) (ha : IsComp P a) (p1 : Int32) (p2 : Int32) (K : Int32 → St → Prop) (h : kX7_likeness P f a p1 p2 K) : Met l yX7_likeness (wU yX7_likeness cX7_likeness 5 (some .int)) rmX7_likeness (PcW G P f sz [.ref a, .int p1, .int p2]) (QcI G P sz K) 0 0 (frA P sz) := sorry

def bX7_hashOfLoaf_6 (P : Sk) (a : Nat) (p1 : Int64) (p3 : Int32) (L6 : St → Int64 → Int32 → Prop) (L63 : St → Int64 → Int32 → Prop) (L110 : St → Int64 → Int32 → Prop) (K : Int64 → St → Prop) (f : St) (x4 : Int64) (x6 : Int32) : Prop :=
  (10 < x6 → kX5_timesUntilHome P f ((atB (a + 4) p3) + 7) (fun r53 g53 => ∀ x4_58 : Int64, x4_58 = (31 * x4) + (r53.toInt64) → L63 g53 x4_58 0)) ∧ (¬ 10 < x6 → kX7_numberOfLoaf P f a p3 x6 (fun r23 g23 => ∀ x4_28 : Int64, x4_28 = (31 * x4) + (r23.toInt64) → ∀ x6_30 : Int32, x6_30 = x6 + 1 → L6 g23 x4_28 x6_30))
def bX7_hashOfLoaf_63 (P : Sk) (a : Nat) (p1 : Int64) (p3 : Int32) (L6 : St → Int64 → Int32 → Prop) (L63 : St → Int64 → Int32 → Prop) (L110 : St → Int64 → Int32 → Prop) (K : Int64 → St → Prop) (f : St) (x4 : Int64) (x6 : Int32) : Prop :=
  (3 < x6 → kX2_hashOfParts P f (atB (a + 4) p3) x4 (fun r102 g102 => L110 g102 r102 0)) ∧ (¬ 3 < x6 → kX7_looseSizeIfChanged P f a p3 x6 (fun r79 g79 => ∀ x4_84 : Int64, x4_84 = (31 * x4) + (r79.toInt64) → ∀ x6_86 : Int32, x6_86 = x6 + 1 → L63 g79 x4_84 x6_86))
def bX7_hashOfLoaf_110 (P : Sk) (a : Nat) (p1 : Int64) (p3 : Int32) (L6 : St → Int64 → Int32 → Prop) (L63 : St → Int64 → Int32 → Prop) (L110 : St → Int64 → Int32 → Prop) (K : Int64 → St → Prop) (f : St) (x4 : Int64) (x6 : Int32) : Prop :=
  kX0_size P f (a + 4) (fun r116 g116 => (r116 ≤ x6 → K x4 g116) ∧ (¬ r116 ≤ x6 → kX7_likeness P g116 a p3 x6 (fun r132 g132 => ∀ x4_137 : Int64, x4_137 = (31 * x4) + (r132.toInt64) → ∀ x6_139 : Int32, x6_139 = x6 + 1 → L110 g132 x4_137 x6_139)))
def vX7_hashOfLoaf (P : Sk) (f : St) (a : Nat) (p1 : Int64) (p3 : Int32) (L6 : St → Int64 → Int32 → Prop) (L63 : St → Int64 → Int32 → Prop) (L110 : St → Int64 → Int32 → Prop) (K : Int64 → St → Prop) : Prop :=
  L6 f p1 0
set_option maxRecDepth 20000 in
set_option maxHeartbeats 4000000 in
theorem mX7_hashOfLoaf (l : Launch) (G : Gl) (P : Sk) (f : St) (sz : Nat) (a : Nat) (ha : IsComp P a) (p1 : Int64) (p3 : Int32) (K : Int64 → St → Prop) (I6 : St → Int64 → Int32 → Prop) (μ6 : St → Int64 → Int32 → Nat) (I63 : St → Int64 → Int32 → Prop) (μ63 : St → Int64 → Int32 → Nat) (I110 : St → Int64 → Int32 → Prop) (μ110 : St → Int64 → Int32 → Nat) 
  (h : vX7_hashOfLoaf P f a p1 p3 I6 I63 I110 K)
  (h6 : ∀ (g : St) (x4 : Int64) (x6 : Int32) , I6 g x4 x6 → bX7_hashOfLoaf_6 P a p1 p3 (fun g' z0 z1 => I6 g' z0 z1 ∧ μ6 g' z0 z1 < μ6 g x4 x6) (fun g' z0 z1 => I63 g' z0 z1 ∧ μ63 g' z0 z1 < μ6 g x4 x6) (fun g' z0 z1 => I110 g' z0 z1 ∧ μ110 g' z0 z1 < μ6 g x4 x6) K g x4 x6)
  (h63 : ∀ (g : St) (x4 : Int64) (x6 : Int32) , I63 g x4 x6 → bX7_hashOfLoaf_63 P a p1 p3 (fun g' z0 z1 => I6 g' z0 z1 ∧ μ6 g' z0 z1 < μ63 g x4 x6) (fun g' z0 z1 => I63 g' z0 z1 ∧ μ63 g' z0 z1 < μ63 g x4 x6) (fun g' z0 z1 => I110 g' z0 z1 ∧ μ110 g' z0 z1 < μ63 g x4 x6) K g x4 x6)
  (h110 : ∀ (g : St) (x4 : Int64) (x6 : Int32) , I110 g x4 x6 → bX7_hashOfLoaf_110 P a p1 p3 (fun g' z0 z1 => I6 g' z0 z1 ∧ μ6 g' z0 z1 < μ110 g x4 x6) (fun g' z0 z1 => I63 g' z0 z1 ∧ μ63 g' z0 z1 < μ110 g x4 x6) (fun g' z0 z1 => I110 g' z0 z1 ∧ μ110 g' z0 z1 < μ110 g x4 x6) K g x4 x6) :
  Met l yX7_hashOfLoaf (wU yX7_hashOfLoaf cX7_hashOfLoaf 7 (some .long)) rmX7_hashOfLoaf (PcW G P f sz [.ref a, .long p1, .int p3]) (QcL G P sz K) 0 0 (frA P sz) := by
  refine v_met (own := RX7) [.ref a, .long p1, .int p3] (by decide +kernel) rfl (Nat.le_of_ble_eq_true rfl) (fun p e s m args below meth c hsz o hr hnm => ?_)
  refine v_lv (lv2 := [(0, .ref a), (1, .long p1), (3, .int p3)]) rfl ?_
  have main : ∀ n : Nat, (∀ (g : St) (x4 : Int64) (x6 : Int32) , I6 g x4 x6 → μ6 g x4 x6 < n → V p l e rmX7_hashOfLoaf s m args below meth c 7 G (frA P sz) (MQ below (QcL G P sz K) args s 0 0 (frA P sz)) 0 0 P [(0, .ref a), (1, .long p1), (3, .int p3), (4, .long x4), (6, .int x6)] [] 6 g) ∧ (∀ (g : St) (x4 : Int64) (x6 : Int32) , I63 g x4 x6 → μ63 g x4 x6 < n → V p l e rmX7_hashOfLoaf s m args below meth c 7 G (frA P sz) (MQ below (QcL G P sz K) args s 0 0 (frA P sz)) 0 0 P [(0, .ref a), (1, .long p1), (3, .int p3), (4, .long x4), (6, .int x6)] [] 63 g) ∧ (∀ (g : St) (x4 : Int64) (x6 : Int32) , I110 g x4 x6 → μ110 g x4 x6 < n → V p l e rmX7_hashOfLoaf s m args below meth c 7 G (frA P sz) (MQ below (QcL G P sz K) args s 0 0 (frA P sz)) 0 0 P [(0, .ref a), (1, .long p1), (3, .int p3), (4, .long x4), (6, .int x6)] [] 110 g) := by
    intro n
    induction n with
    | zero => exact ⟨fun g x4 x6 hI hm => absurd hm (Nat.not_lt_zero _), fun g x4 x6 hI hm => absurd hm (Nat.not_lt_zero _), fun g x4 x6 hI hm => absurd hm (Nat.not_lt_zero _)⟩
    | succ n ih =>
      refine ⟨?_, ?_, ?_⟩
      · intro g x4 x6 hI hm
        have h := h6 g x4 x6 hI
        clear hI
        unfold bX7_hashOfLoaf_6 at h
        refine v_iload o 4 dX7_hashOfLoaf_6 rfl ?_
        refine v_bipush o (v := 10) dX7_hashOfLoaf_8 (by decide) ?_
        refine v_icmp_gt o (tgt := 36) dX7_hashOfLoaf_10 (by decide) (fun c10 => ?_) (fun c10 => ?_)
        · replace h := h.1 c10
          refine v_ldc2 o (v := 31) dX7_hashOfLoaf_36 (mU 396 (by decide +kernel) rfl) ?_
          refine v_lload o 3 dX7_hashOfLoaf_39 rfl ?_
          refine v_lmul o dX7_hashOfLoaf_41 ?_
          refine v_aload_n o 0 dX7_hashOfLoaf_42 rfl ?_
          refine v_gfR o lkX7_19 (by decide) (wfComp_o ha) (wfComp_r1 ha) dX7_hashOfLoaf_43 ?_
          refine v_iload_n o 2 dX7_hashOfLoaf_46 rfl ?_
          refine v_cVr o [.int p3] [.long (31 * x4)] (fun sz => metX0_at l G P g sz (a + 4) (wfComp_t1 ha) p3) (cwX7_102 o.1.2.2.2.2 (by decide)) ⟨_, _, rfl⟩ (by decide) (wfBoard_o (wfComp_t1 ha)) rfl (Nat.le_of_ble_eq_true rfl) ⟨Nat.zero_le _, Nat.zero_le _⟩ dX7_hashOfLoaf_47 rfl (fun r47 g47 h47 => ?_)
          obtain ⟨rfl, rfl⟩ := h47
          refine v_cVr o [] [.long (31 * x4)] (fun sz => metX2_trace l G P g sz (atB (a + 4) p3) (is_atB (wfComp_t1 ha) p3)) (cwX7_124 o.1.2.2.2.2 (by decide)) ⟨_, _, rfl⟩ (by decide) (wfLoaf_o (is_atB (wfComp_t1 ha) p3)) rfl (Nat.le_of_ble_eq_true rfl) ⟨Nat.zero_le _, Nat.zero_le _⟩ dX7_hashOfLoaf_50 rfl (fun r50 g50 h50 => ?_)
          obtain ⟨rfl, rfl⟩ := h50
          refine v_cVi o [] [.long (31 * x4)] (fun sz => metX5_timesUntilHome l G P g sz ((atB (a + 4) p3) + 7) (wfLoaf_t2 (is_atB (wfComp_t1 ha) p3)) _ h) (cwX7_221 o.1.2.2.2.2 (by decide)) ⟨_, _, rfl⟩ (by decide) (wfTrace_o (wfLoaf_t2 (is_atB (wfComp_t1 ha) p3))) rfl (Nat.le_of_ble_eq_true rfl) ⟨Nat.zero_le _, Nat.zero_le _⟩ dX7_hashOfLoaf_53 rfl (fun r53 g53 h => ?_)
          refine v_i2l o dX7_hashOfLoaf_56 ?_
          refine v_ladd o dX7_hashOfLoaf_57 ?_
          refine v_topl (fun x4_58 ex4_58 => ?_)
          replace h := h x4_58 ex4_58
          refine v_lstore o (lv' := [(4, .long x4_58), (0, .ref a), (1, .long p1), (3, .int p3), (6, .int x6)]) dX7_hashOfLoaf_58 (by decide) rfl ?_
          refine v_iconst o (v := 0) dX7_hashOfLoaf_60 (by decide) ?_
          refine v_istore o (lv' := [(6, .int 0), (4, .long x4_58), (0, .ref a), (1, .long p1), (3, .int p3)]) dX7_hashOfLoaf_61 (by decide) rfl ?_
          refine v_sub [2, 3, 4, 1, 0] (lv2 := [(0, .ref a), (1, .long p1), (3, .int p3), (4, .long x4_58), (6, .int 0)]) rfl ?_
          exact ih.2.1 g53 x4_58 0  h.1 (by have := h.2; omega)
        · replace h := h.2 c10
          refine v_ldc2 o (v := 31) dX7_hashOfLoaf_13 (mU 396 (by decide +kernel) rfl) ?_
          refine v_lload o 3 dX7_hashOfLoaf_16 rfl ?_
          refine v_lmul o dX7_hashOfLoaf_18 ?_
          refine v_aload_n o 0 dX7_hashOfLoaf_19 rfl ?_
          refine v_iload_n o 2 dX7_hashOfLoaf_20 rfl ?_
          refine v_iload o 4 dX7_hashOfLoaf_21 rfl ?_
          refine v_cVi o [.int p3, .int x6] [.long (31 * x4)] (fun sz => metX7_numberOfLoaf l G P g sz a ha p3 x6 _ h) (cwX7_203 o.1.2.2.2.2 (by decide)) ⟨_, _, rfl⟩ (by decide) (wfComp_o ha) rfl (Nat.le_of_ble_eq_true rfl) ⟨Nat.zero_le _, Nat.zero_le _⟩ dX7_hashOfLoaf_23 rfl (fun r23 g23 h => ?_)
          refine v_i2l o dX7_hashOfLoaf_26 ?_
          refine v_ladd o dX7_hashOfLoaf_27 ?_
          refine v_topl (fun x4_28 ex4_28 => ?_)
          replace h := h x4_28 ex4_28
          refine v_lstore o (lv' := [(4, .long x4_28), (0, .ref a), (1, .long p1), (3, .int p3), (6, .int x6)]) dX7_hashOfLoaf_28 (by decide) rfl ?_
          obtain ⟨x6_30, ex6_30⟩ : ∃ y : Int32, y = x6 + 1 := ⟨_, rfl⟩
          replace h := h x6_30 ex6_30
          refine v_iinc o (v := x6_30) (lv' := [(6, .int x6_30), (4, .long x4_28), (0, .ref a), (1, .long p1), (3, .int p3)]) 4 dX7_hashOfLoaf_30 rfl (by rw [ex6_30]; rfl) (by decide) rfl ?_
          refine v_goto o (tgt := 6) dX7_hashOfLoaf_33 (by decide) ?_
          refine v_sub [2, 3, 4, 1, 0] (lv2 := [(0, .ref a), (1, .long p1), (3, .int p3), (4, .long x4_28), (6, .int x6_30)]) rfl ?_
          exact ih.1 g23 x4_28 x6_30  h.1 (by have := h.2; omega)
      · intro g x4 x6 hI hm
        have h := h63 g x4 x6 hI
        clear hI
        unfold bX7_hashOfLoaf_63 at h
        refine v_iload o 4 dX7_hashOfLoaf_63 rfl ?_
        refine v_iconst o (v := 3) dX7_hashOfLoaf_65 (by decide) ?_
        refine v_icmp_gt o (tgt := 92) dX7_hashOfLoaf_66 (by decide) (fun c66 => ?_) (fun c66 => ?_)
        · replace h := h.1 c66
          refine v_aload_n o 0 dX7_hashOfLoaf_92 rfl ?_
          refine v_gfR o lkX7_19 (by decide) (wfComp_o ha) (wfComp_r1 ha) dX7_hashOfLoaf_93 ?_
          refine v_iload_n o 2 dX7_hashOfLoaf_96 rfl ?_
          refine v_cVr o [.int p3] [] (fun sz => metX0_at l G P g sz (a + 4) (wfComp_t1 ha) p3) (cwX7_102 o.1.2.2.2.2 (by decide)) ⟨_, _, rfl⟩ (by decide) (wfBoard_o (wfComp_t1 ha)) rfl (Nat.le_of_ble_eq_true rfl) ⟨Nat.zero_le _, Nat.zero_le _⟩ dX7_hashOfLoaf_97 rfl (fun r97 g97 h97 => ?_)
          obtain ⟨rfl, rfl⟩ := h97
          refine v_lload o 3 dX7_hashOfLoaf_100 rfl ?_
          refine v_cVl o [.long x4] [] (fun sz => metX2_hashOfParts l G P g sz (atB (a + 4) p3) (is_atB (wfComp_t1 ha) p3) x4 _ h) (cwX7_338 o.1.2.2.2.2 (by decide)) ⟨_, _, rfl⟩ (by decide) (wfLoaf_o (is_atB (wfComp_t1 ha) p3)) rfl (Nat.le_of_ble_eq_true rfl) ⟨Nat.zero_le _, Nat.zero_le _⟩ dX7_hashOfLoaf_102 rfl (fun r102 g102 h => ?_)
          refine v_lstore o (lv' := [(4, .long r102), (0, .ref a), (1, .long p1), (3, .int p3), (6, .int x6)]) dX7_hashOfLoaf_105 (by decide) rfl ?_
          refine v_iconst o (v := 0) dX7_hashOfLoaf_107 (by decide) ?_
          refine v_istore o (lv' := [(6, .int 0), (4, .long r102), (0, .ref a), (1, .long p1), (3, .int p3)]) dX7_hashOfLoaf_108 (by decide) rfl ?_
          refine v_sub [2, 3, 4, 1, 0] (lv2 := [(0, .ref a), (1, .long p1), (3, .int p3), (4, .long r102), (6, .int 0)]) rfl ?_
          exact ih.2.2 g102 r102 0  h.1 (by have := h.2; omega)
        · replace h := h.2 c66
          refine v_ldc2 o (v := 31) dX7_hashOfLoaf_69 (mU 396 (by decide +kernel) rfl) ?_
          refine v_lload o 3 dX7_hashOfLoaf_72 rfl ?_
          refine v_lmul o dX7_hashOfLoaf_74 ?_
          refine v_aload_n o 0 dX7_hashOfLoaf_75 rfl ?_
          refine v_iload_n o 2 dX7_hashOfLoaf_76 rfl ?_
          refine v_iload o 4 dX7_hashOfLoaf_77 rfl ?_
          refine v_cVi o [.int p3, .int x6] [.long (31 * x4)] (fun sz => metX7_looseSizeIfChanged l G P g sz a ha p3 x6 _ h) (cwX7_215 o.1.2.2.2.2 (by decide)) ⟨_, _, rfl⟩ (by decide) (wfComp_o ha) rfl (Nat.le_of_ble_eq_true rfl) ⟨Nat.zero_le _, Nat.zero_le _⟩ dX7_hashOfLoaf_79 rfl (fun r79 g79 h => ?_)
          refine v_i2l o dX7_hashOfLoaf_82 ?_
          refine v_ladd o dX7_hashOfLoaf_83 ?_
          refine v_topl (fun x4_84 ex4_84 => ?_)
          replace h := h x4_84 ex4_84
          refine v_lstore o (lv' := [(4, .long x4_84), (0, .ref a), (1, .long p1), (3, .int p3), (6, .int x6)]) dX7_hashOfLoaf_84 (by decide) rfl ?_
          obtain ⟨x6_86, ex6_86⟩ : ∃ y : Int32, y = x6 + 1 := ⟨_, rfl⟩
          replace h := h x6_86 ex6_86
          refine v_iinc o (v := x6_86) (lv' := [(6, .int x6_86), (4, .long x4_84), (0, .ref a), (1, .long p1), (3, .int p3)]) 4 dX7_hashOfLoaf_86 rfl (by rw [ex6_86]; rfl) (by decide) rfl ?_
          refine v_goto o (tgt := 63) dX7_hashOfLoaf_89 (by decide) ?_
          refine v_sub [2, 3, 4, 1, 0] (lv2 := [(0, .ref a), (1, .long p1), (3, .int p3), (4, .long x4_84), (6, .int x6_86)]) rfl ?_
          exact ih.2.1 g79 x4_84 x6_86  h.1 (by have := h.2; omega)
      · intro g x4 x6 hI hm
        have h := h110 g x4 x6 hI
        clear hI
        unfold bX7_hashOfLoaf_110 at h
        refine v_iload o 4 dX7_hashOfLoaf_110 rfl ?_
        refine v_aload_n o 0 dX7_hashOfLoaf_112 rfl ?_
        refine v_gfR o lkX7_19 (by decide) (wfComp_o ha) (wfComp_r1 ha) dX7_hashOfLoaf_113 ?_
        refine v_cVi o [] [.int x6] (fun sz => metX0_size l G P g sz (a + 4) (wfComp_t1 ha) _ h) (cwX7_65 o.1.2.2.2.2 (by decide)) ⟨_, _, rfl⟩ (by decide) (wfBoard_o (wfComp_t1 ha)) rfl (Nat.le_of_ble_eq_true rfl) ⟨Nat.zero_le _, Nat.zero_le _⟩ dX7_hashOfLoaf_116 rfl (fun r116 g116 h => ?_)
        refine v_icmp_ge o (tgt := 145) dX7_hashOfLoaf_119 (by decide) (fun c119 => ?_) (fun c119 => ?_)
        · replace h := h.1 c119
          refine v_lload o 3 dX7_hashOfLoaf_145 rfl ?_
          exact v_lret o rfl hr dX7_hashOfLoaf_147 h
        · replace h := h.2 c119
          refine v_ldc2 o (v := 31) dX7_hashOfLoaf_122 (mU 396 (by decide +kernel) rfl) ?_
          refine v_lload o 3 dX7_hashOfLoaf_125 rfl ?_
          refine v_lmul o dX7_hashOfLoaf_127 ?_
          refine v_aload_n o 0 dX7_hashOfLoaf_128 rfl ?_
          refine v_iload_n o 2 dX7_hashOfLoaf_129 rfl ?_
          refine v_iload o 4 dX7_hashOfLoaf_130 rfl ?_
          refine v_cVi o [.int p3, .int x6] [.long (31 * x4)] (fun sz => metX7_likeness l G P g116 sz a ha p3 x6 _ h) (cwX7_218 o.1.2.2.2.2 (by decide)) ⟨_, _, rfl⟩ (by decide) (wfComp_o ha) rfl (Nat.le_of_ble_eq_true rfl) ⟨Nat.zero_le _, Nat.zero_le _⟩ dX7_hashOfLoaf_132 rfl (fun r132 g132 h => ?_)
          refine v_i2l o dX7_hashOfLoaf_135 ?_
          refine v_ladd o dX7_hashOfLoaf_136 ?_
          refine v_topl (fun x4_137 ex4_137 => ?_)
          replace h := h x4_137 ex4_137
          refine v_lstore o (lv' := [(4, .long x4_137), (0, .ref a), (1, .long p1), (3, .int p3), (6, .int x6)]) dX7_hashOfLoaf_137 (by decide) rfl ?_
          obtain ⟨x6_139, ex6_139⟩ : ∃ y : Int32, y = x6 + 1 := ⟨_, rfl⟩
          replace h := h x6_139 ex6_139
          refine v_iinc o (v := x6_139) (lv' := [(6, .int x6_139), (4, .long x4_137), (0, .ref a), (1, .long p1), (3, .int p3)]) 4 dX7_hashOfLoaf_139 rfl (by rw [ex6_139]; rfl) (by decide) rfl ?_
          refine v_goto o (tgt := 110) dX7_hashOfLoaf_142 (by decide) ?_
          refine v_sub [2, 3, 4, 1, 0] (lv2 := [(0, .ref a), (1, .long p1), (3, .int p3), (4, .long x4_137), (6, .int x6_139)]) rfl ?_
          exact ih.2.2 g132 x4_137 x6_139  h.1 (by have := h.2; omega)
  unfold vX7_hashOfLoaf at h
  refine v_lload_n o 1 dX7_hashOfLoaf_0 rfl ?_
  refine v_lstore o (lv' := [(4, .long p1), (0, .ref a), (1, .long p1), (3, .int p3)]) dX7_hashOfLoaf_1 (by decide) rfl ?_
  refine v_iconst o (v := 0) dX7_hashOfLoaf_3 (by decide) ?_
  refine v_istore o (lv' := [(6, .int 0), (4, .long p1), (0, .ref a), (1, .long p1), (3, .int p3)]) dX7_hashOfLoaf_4 (by decide) rfl ?_
  refine v_sub [2, 3, 4, 1, 0] (lv2 := [(0, .ref a), (1, .long p1), (3, .int p3), (4, .long p1), (6, .int 0)]) rfl ?_
  exact (main (μ6 f p1 0 + 1)).1 f p1 0  h (Nat.lt_succ_self _)
def kX7_hashOfLoaf (P : Sk) (f : St) (a : Nat) (p1 : Int64) (p3 : Int32) (K : Int64 → St → Prop) : Prop := False
theorem metX7_hashOfLoaf (l : Launch) (G : Gl) (P : Sk) (f : St) (sz : Nat) (a : Nat) (ha : IsComp P a) (p1 : Int64) (p3 : Int32) (K : Int64 → St → Prop) (h : kX7_hashOfLoaf P f a p1 p3 K) : Met l yX7_hashOfLoaf (wU yX7_hashOfLoaf cX7_hashOfLoaf 7 (some .long)) rmX7_hashOfLoaf (PcW G P f sz [.ref a, .long p1, .int p3]) (QcL G P sz K) 0 0 (frA P sz) := sorry

def jX7_bitsOfShare_50 (P : Sk) (p0 : UInt64) (L18 : St → UInt64 → Int64 → Int32 → Prop) (K : Int64 → St → Prop) (x2 : UInt64) (x4 : Int64) (x6 : Int32) (f : St) : Prop :=
  vf_n64 (FP.dsub x2 (FP.dconst1)) ∧ (vf_n64 (FP.dmul (FP.dsub x2 (FP.dconst1)) (4841369599423283200 : UInt64)) ∧ (∀ x6_58 : Int64, x6_58 = FP.d2l (FP.dmul (FP.dsub x2 (FP.dconst1)) (4841369599423283200 : UInt64)) → K ((x4 <<< ((52 : Int32).toInt64 &&& 63)) + x6_58) f))
def bX7_bitsOfShare_18 (P : Sk) (p0 : UInt64) (L18 : St → UInt64 → Int64 → Int32 → Prop) (K : Int64 → St → Prop) (f : St) (x2 : UInt64) (x4 : Int64) (x6 : Int32) : Prop :=
  (1023 ≤ x6 → jX7_bitsOfShare_50 P p0 L18 K x2 x4 x6 f) ∧ (¬ 1023 ≤ x6 → (0 ≤ Op.cmpValue (FP.dcmp x2 (FP.dconst1)) .g → jX7_bitsOfShare_50 P p0 L18 K x2 x4 x6 f) ∧ (¬ 0 ≤ Op.cmpValue (FP.dcmp x2 (FP.dconst1)) .g → vf_n64 (FP.dmul x2 (4611686018427387904 : UInt64)) ∧ (∀ x2_37 : UInt64, x2_37 = FP.dmul x2 (4611686018427387904 : UInt64) → ∀ x4_42 : Int64, x4_42 = x4 - 1 → ∀ x6_44 : Int32, x6_44 = x6 + 1 → L18 f x2_37 x4_42 x6_44)))
def vX7_bitsOfShare (P : Sk) (f : St) (p0 : UInt64) (L18 : St → UInt64 → Int64 → Int32 → Prop) (K : Int64 → St → Prop) : Prop :=
  (0 < Op.cmpValue (FP.dcmp p0 (FP.dconst0)) .g → L18 f p0 1023 0) ∧ (¬ 0 < Op.cmpValue (FP.dcmp p0 (FP.dconst0)) .g → K 0 f)
set_option maxRecDepth 20000 in
set_option maxHeartbeats 4000000 in
theorem mX7_bitsOfShare (l : Launch) (G : Gl) (P : Sk) (f : St) (sz : Nat) (p0 : UInt64) (K : Int64 → St → Prop) (I18 : St → UInt64 → Int64 → Int32 → Prop) (μ18 : St → UInt64 → Int64 → Int32 → Nat) 
  (h : vX7_bitsOfShare P f p0 I18 K)
  (h18 : ∀ (g : St) (x2 : UInt64) (x4 : Int64) (x6 : Int32) , I18 g x2 x4 x6 → bX7_bitsOfShare_18 P p0 (fun g' z0 z1 z2 => I18 g' z0 z1 z2 ∧ μ18 g' z0 z1 z2 < μ18 g x2 x4 x6) K g x2 x4 x6) :
  Met l yX7_bitsOfShare (wU yX7_bitsOfShare cX7_bitsOfShare 8 (some .long)) rmX7_bitsOfShare (PcW G P f sz [.double p0]) (QcL G P sz K) 0 0 (frA P sz) := by
  refine v_met (own := RX7) [.double p0] (by decide +kernel) rfl (Nat.le_of_ble_eq_true rfl) (fun p e s m args below meth c hsz o hr hnm => ?_)
  refine v_lv (lv2 := [(0, .double p0)]) rfl ?_
  have main : ∀ n : Nat, (∀ (g : St) (x2 : UInt64) (x4 : Int64) (x6 : Int32) , I18 g x2 x4 x6 → μ18 g x2 x4 x6 < n → V p l e rmX7_bitsOfShare s m args below meth c 8 G (frA P sz) (MQ below (QcL G P sz K) args s 0 0 (frA P sz)) 0 0 P [(0, .double p0), (2, .double x2), (4, .long x4), (6, .int x6)] [] 18 g) := by
    intro n
    induction n with
    | zero => exact fun g x2 x4 x6 hI hm => absurd hm (Nat.not_lt_zero _)
    | succ n ih =>
      intro g x2 x4 x6 hI hm
      have h := h18 g x2 x4 x6 hI
      clear hI
      have J50 : ∀ (x2_50 : UInt64) (x4_50 : Int64) (x6_50 : Int32) (g50 : St), jX7_bitsOfShare_50 P p0 (fun g' z0 z1 z2 => I18 g' z0 z1 z2 ∧ μ18 g' z0 z1 z2 < μ18 g x2 x4 x6) K x2_50 x4_50 x6_50 g50 → V p l e rmX7_bitsOfShare s m args below meth c 8 G (frA P sz) (MQ below (QcL G P sz K) args s 0 0 (frA P sz)) 0 0 P [(0, .double p0), (2, .double x2_50), (4, .long x4_50), (6, .int x6_50)] [] 50 g50 := by
        intro x2_50 x4_50 x6_50 g50  h
        unfold jX7_bitsOfShare_50 at h
        refine v_dload_n o 1 dX7_bitsOfShare_50 rfl ?_
        refine v_dconst1 o dX7_bitsOfShare_51 ?_
        refine v_dsub o dX7_bitsOfShare_52 h.1 ?_
        replace h := h.2
        refine v_ldc2d o (v := 4841369599423283200) dX7_bitsOfShare_53 (mU 601 (by decide +kernel) rfl) ?_
        refine v_dmul o dX7_bitsOfShare_56 h.1 ?_
        replace h := h.2
        refine v_d2l o dX7_bitsOfShare_57 ?_
        refine v_topl (fun x6_58 ex6_58 => ?_)
        replace h := h x6_58 ex6_58
        refine v_lstore o (lv' := [(6, .long x6_58), (0, .double p0), (2, .double x2_50), (4, .long x4_50)]) dX7_bitsOfShare_58 (by decide) rfl ?_
        refine v_lload o 3 dX7_bitsOfShare_60 rfl ?_
        refine v_bipush o (v := 52) dX7_bitsOfShare_62 (by decide) ?_
        refine v_lshl o dX7_bitsOfShare_64 ?_
        refine v_lload o 0 dX7_bitsOfShare_65 rfl ?_
        refine v_ladd o dX7_bitsOfShare_67 ?_
        exact v_lret o rfl hr dX7_bitsOfShare_68 h
      unfold bX7_bitsOfShare_18 at h
      refine v_iload o 3 dX7_bitsOfShare_18 rfl ?_
      refine v_sipush o (v := 1023) dX7_bitsOfShare_20 (by decide) ?_
      refine v_icmp_ge o (tgt := 50) dX7_bitsOfShare_23 (by decide) (fun c23 => ?_) (fun c23 => ?_)
      · replace h := h.1 c23
        refine v_sub [0, 1, 2, 3] (lv2 := [(0, .double p0), (2, .double x2), (4, .long x4), (6, .int x6)]) rfl ?_
        exact J50 x2 x4 x6 g  h
      · replace h := h.2 c23
        refine v_dload_n o 1 dX7_bitsOfShare_26 rfl ?_
        refine v_dconst1 o dX7_bitsOfShare_27 ?_
        refine v_dcmp o dX7_bitsOfShare_28 ?_
        refine v_if_ge o (tgt := 50) dX7_bitsOfShare_29 (by decide) (fun c29 => ?_) (fun c29 => ?_)
        · replace h := h.1 c29
          refine v_sub [0, 1, 2, 3] (lv2 := [(0, .double p0), (2, .double x2), (4, .long x4), (6, .int x6)]) rfl ?_
          exact J50 x2 x4 x6 g  h
        · replace h := h.2 c29
          refine v_dload_n o 1 dX7_bitsOfShare_32 rfl ?_
          refine v_ldc2d o (v := 4611686018427387904) dX7_bitsOfShare_33 (mU 600 (by decide +kernel) rfl) ?_
          refine v_dmul o dX7_bitsOfShare_36 h.1 ?_
          replace h := h.2
          refine v_topd (fun x2_37 ex2_37 => ?_)
          replace h := h x2_37 ex2_37
          refine v_dstore_n o (lv' := [(2, .double x2_37), (0, .double p0), (4, .long x4), (6, .int x6)]) dX7_bitsOfShare_37 rfl (by decide) rfl ?_
          refine v_lload o 2 dX7_bitsOfShare_38 rfl ?_
          refine v_lconst o (v := 1) dX7_bitsOfShare_40 (by decide) ?_
          refine v_lsub o dX7_bitsOfShare_41 ?_
          refine v_topl (fun x4_42 ex4_42 => ?_)
          replace h := h x4_42 ex4_42
          refine v_lstore o (lv' := [(4, .long x4_42), (2, .double x2_37), (0, .double p0), (6, .int x6)]) dX7_bitsOfShare_42 (by decide) rfl ?_
          obtain ⟨x6_44, ex6_44⟩ : ∃ y : Int32, y = x6 + 1 := ⟨_, rfl⟩
          replace h := h x6_44 ex6_44
          refine v_iinc o (v := x6_44) (lv' := [(6, .int x6_44), (4, .long x4_42), (2, .double x2_37), (0, .double p0)]) 3 dX7_bitsOfShare_44 rfl (by rw [ex6_44]; rfl) (by decide) rfl ?_
          refine v_goto o (tgt := 18) dX7_bitsOfShare_47 (by decide) ?_
          refine v_sub [3, 2, 1, 0] (lv2 := [(0, .double p0), (2, .double x2_37), (4, .long x4_42), (6, .int x6_44)]) rfl ?_
          exact ih g x2_37 x4_42 x6_44  h.1 (by have := h.2; omega)
  unfold vX7_bitsOfShare at h
  refine v_dload_n o 0 dX7_bitsOfShare_0 rfl ?_
  refine v_dconst0 o dX7_bitsOfShare_1 ?_
  refine v_dcmp o dX7_bitsOfShare_2 ?_
  refine v_if_gt o (tgt := 8) dX7_bitsOfShare_3 (by decide) (fun c3 => ?_) (fun c3 => ?_)
  · replace h := h.1 c3
    refine v_dload_n o 0 dX7_bitsOfShare_8 rfl ?_
    refine v_dstore_n o (lv' := [(2, .double p0), (0, .double p0)]) dX7_bitsOfShare_9 rfl (by decide) rfl ?_
    refine v_ldc2 o (v := 1023) dX7_bitsOfShare_10 (mU 599 (by decide +kernel) rfl) ?_
    refine v_lstore o (lv' := [(4, .long 1023), (2, .double p0), (0, .double p0)]) dX7_bitsOfShare_13 (by decide) rfl ?_
    refine v_iconst o (v := 0) dX7_bitsOfShare_15 (by decide) ?_
    refine v_istore o (lv' := [(6, .int 0), (4, .long 1023), (2, .double p0), (0, .double p0)]) dX7_bitsOfShare_16 (by decide) rfl ?_
    refine v_sub [3, 2, 1, 0] (lv2 := [(0, .double p0), (2, .double p0), (4, .long 1023), (6, .int 0)]) rfl ?_
    exact (main (μ18 f p0 1023 0 + 1)) f p0 1023 0  h (Nat.lt_succ_self _)
  · replace h := h.2 c3
    refine v_lconst o (v := 0) dX7_bitsOfShare_6 (by decide) ?_
    exact v_lret o rfl hr dX7_bitsOfShare_7 h
def kX7_bitsOfShare (P : Sk) (f : St) (p0 : UInt64) (K : Int64 → St → Prop) : Prop := False
theorem metX7_bitsOfShare (l : Launch) (G : Gl) (P : Sk) (f : St) (sz : Nat) (p0 : UInt64) (K : Int64 → St → Prop) (h : kX7_bitsOfShare P f p0 K) : Met l yX7_bitsOfShare (wU yX7_bitsOfShare cX7_bitsOfShare 8 (some .long)) rmX7_bitsOfShare (PcW G P f sz [.double p0]) (QcL G P sz K) 0 0 (frA P sz) := sorry

def bX7_digest_6 (P : Sk) (a : Nat) (L6 : St → Int64 → Int32 → Prop) (L33 : St → Int64 → Int32 → Prop) (L118 : St → Int64 → Int32 → Prop) (K : Int64 → St → Prop) (f : St) (x1 : Int64) (x3 : Int32) : Prop :=
  (6 < x3 → L33 f x1 0) ∧ (¬ 6 < x3 → kX7_numberOfBoard P f a x3 (fun r19 g19 => ∀ x1_24 : Int64, x1_24 = (31 * x1) + (r19.toInt64) → ∀ x3_25 : Int32, x3_25 = x3 + 1 → L6 g19 x1_24 x3_25))
def bX7_digest_33 (P : Sk) (a : Nat) (L6 : St → Int64 → Int32 → Prop) (L33 : St → Int64 → Int32 → Prop) (L118 : St → Int64 → Int32 → Prop) (K : Int64 → St → Prop) (f : St) (x1 : Int64) (x3 : Int32) : Prop :=
  kX0_size P f (a + 4) (fun r38 g38 => (r38 ≤ x3 → kX0_stopPart P g38 (a + 4) (fun r66 g66 => ∀ x1_71 : Int64, x1_71 = (31 * x1) + (r66.toInt64) → kX0_stopReason P g66 (a + 4) (fun r81 g81 => ∀ x1_86 : Int64, x1_86 = (31 * x1_71) + (r81.toInt64) → kX7_looseShare P g81 a (fun r93 g93 => kX7_bitsOfShare P g93 r93 (fun r96 g96 => ∀ x1_100 : Int64, x1_100 = (31 * x1_86) + r96 → kX4_size P g96 (a + 1) (fun r110 g110 => ∀ x1_115 : Int64, x1_115 = (31 * x1_100) + (r110.toInt64) → L118 g110 x1_115 0)))))) ∧ (¬ r38 ≤ x3 → kX7_hashOfLoaf P g38 a x1 x3 (fun r47 g47 => ∀ x3_51 : Int32, x3_51 = x3 + 1 → L33 g47 r47 x3_51)))
def bX7_digest_118 (P : Sk) (a : Nat) (L6 : St → Int64 → Int32 → Prop) (L33 : St → Int64 → Int32 → Prop) (L118 : St → Int64 → Int32 → Prop) (K : Int64 → St → Prop) (f : St) (x1 : Int64) (x3 : Int32) : Prop :=
  kX4_size P f (a + 1) (fun r123 g123 => (r123 ≤ x3 → K x1 g123) ∧ (¬ r123 ≤ x3 → kX4_signAt P g123 (a + 1) x3 (fun r139 g139 => ∀ x1_144 : Int64, x1_144 = (31 * x1) + (r139.toInt64) → ∀ x3_145 : Int32, x3_145 = x3 + 1 → L118 g139 x1_144 x3_145)))
def vX7_digest (P : Sk) (f : St) (a : Nat) (L6 : St → Int64 → Int32 → Prop) (L33 : St → Int64 → Int32 → Prop) (L118 : St → Int64 → Int32 → Prop) (K : Int64 → St → Prop) : Prop :=
  L6 f 4051 0
set_option maxRecDepth 20000 in
set_option maxHeartbeats 4000000 in
theorem mX7_digest (l : Launch) (G : Gl) (P : Sk) (f : St) (sz : Nat) (a : Nat) (ha : IsComp P a) (K : Int64 → St → Prop) (I6 : St → Int64 → Int32 → Prop) (μ6 : St → Int64 → Int32 → Nat) (I33 : St → Int64 → Int32 → Prop) (μ33 : St → Int64 → Int32 → Nat) (I118 : St → Int64 → Int32 → Prop) (μ118 : St → Int64 → Int32 → Nat) 
  (h : vX7_digest P f a I6 I33 I118 K)
  (h6 : ∀ (g : St) (x1 : Int64) (x3 : Int32) , I6 g x1 x3 → bX7_digest_6 P a (fun g' z0 z1 => I6 g' z0 z1 ∧ μ6 g' z0 z1 < μ6 g x1 x3) (fun g' z0 z1 => I33 g' z0 z1 ∧ μ33 g' z0 z1 < μ6 g x1 x3) (fun g' z0 z1 => I118 g' z0 z1 ∧ μ118 g' z0 z1 < μ6 g x1 x3) K g x1 x3)
  (h33 : ∀ (g : St) (x1 : Int64) (x3 : Int32) , I33 g x1 x3 → bX7_digest_33 P a (fun g' z0 z1 => I6 g' z0 z1 ∧ μ6 g' z0 z1 < μ33 g x1 x3) (fun g' z0 z1 => I33 g' z0 z1 ∧ μ33 g' z0 z1 < μ33 g x1 x3) (fun g' z0 z1 => I118 g' z0 z1 ∧ μ118 g' z0 z1 < μ33 g x1 x3) K g x1 x3)
  (h118 : ∀ (g : St) (x1 : Int64) (x3 : Int32) , I118 g x1 x3 → bX7_digest_118 P a (fun g' z0 z1 => I6 g' z0 z1 ∧ μ6 g' z0 z1 < μ118 g x1 x3) (fun g' z0 z1 => I33 g' z0 z1 ∧ μ33 g' z0 z1 < μ118 g x1 x3) (fun g' z0 z1 => I118 g' z0 z1 ∧ μ118 g' z0 z1 < μ118 g x1 x3) K g x1 x3) :
  Met l yX7_digest (wU yX7_digest cX7_digest 4 (some .long)) rmX7_digest (PcW G P f sz [.ref a]) (QcL G P sz K) 0 0 (frA P sz) := by
  refine v_met (own := RX7) [.ref a] (by decide +kernel) rfl (Nat.le_of_ble_eq_true rfl) (fun p e s m args below meth c hsz o hr hnm => ?_)
  refine v_lv (lv2 := [(0, .ref a)]) rfl ?_
  have main : ∀ n : Nat, (∀ (g : St) (x1 : Int64) (x3 : Int32) , I6 g x1 x3 → μ6 g x1 x3 < n → V p l e rmX7_digest s m args below meth c 4 G (frA P sz) (MQ below (QcL G P sz K) args s 0 0 (frA P sz)) 0 0 P [(0, .ref a), (1, .long x1), (3, .int x3)] [] 6 g) ∧ (∀ (g : St) (x1 : Int64) (x3 : Int32) , I33 g x1 x3 → μ33 g x1 x3 < n → V p l e rmX7_digest s m args below meth c 4 G (frA P sz) (MQ below (QcL G P sz K) args s 0 0 (frA P sz)) 0 0 P [(0, .ref a), (1, .long x1), (3, .int x3)] [] 33 g) ∧ (∀ (g : St) (x1 : Int64) (x3 : Int32) , I118 g x1 x3 → μ118 g x1 x3 < n → V p l e rmX7_digest s m args below meth c 4 G (frA P sz) (MQ below (QcL G P sz K) args s 0 0 (frA P sz)) 0 0 P [(0, .ref a), (1, .long x1), (3, .int x3)] [] 118 g) := by
    intro n
    induction n with
    | zero => exact ⟨fun g x1 x3 hI hm => absurd hm (Nat.not_lt_zero _), fun g x1 x3 hI hm => absurd hm (Nat.not_lt_zero _), fun g x1 x3 hI hm => absurd hm (Nat.not_lt_zero _)⟩
    | succ n ih =>
      refine ⟨?_, ?_, ?_⟩
      · intro g x1 x3 hI hm
        have h := h6 g x1 x3 hI
        clear hI
        unfold bX7_digest_6 at h
        refine v_iload_n o 2 dX7_digest_6 rfl ?_
        refine v_bipush o (v := 6) dX7_digest_7 (by decide) ?_
        refine v_icmp_gt o (tgt := 31) dX7_digest_9 (by decide) (fun c9 => ?_) (fun c9 => ?_)
        · replace h := h.1 c9
          refine v_iconst o (v := 0) dX7_digest_31 (by decide) ?_
          refine v_istore_n o (lv' := [(3, .int 0), (0, .ref a), (1, .long x1)]) dX7_digest_32 rfl (by decide) rfl ?_
          refine v_sub [1, 2, 0] (lv2 := [(0, .ref a), (1, .long x1), (3, .int 0)]) rfl ?_
          exact ih.2.1 g x1 0  h.1 (by have := h.2; omega)
        · replace h := h.2 c9
          refine v_ldc2 o (v := 31) dX7_digest_12 (mU 396 (by decide +kernel) rfl) ?_
          refine v_lload_n o 1 dX7_digest_15 rfl ?_
          refine v_lmul o dX7_digest_16 ?_
          refine v_aload_n o 0 dX7_digest_17 rfl ?_
          refine v_iload_n o 2 dX7_digest_18 rfl ?_
          refine v_cVi o [.int x3] [.long (31 * x1)] (fun sz => metX7_numberOfBoard l G P g sz a ha x3 _ h) (cwX7_212 o.1.2.2.2.2 (by decide)) ⟨_, _, rfl⟩ (by decide) (wfComp_o ha) rfl (Nat.le_of_ble_eq_true rfl) ⟨Nat.zero_le _, Nat.zero_le _⟩ dX7_digest_19 rfl (fun r19 g19 h => ?_)
          refine v_i2l o dX7_digest_22 ?_
          refine v_ladd o dX7_digest_23 ?_
          refine v_topl (fun x1_24 ex1_24 => ?_)
          replace h := h x1_24 ex1_24
          refine v_lstore_n o (lv' := [(1, .long x1_24), (0, .ref a), (3, .int x3)]) dX7_digest_24 rfl (by decide) rfl ?_
          obtain ⟨x3_25, ex3_25⟩ : ∃ y : Int32, y = x3 + 1 := ⟨_, rfl⟩
          replace h := h x3_25 ex3_25
          refine v_iinc o (v := x3_25) (lv' := [(3, .int x3_25), (1, .long x1_24), (0, .ref a)]) 2 dX7_digest_25 rfl (by rw [ex3_25]; rfl) (by decide) rfl ?_
          refine v_goto o (tgt := 6) dX7_digest_28 (by decide) ?_
          refine v_sub [2, 1, 0] (lv2 := [(0, .ref a), (1, .long x1_24), (3, .int x3_25)]) rfl ?_
          exact ih.1 g19 x1_24 x3_25  h.1 (by have := h.2; omega)
      · intro g x1 x3 hI hm
        have h := h33 g x1 x3 hI
        clear hI
        unfold bX7_digest_33 at h
        refine v_iload_n o 2 dX7_digest_33 rfl ?_
        refine v_aload_n o 0 dX7_digest_34 rfl ?_
        refine v_gfR o lkX7_19 (by decide) (wfComp_o ha) (wfComp_r1 ha) dX7_digest_35 ?_
        refine v_cVi o [] [.int x3] (fun sz => metX0_size l G P g sz (a + 4) (wfComp_t1 ha) _ h) (cwX7_65 o.1.2.2.2.2 (by decide)) ⟨_, _, rfl⟩ (by decide) (wfBoard_o (wfComp_t1 ha)) rfl (Nat.le_of_ble_eq_true rfl) ⟨Nat.zero_le _, Nat.zero_le _⟩ dX7_digest_38 rfl (fun r38 g38 h => ?_)
        refine v_icmp_ge o (tgt := 57) dX7_digest_41 (by decide) (fun c41 => ?_) (fun c41 => ?_)
        · replace h := h.1 c41
          refine v_ldc2 o (v := 31) dX7_digest_57 (mU 396 (by decide +kernel) rfl) ?_
          refine v_lload_n o 1 dX7_digest_60 rfl ?_
          refine v_lmul o dX7_digest_61 ?_
          refine v_aload_n o 0 dX7_digest_62 rfl ?_
          refine v_gfR o lkX7_19 (by decide) (wfComp_o ha) (wfComp_r1 ha) dX7_digest_63 ?_
          refine v_cVi o [] [.long (31 * x1)] (fun sz => metX0_stopPart l G P g38 sz (a + 4) (wfComp_t1 ha) _ h) (cwX7_181 o.1.2.2.2.2 (by decide)) ⟨_, _, rfl⟩ (by decide) (wfBoard_o (wfComp_t1 ha)) rfl (Nat.le_of_ble_eq_true rfl) ⟨Nat.zero_le _, Nat.zero_le _⟩ dX7_digest_66 rfl (fun r66 g66 h => ?_)
          refine v_i2l o dX7_digest_69 ?_
          refine v_ladd o dX7_digest_70 ?_
          refine v_topl (fun x1_71 ex1_71 => ?_)
          replace h := h x1_71 ex1_71
          refine v_lstore_n o (lv' := [(1, .long x1_71), (0, .ref a), (3, .int x3)]) dX7_digest_71 rfl (by decide) rfl ?_
          refine v_ldc2 o (v := 31) dX7_digest_72 (mU 396 (by decide +kernel) rfl) ?_
          refine v_lload_n o 0 dX7_digest_75 rfl ?_
          refine v_lmul o dX7_digest_76 ?_
          refine v_aload_n o 1 dX7_digest_77 rfl ?_
          refine v_gfR o lkX7_19 (by decide) (wfComp_o ha) (wfComp_r1 ha) dX7_digest_78 ?_
          refine v_cVi o [] [.long (31 * x1_71)] (fun sz => metX0_stopReason l G P g66 sz (a + 4) (wfComp_t1 ha) _ h) (cwX7_184 o.1.2.2.2.2 (by decide)) ⟨_, _, rfl⟩ (by decide) (wfBoard_o (wfComp_t1 ha)) rfl (Nat.le_of_ble_eq_true rfl) ⟨Nat.zero_le _, Nat.zero_le _⟩ dX7_digest_81 rfl (fun r81 g81 h => ?_)
          refine v_i2l o dX7_digest_84 ?_
          refine v_ladd o dX7_digest_85 ?_
          refine v_topl (fun x1_86 ex1_86 => ?_)
          replace h := h x1_86 ex1_86
          refine v_lstore_n o (lv' := [(1, .long x1_86), (0, .ref a), (3, .int x3)]) dX7_digest_86 rfl (by decide) rfl ?_
          refine v_ldc2 o (v := 31) dX7_digest_87 (mU 396 (by decide +kernel) rfl) ?_
          refine v_lload_n o 0 dX7_digest_90 rfl ?_
          refine v_lmul o dX7_digest_91 ?_
          refine v_aload_n o 1 dX7_digest_92 rfl ?_
          refine v_cVd o [] [.long (31 * x1_86)] (fun sz => metX7_looseShare l G P g81 sz a ha _ h) (cwX7_235 o.1.2.2.2.2 (by decide)) ⟨_, _, rfl⟩ (by decide) (wfComp_o ha) rfl (Nat.le_of_ble_eq_true rfl) ⟨Nat.zero_le _, Nat.zero_le _⟩ dX7_digest_93 rfl (fun r93 g93 h => ?_)
          refine v_cSl o [.double r93] [.long (31 * x1_86)] (fun sz => metX7_bitsOfShare l G P g93 sz r93 _ h) (cwX7_239 o.1.2.2.2.2 (by decide)) rfl (Nat.le_of_ble_eq_true rfl) ⟨Nat.zero_le _, Nat.zero_le _⟩ dX7_digest_96 rfl (fun r96 g96 h => ?_)
          refine v_ladd o dX7_digest_99 ?_
          refine v_topl (fun x1_100 ex1_100 => ?_)
          replace h := h x1_100 ex1_100
          refine v_lstore_n o (lv' := [(1, .long x1_100), (0, .ref a), (3, .int x3)]) dX7_digest_100 rfl (by decide) rfl ?_
          refine v_ldc2 o (v := 31) dX7_digest_101 (mU 396 (by decide +kernel) rfl) ?_
          refine v_lload_n o 0 dX7_digest_104 rfl ?_
          refine v_lmul o dX7_digest_105 ?_
          refine v_aload_n o 1 dX7_digest_106 rfl ?_
          refine v_gfR o lkX7_10 (by decide) (wfComp_o ha) (wfComp_r0 ha) dX7_digest_107 ?_
          refine v_cVi o [] [.long (31 * x1_100)] (fun sz => metX4_size l G P g96 sz (a + 1) (wfComp_t0 ha) _ h) (cwX7_152 o.1.2.2.2.2 (by decide)) ⟨_, _, rfl⟩ (by decide) (wfText_o (wfComp_t0 ha)) rfl (Nat.le_of_ble_eq_true rfl) ⟨Nat.zero_le _, Nat.zero_le _⟩ dX7_digest_110 rfl (fun r110 g110 h => ?_)
          refine v_i2l o dX7_digest_113 ?_
          refine v_ladd o dX7_digest_114 ?_
          refine v_topl (fun x1_115 ex1_115 => ?_)
          replace h := h x1_115 ex1_115
          refine v_lstore_n o (lv' := [(1, .long x1_115), (0, .ref a), (3, .int x3)]) dX7_digest_115 rfl (by decide) rfl ?_
          refine v_iconst o (v := 0) dX7_digest_116 (by decide) ?_
          refine v_istore_n o (lv' := [(3, .int 0), (1, .long x1_115), (0, .ref a)]) dX7_digest_117 rfl (by decide) rfl ?_
          refine v_sub [2, 1, 0] (lv2 := [(0, .ref a), (1, .long x1_115), (3, .int 0)]) rfl ?_
          exact ih.2.2 g110 x1_115 0  h.1 (by have := h.2; omega)
        · replace h := h.2 c41
          refine v_aload_n o 0 dX7_digest_44 rfl ?_
          refine v_lload_n o 1 dX7_digest_45 rfl ?_
          refine v_iload_n o 2 dX7_digest_46 rfl ?_
          refine v_cVl o [.long x1, .int x3] [] (fun sz => metX7_hashOfLoaf l G P g38 sz a ha x1 x3 _ h) (cwX7_231 o.1.2.2.2.2 (by decide)) ⟨_, _, rfl⟩ (by decide) (wfComp_o ha) rfl (Nat.le_of_ble_eq_true rfl) ⟨Nat.zero_le _, Nat.zero_le _⟩ dX7_digest_47 rfl (fun r47 g47 h => ?_)
          refine v_lstore_n o (lv' := [(1, .long r47), (0, .ref a), (3, .int x3)]) dX7_digest_50 rfl (by decide) rfl ?_
          obtain ⟨x3_51, ex3_51⟩ : ∃ y : Int32, y = x3 + 1 := ⟨_, rfl⟩
          replace h := h x3_51 ex3_51
          refine v_iinc o (v := x3_51) (lv' := [(3, .int x3_51), (1, .long r47), (0, .ref a)]) 2 dX7_digest_51 rfl (by rw [ex3_51]; rfl) (by decide) rfl ?_
          refine v_goto o (tgt := 33) dX7_digest_54 (by decide) ?_
          refine v_sub [2, 1, 0] (lv2 := [(0, .ref a), (1, .long r47), (3, .int x3_51)]) rfl ?_
          exact ih.2.1 g47 r47 x3_51  h.1 (by have := h.2; omega)
      · intro g x1 x3 hI hm
        have h := h118 g x1 x3 hI
        clear hI
        unfold bX7_digest_118 at h
        refine v_iload_n o 2 dX7_digest_118 rfl ?_
        refine v_aload_n o 0 dX7_digest_119 rfl ?_
        refine v_gfR o lkX7_10 (by decide) (wfComp_o ha) (wfComp_r0 ha) dX7_digest_120 ?_
        refine v_cVi o [] [.int x3] (fun sz => metX4_size l G P g sz (a + 1) (wfComp_t0 ha) _ h) (cwX7_152 o.1.2.2.2.2 (by decide)) ⟨_, _, rfl⟩ (by decide) (wfText_o (wfComp_t0 ha)) rfl (Nat.le_of_ble_eq_true rfl) ⟨Nat.zero_le _, Nat.zero_le _⟩ dX7_digest_123 rfl (fun r123 g123 h => ?_)
        refine v_icmp_ge o (tgt := 151) dX7_digest_126 (by decide) (fun c126 => ?_) (fun c126 => ?_)
        · replace h := h.1 c126
          refine v_lload_n o 1 dX7_digest_151 rfl ?_
          exact v_lret o rfl hr dX7_digest_152 h
        · replace h := h.2 c126
          refine v_ldc2 o (v := 31) dX7_digest_129 (mU 396 (by decide +kernel) rfl) ?_
          refine v_lload_n o 1 dX7_digest_132 rfl ?_
          refine v_lmul o dX7_digest_133 ?_
          refine v_aload_n o 0 dX7_digest_134 rfl ?_
          refine v_gfR o lkX7_10 (by decide) (wfComp_o ha) (wfComp_r0 ha) dX7_digest_135 ?_
          refine v_iload_n o 2 dX7_digest_138 rfl ?_
          refine v_cVi o [.int x3] [.long (31 * x1)] (fun sz => metX4_signAt l G P g123 sz (a + 1) (wfComp_t0 ha) x3 _ h) (cwX7_243 o.1.2.2.2.2 (by decide)) ⟨_, _, rfl⟩ (by decide) (wfText_o (wfComp_t0 ha)) rfl (Nat.le_of_ble_eq_true rfl) ⟨Nat.zero_le _, Nat.zero_le _⟩ dX7_digest_139 rfl (fun r139 g139 h => ?_)
          refine v_i2l o dX7_digest_142 ?_
          refine v_ladd o dX7_digest_143 ?_
          refine v_topl (fun x1_144 ex1_144 => ?_)
          replace h := h x1_144 ex1_144
          refine v_lstore_n o (lv' := [(1, .long x1_144), (0, .ref a), (3, .int x3)]) dX7_digest_144 rfl (by decide) rfl ?_
          obtain ⟨x3_145, ex3_145⟩ : ∃ y : Int32, y = x3 + 1 := ⟨_, rfl⟩
          replace h := h x3_145 ex3_145
          refine v_iinc o (v := x3_145) (lv' := [(3, .int x3_145), (1, .long x1_144), (0, .ref a)]) 2 dX7_digest_145 rfl (by rw [ex3_145]; rfl) (by decide) rfl ?_
          refine v_goto o (tgt := 118) dX7_digest_148 (by decide) ?_
          refine v_sub [2, 1, 0] (lv2 := [(0, .ref a), (1, .long x1_144), (3, .int x3_145)]) rfl ?_
          exact ih.2.2 g139 x1_144 x3_145  h.1 (by have := h.2; omega)
  unfold vX7_digest at h
  refine v_ldc2 o (v := 4051) dX7_digest_0 (mU 395 (by decide +kernel) rfl) ?_
  refine v_lstore_n o (lv' := [(1, .long 4051), (0, .ref a)]) dX7_digest_3 rfl (by decide) rfl ?_
  refine v_iconst o (v := 0) dX7_digest_4 (by decide) ?_
  refine v_istore_n o (lv' := [(3, .int 0), (1, .long 4051), (0, .ref a)]) dX7_digest_5 rfl (by decide) rfl ?_
  refine v_sub [2, 1, 0] (lv2 := [(0, .ref a), (1, .long 4051), (3, .int 0)]) rfl ?_
  exact (main (μ6 f 4051 0 + 1)).1 f 4051 0  h (Nat.lt_succ_self _)
def kX7_digest (P : Sk) (f : St) (a : Nat) (K : Int64 → St → Prop) : Prop := False
theorem metX7_digest (l : Launch) (G : Gl) (P : Sk) (f : St) (sz : Nat) (a : Nat) (ha : IsComp P a) (K : Int64 → St → Prop) (h : kX7_digest P f a K) : Met l yX7_digest (wU yX7_digest cX7_digest 4 (some .long)) rmX7_digest (PcW G P f sz [.ref a]) (QcL G P sz K) 0 0 (frA P sz) := sorry

def vX7_tryCrossing (P : Sk) (f : St) (a : Nat) (p1 : Int32) (p2 : Int32) (p3 : Int32) (K : Int32 → St → Prop) : Prop :=
  kX0_has P f (a + 4) p1 (fun r5 g5 => (¬ r5 = 0 → kX6_hasPlace P g5 ((atB (a + 4) p1) + 1) p2 (fun r29 g29 => (¬ r29 = 0 → kX6_size P g29 ((atB (a + 4) p1) + 1) (fun r39 g39 => (r39 < 24 → kX6_copyFrom P g39 ((a + 1410) + 1) ((atB (a + 4) p1) + 1) (fun g58 => kX6_codeOf P g58 p2 p3 (fun r70 g70 => kX6_add P g70 ((a + 1410) + 1) r70 (fun g73 => kX2_settle P g73 (a + 1410) (fun r80 g80 => K r80 g80))))) ∧ (¬ r39 < 24 → K 1 g39))) ∧ (r29 = 0 → K 4 g29))) ∧ (r5 = 0 → K 3 g5))
set_option maxRecDepth 20000 in
set_option maxHeartbeats 4000000 in
theorem mX7_tryCrossing (l : Launch) (G : Gl) (P : Sk) (f : St) (sz : Nat) (a : Nat) (ha : IsComp P a) (p1 : Int32) (p2 : Int32) (p3 : Int32) (K : Int32 → St → Prop) (h : vX7_tryCrossing P f a p1 p2 p3 K)  :
  Met l yX7_tryCrossing (wU yX7_tryCrossing cX7_tryCrossing 5 (some .int)) rmX7_tryCrossing (PcW G P f sz [.ref a, .int p1, .int p2, .int p3]) (QcI G P sz K) 0 0 (frA P sz) := by
  refine v_met (own := RX7) [.ref a, .int p1, .int p2, .int p3] (by decide +kernel) rfl (Nat.le_of_ble_eq_true rfl) (fun p e s m args below meth c hsz o hr hnm => ?_)
  refine v_lv (lv2 := [(0, .ref a), (1, .int p1), (2, .int p2), (3, .int p3)]) rfl ?_
  unfold vX7_tryCrossing at h
  refine v_aload_n o 0 dX7_tryCrossing_0 rfl ?_
  refine v_gfR o lkX7_19 (by decide) (wfComp_o ha) (wfComp_r1 ha) dX7_tryCrossing_1 ?_
  refine v_iload_n o 1 dX7_tryCrossing_4 rfl ?_
  refine v_cVi o [.int p1] [] (fun sz => metX0_has l G P f sz (a + 4) (wfComp_t1 ha) p1 _ h) (cwX7_246 o.1.2.2.2.2 (by decide)) ⟨_, _, rfl⟩ (by decide) (wfBoard_o (wfComp_t1 ha)) rfl (Nat.le_of_ble_eq_true rfl) ⟨Nat.zero_le _, Nat.zero_le _⟩ dX7_tryCrossing_5 rfl (fun r5 g5 h => ?_)
  refine v_if_ne o (tgt := 13) dX7_tryCrossing_8 (by decide) (fun c8 => ?_) (fun c8 => ?_)
  · replace h := h.1 c8
    refine v_aload_n o 0 dX7_tryCrossing_13 rfl ?_
    refine v_gfR o lkX7_19 (by decide) (wfComp_o ha) (wfComp_r1 ha) dX7_tryCrossing_14 ?_
    refine v_iload_n o 1 dX7_tryCrossing_17 rfl ?_
    refine v_cVr o [.int p1] [] (fun sz => metX0_at l G P g5 sz (a + 4) (wfComp_t1 ha) p1) (cwX7_102 o.1.2.2.2.2 (by decide)) ⟨_, _, rfl⟩ (by decide) (wfBoard_o (wfComp_t1 ha)) rfl (Nat.le_of_ble_eq_true rfl) ⟨Nat.zero_le _, Nat.zero_le _⟩ dX7_tryCrossing_18 rfl (fun r18 g18 h18 => ?_)
    obtain ⟨rfl, rfl⟩ := h18
    refine v_cVr o [] [] (fun sz => metX2_word l G P g5 sz (atB (a + 4) p1) (is_atB (wfComp_t1 ha) p1)) (cwX7_74 o.1.2.2.2.2 (by decide)) ⟨_, _, rfl⟩ (by decide) (wfLoaf_o (is_atB (wfComp_t1 ha) p1)) rfl (Nat.le_of_ble_eq_true rfl) ⟨Nat.zero_le _, Nat.zero_le _⟩ dX7_tryCrossing_21 rfl (fun r21 g21 h21 => ?_)
    obtain ⟨rfl, rfl⟩ := h21
    refine v_astore o (lv' := [(4, .ref ((atB (a + 4) p1) + 1)), (0, .ref a), (1, .int p1), (2, .int p2), (3, .int p3)]) dX7_tryCrossing_24 (by decide) rfl ?_
    refine v_aload o 0 dX7_tryCrossing_26 rfl ?_
    refine v_iload_n o 3 dX7_tryCrossing_28 rfl ?_
    refine v_cVi o [.int p2] [] (fun sz => metX6_hasPlace l G P g5 sz ((atB (a + 4) p1) + 1) (wfLoaf_t0 (is_atB (wfComp_t1 ha) p1)) p2 _ h) (cwX7_255 o.1.2.2.2.2 (by decide)) ⟨_, _, rfl⟩ (by decide) (wfWord_o (wfLoaf_t0 (is_atB (wfComp_t1 ha) p1))) rfl (Nat.le_of_ble_eq_true rfl) ⟨Nat.zero_le _, Nat.zero_le _⟩ dX7_tryCrossing_29 rfl (fun r29 g29 h => ?_)
    refine v_if_ne o (tgt := 37) dX7_tryCrossing_32 (by decide) (fun c32 => ?_) (fun c32 => ?_)
    · replace h := h.1 c32
      refine v_aload o 0 dX7_tryCrossing_37 rfl ?_
      refine v_cVi o [] [] (fun sz => metX6_size l G P g29 sz ((atB (a + 4) p1) + 1) (wfLoaf_t0 (is_atB (wfComp_t1 ha) p1)) _ h) (cwX7_106 o.1.2.2.2.2 (by decide)) ⟨_, _, rfl⟩ (by decide) (wfWord_o (wfLoaf_t0 (is_atB (wfComp_t1 ha) p1))) rfl (Nat.le_of_ble_eq_true rfl) ⟨Nat.zero_le _, Nat.zero_le _⟩ dX7_tryCrossing_39 rfl (fun r39 g39 h => ?_)
      refine v_bipush o (v := 24) dX7_tryCrossing_42 (by decide) ?_
      refine v_icmp_lt o (tgt := 49) dX7_tryCrossing_44 (by decide) (fun c44 => ?_) (fun c44 => ?_)
      · replace h := h.1 c44
        refine v_aload_n o 1 dX7_tryCrossing_49 rfl ?_
        refine v_gfR o lkX7_40 (by decide) (wfComp_o ha) (wfComp_r5 ha) dX7_tryCrossing_50 ?_
        refine v_cVr o [] [] (fun sz => metX2_word l G P g39 sz (a + 1410) (wfComp_t5 ha)) (cwX7_74 o.1.2.2.2.2 (by decide)) ⟨_, _, rfl⟩ (by decide) (wfLoaf_o (wfComp_t5 ha)) rfl (Nat.le_of_ble_eq_true rfl) ⟨Nat.zero_le _, Nat.zero_le _⟩ dX7_tryCrossing_53 rfl (fun r53 g53 h53 => ?_)
        obtain ⟨rfl, rfl⟩ := h53
        refine v_aload o 0 dX7_tryCrossing_56 rfl ?_
        refine v_cVv o [.ref ((atB (a + 4) p1) + 1)] [] (fun sz => metX6_copyFrom l G P g39 sz ((a + 1410) + 1) (wfLoaf_t0 (wfComp_t5 ha)) ((atB (a + 4) p1) + 1) (wfLoaf_t0 (is_atB (wfComp_t1 ha) p1)) _ h) (cwX7_264 o.1.2.2.2.2 (by decide)) ⟨_, _, rfl⟩ (by decide) (wfWord_o (wfLoaf_t0 (wfComp_t5 ha))) rfl (Nat.le_of_ble_eq_true rfl) ⟨Nat.zero_le _, Nat.zero_le _⟩ dX7_tryCrossing_58 rfl (fun g58 h => ?_)
        refine v_aload_n o 1 dX7_tryCrossing_61 rfl ?_
        refine v_gfR o lkX7_40 (by decide) (wfComp_o ha) (wfComp_r5 ha) dX7_tryCrossing_62 ?_
        refine v_cVr o [] [] (fun sz => metX2_word l G P g58 sz (a + 1410) (wfComp_t5 ha)) (cwX7_74 o.1.2.2.2.2 (by decide)) ⟨_, _, rfl⟩ (by decide) (wfLoaf_o (wfComp_t5 ha)) rfl (Nat.le_of_ble_eq_true rfl) ⟨Nat.zero_le _, Nat.zero_le _⟩ dX7_tryCrossing_65 rfl (fun r65 g65 h65 => ?_)
        obtain ⟨rfl, rfl⟩ := h65
        refine v_iload_n o 3 dX7_tryCrossing_68 rfl ?_
        refine v_iload_n o 4 dX7_tryCrossing_69 rfl ?_
        refine v_cSi o [.int p2, .int p3] [.ref ((a + 1410) + 1)] (fun sz => metX6_codeOf l G P g58 sz p2 p3 _ h) (cwX7_266 o.1.2.2.2.2 (by decide)) rfl (Nat.le_of_ble_eq_true rfl) ⟨Nat.zero_le _, Nat.zero_le _⟩ dX7_tryCrossing_70 rfl (fun r70 g70 h => ?_)
        refine v_cVv o [.int r70] [] (fun sz => metX6_add l G P g70 sz ((a + 1410) + 1) (wfLoaf_t0 (wfComp_t5 ha)) r70 _ h) (cwX7_270 o.1.2.2.2.2 (by decide)) ⟨_, _, rfl⟩ (by decide) (wfWord_o (wfLoaf_t0 (wfComp_t5 ha))) rfl (Nat.le_of_ble_eq_true rfl) ⟨Nat.zero_le _, Nat.zero_le _⟩ dX7_tryCrossing_73 rfl (fun g73 h => ?_)
        refine v_aload_n o 1 dX7_tryCrossing_76 rfl ?_
        refine v_gfR o lkX7_40 (by decide) (wfComp_o ha) (wfComp_r5 ha) dX7_tryCrossing_77 ?_
        refine v_cVi o [] [] (fun sz => metX2_settle l G P g73 sz (a + 1410) (wfComp_t5 ha) _ h) (cwX7_82 o.1.2.2.2.2 (by decide)) ⟨_, _, rfl⟩ (by decide) (wfLoaf_o (wfComp_t5 ha)) rfl (Nat.le_of_ble_eq_true rfl) ⟨Nat.zero_le _, Nat.zero_le _⟩ dX7_tryCrossing_80 rfl (fun r80 g80 h => ?_)
        exact v_iret o rfl hr dX7_tryCrossing_83 h
      · replace h := h.2 c44
        refine v_iconst o (v := 1) dX7_tryCrossing_47 (by decide) ?_
        exact v_iret o rfl hr dX7_tryCrossing_48 h
    · replace h := h.2 c32
      refine v_iconst o (v := 4) dX7_tryCrossing_35 (by decide) ?_
      exact v_iret o rfl hr dX7_tryCrossing_36 h
  · replace h := h.2 c8
    refine v_iconst o (v := 3) dX7_tryCrossing_11 (by decide) ?_
    exact v_iret o rfl hr dX7_tryCrossing_12 h
abbrev kX7_tryCrossing := @vX7_tryCrossing
abbrev metX7_tryCrossing := @mX7_tryCrossing

def vX7_tryTakingBack (P : Sk) (f : St) (a : Nat) (p1 : Int32) (K : Int32 → St → Prop) : Prop :=
  kX0_has P f (a + 4) p1 (fun r5 g5 => (¬ r5 = 0 → kX6_size P g5 ((atB (a + 4) p1) + 1) (fun r26 g26 => (¬ r26 = 0 → kX6_copyFrom P g26 ((a + 1410) + 1) ((atB (a + 4) p1) + 1) (fun g43 => kX6_size P g43 ((atB (a + 4) p1) + 1) (fun r54 g54 => kX6_removeAt P g54 ((a + 1410) + 1) (r54 - 1) (fun g59 => kX2_settle P g59 (a + 1410) (fun r66 g66 => K r66 g66))))) ∧ (r26 = 0 → K 6 g26))) ∧ (r5 = 0 → K 3 g5))
set_option maxRecDepth 20000 in
set_option maxHeartbeats 4000000 in
theorem mX7_tryTakingBack (l : Launch) (G : Gl) (P : Sk) (f : St) (sz : Nat) (a : Nat) (ha : IsComp P a) (p1 : Int32) (K : Int32 → St → Prop) (h : vX7_tryTakingBack P f a p1 K)  :
  Met l yX7_tryTakingBack (wU yX7_tryTakingBack cX7_tryTakingBack 3 (some .int)) rmX7_tryTakingBack (PcW G P f sz [.ref a, .int p1]) (QcI G P sz K) 0 0 (frA P sz) := by
  refine v_met (own := RX7) [.ref a, .int p1] (by decide +kernel) rfl (Nat.le_of_ble_eq_true rfl) (fun p e s m args below meth c hsz o hr hnm => ?_)
  refine v_lv (lv2 := [(0, .ref a), (1, .int p1)]) rfl ?_
  unfold vX7_tryTakingBack at h
  refine v_aload_n o 0 dX7_tryTakingBack_0 rfl ?_
  refine v_gfR o lkX7_19 (by decide) (wfComp_o ha) (wfComp_r1 ha) dX7_tryTakingBack_1 ?_
  refine v_iload_n o 1 dX7_tryTakingBack_4 rfl ?_
  refine v_cVi o [.int p1] [] (fun sz => metX0_has l G P f sz (a + 4) (wfComp_t1 ha) p1 _ h) (cwX7_246 o.1.2.2.2.2 (by decide)) ⟨_, _, rfl⟩ (by decide) (wfBoard_o (wfComp_t1 ha)) rfl (Nat.le_of_ble_eq_true rfl) ⟨Nat.zero_le _, Nat.zero_le _⟩ dX7_tryTakingBack_5 rfl (fun r5 g5 h => ?_)
  refine v_if_ne o (tgt := 13) dX7_tryTakingBack_8 (by decide) (fun c8 => ?_) (fun c8 => ?_)
  · replace h := h.1 c8
    refine v_aload_n o 0 dX7_tryTakingBack_13 rfl ?_
    refine v_gfR o lkX7_19 (by decide) (wfComp_o ha) (wfComp_r1 ha) dX7_tryTakingBack_14 ?_
    refine v_iload_n o 1 dX7_tryTakingBack_17 rfl ?_
    refine v_cVr o [.int p1] [] (fun sz => metX0_at l G P g5 sz (a + 4) (wfComp_t1 ha) p1) (cwX7_102 o.1.2.2.2.2 (by decide)) ⟨_, _, rfl⟩ (by decide) (wfBoard_o (wfComp_t1 ha)) rfl (Nat.le_of_ble_eq_true rfl) ⟨Nat.zero_le _, Nat.zero_le _⟩ dX7_tryTakingBack_18 rfl (fun r18 g18 h18 => ?_)
    obtain ⟨rfl, rfl⟩ := h18
    refine v_cVr o [] [] (fun sz => metX2_word l G P g5 sz (atB (a + 4) p1) (is_atB (wfComp_t1 ha) p1)) (cwX7_74 o.1.2.2.2.2 (by decide)) ⟨_, _, rfl⟩ (by decide) (wfLoaf_o (is_atB (wfComp_t1 ha) p1)) rfl (Nat.le_of_ble_eq_true rfl) ⟨Nat.zero_le _, Nat.zero_le _⟩ dX7_tryTakingBack_21 rfl (fun r21 g21 h21 => ?_)
    obtain ⟨rfl, rfl⟩ := h21
    refine v_astore_n o (lv' := [(2, .ref ((atB (a + 4) p1) + 1)), (0, .ref a), (1, .int p1)]) dX7_tryTakingBack_24 rfl (by decide) rfl ?_
    refine v_aload_n o 0 dX7_tryTakingBack_25 rfl ?_
    refine v_cVi o [] [] (fun sz => metX6_size l G P g5 sz ((atB (a + 4) p1) + 1) (wfLoaf_t0 (is_atB (wfComp_t1 ha) p1)) _ h) (cwX7_106 o.1.2.2.2.2 (by decide)) ⟨_, _, rfl⟩ (by decide) (wfWord_o (wfLoaf_t0 (is_atB (wfComp_t1 ha) p1))) rfl (Nat.le_of_ble_eq_true rfl) ⟨Nat.zero_le _, Nat.zero_le _⟩ dX7_tryTakingBack_26 rfl (fun r26 g26 h => ?_)
    refine v_if_ne o (tgt := 35) dX7_tryTakingBack_29 (by decide) (fun c29 => ?_) (fun c29 => ?_)
    · replace h := h.1 c29
      refine v_aload_n o 1 dX7_tryTakingBack_35 rfl ?_
      refine v_gfR o lkX7_40 (by decide) (wfComp_o ha) (wfComp_r5 ha) dX7_tryTakingBack_36 ?_
      refine v_cVr o [] [] (fun sz => metX2_word l G P g26 sz (a + 1410) (wfComp_t5 ha)) (cwX7_74 o.1.2.2.2.2 (by decide)) ⟨_, _, rfl⟩ (by decide) (wfLoaf_o (wfComp_t5 ha)) rfl (Nat.le_of_ble_eq_true rfl) ⟨Nat.zero_le _, Nat.zero_le _⟩ dX7_tryTakingBack_39 rfl (fun r39 g39 h39 => ?_)
      obtain ⟨rfl, rfl⟩ := h39
      refine v_aload_n o 0 dX7_tryTakingBack_42 rfl ?_
      refine v_cVv o [.ref ((atB (a + 4) p1) + 1)] [] (fun sz => metX6_copyFrom l G P g26 sz ((a + 1410) + 1) (wfLoaf_t0 (wfComp_t5 ha)) ((atB (a + 4) p1) + 1) (wfLoaf_t0 (is_atB (wfComp_t1 ha) p1)) _ h) (cwX7_264 o.1.2.2.2.2 (by decide)) ⟨_, _, rfl⟩ (by decide) (wfWord_o (wfLoaf_t0 (wfComp_t5 ha))) rfl (Nat.le_of_ble_eq_true rfl) ⟨Nat.zero_le _, Nat.zero_le _⟩ dX7_tryTakingBack_43 rfl (fun g43 h => ?_)
      refine v_aload_n o 1 dX7_tryTakingBack_46 rfl ?_
      refine v_gfR o lkX7_40 (by decide) (wfComp_o ha) (wfComp_r5 ha) dX7_tryTakingBack_47 ?_
      refine v_cVr o [] [] (fun sz => metX2_word l G P g43 sz (a + 1410) (wfComp_t5 ha)) (cwX7_74 o.1.2.2.2.2 (by decide)) ⟨_, _, rfl⟩ (by decide) (wfLoaf_o (wfComp_t5 ha)) rfl (Nat.le_of_ble_eq_true rfl) ⟨Nat.zero_le _, Nat.zero_le _⟩ dX7_tryTakingBack_50 rfl (fun r50 g50 h50 => ?_)
      obtain ⟨rfl, rfl⟩ := h50
      refine v_aload_n o 0 dX7_tryTakingBack_53 rfl ?_
      refine v_cVi o [] [.ref ((a + 1410) + 1)] (fun sz => metX6_size l G P g43 sz ((atB (a + 4) p1) + 1) (wfLoaf_t0 (is_atB (wfComp_t1 ha) p1)) _ h) (cwX7_106 o.1.2.2.2.2 (by decide)) ⟨_, _, rfl⟩ (by decide) (wfWord_o (wfLoaf_t0 (is_atB (wfComp_t1 ha) p1))) rfl (Nat.le_of_ble_eq_true rfl) ⟨Nat.zero_le _, Nat.zero_le _⟩ dX7_tryTakingBack_54 rfl (fun r54 g54 h => ?_)
      refine v_iconst o (v := 1) dX7_tryTakingBack_57 (by decide) ?_
      refine v_isub o dX7_tryTakingBack_58 ?_
      refine v_cVv o [.int (r54 - 1)] [] (fun sz => metX6_removeAt l G P g54 sz ((a + 1410) + 1) (wfLoaf_t0 (wfComp_t5 ha)) (r54 - 1) _ h) (cwX7_273 o.1.2.2.2.2 (by decide)) ⟨_, _, rfl⟩ (by decide) (wfWord_o (wfLoaf_t0 (wfComp_t5 ha))) rfl (Nat.le_of_ble_eq_true rfl) ⟨Nat.zero_le _, Nat.zero_le _⟩ dX7_tryTakingBack_59 rfl (fun g59 h => ?_)
      refine v_aload_n o 1 dX7_tryTakingBack_62 rfl ?_
      refine v_gfR o lkX7_40 (by decide) (wfComp_o ha) (wfComp_r5 ha) dX7_tryTakingBack_63 ?_
      refine v_cVi o [] [] (fun sz => metX2_settle l G P g59 sz (a + 1410) (wfComp_t5 ha) _ h) (cwX7_82 o.1.2.2.2.2 (by decide)) ⟨_, _, rfl⟩ (by decide) (wfLoaf_o (wfComp_t5 ha)) rfl (Nat.le_of_ble_eq_true rfl) ⟨Nat.zero_le _, Nat.zero_le _⟩ dX7_tryTakingBack_66 rfl (fun r66 g66 h => ?_)
      exact v_iret o rfl hr dX7_tryTakingBack_69 h
    · replace h := h.2 c29
      refine v_bipush o (v := 6) dX7_tryTakingBack_32 (by decide) ?_
      exact v_iret o rfl hr dX7_tryTakingBack_34 h
  · replace h := h.2 c8
    refine v_iconst o (v := 3) dX7_tryTakingBack_11 (by decide) ?_
    exact v_iret o rfl hr dX7_tryTakingBack_12 h
abbrev kX7_tryTakingBack := @vX7_tryTakingBack
abbrev metX7_tryTakingBack := @mX7_tryTakingBack

def vX7_tryChange (P : Sk) (f : St) (a : Nat) (p1 : Int32) (p2 : Int32) (K : Int32 → St → Prop) : Prop :=
  kX0_has P f (a + 4) p1 (fun r5 g5 => (¬ r5 = 0 → kX6_makeChanged P g5 ((a + 1410) + 1) ((atB (a + 4) p1) + 1) p2 (fun g32 => kX2_settle P g32 (a + 1410) (fun r39 g39 => K r39 g39))) ∧ (r5 = 0 → K 3 g5))
set_option maxRecDepth 20000 in
set_option maxHeartbeats 4000000 in
theorem mX7_tryChange (l : Launch) (G : Gl) (P : Sk) (f : St) (sz : Nat) (a : Nat) (ha : IsComp P a) (p1 : Int32) (p2 : Int32) (K : Int32 → St → Prop) (h : vX7_tryChange P f a p1 p2 K)  :
  Met l yX7_tryChange (wU yX7_tryChange cX7_tryChange 3 (some .int)) rmX7_tryChange (PcW G P f sz [.ref a, .int p1, .int p2]) (QcI G P sz K) 0 0 (frA P sz) := by
  refine v_met (own := RX7) [.ref a, .int p1, .int p2] (by decide +kernel) rfl (Nat.le_of_ble_eq_true rfl) (fun p e s m args below meth c hsz o hr hnm => ?_)
  refine v_lv (lv2 := [(0, .ref a), (1, .int p1), (2, .int p2)]) rfl ?_
  unfold vX7_tryChange at h
  refine v_aload_n o 0 dX7_tryChange_0 rfl ?_
  refine v_gfR o lkX7_19 (by decide) (wfComp_o ha) (wfComp_r1 ha) dX7_tryChange_1 ?_
  refine v_iload_n o 1 dX7_tryChange_4 rfl ?_
  refine v_cVi o [.int p1] [] (fun sz => metX0_has l G P f sz (a + 4) (wfComp_t1 ha) p1 _ h) (cwX7_246 o.1.2.2.2.2 (by decide)) ⟨_, _, rfl⟩ (by decide) (wfBoard_o (wfComp_t1 ha)) rfl (Nat.le_of_ble_eq_true rfl) ⟨Nat.zero_le _, Nat.zero_le _⟩ dX7_tryChange_5 rfl (fun r5 g5 h => ?_)
  refine v_if_ne o (tgt := 13) dX7_tryChange_8 (by decide) (fun c8 => ?_) (fun c8 => ?_)
  · replace h := h.1 c8
    refine v_aload_n o 0 dX7_tryChange_13 rfl ?_
    refine v_gfR o lkX7_40 (by decide) (wfComp_o ha) (wfComp_r5 ha) dX7_tryChange_14 ?_
    refine v_cVr o [] [] (fun sz => metX2_word l G P g5 sz (a + 1410) (wfComp_t5 ha)) (cwX7_74 o.1.2.2.2.2 (by decide)) ⟨_, _, rfl⟩ (by decide) (wfLoaf_o (wfComp_t5 ha)) rfl (Nat.le_of_ble_eq_true rfl) ⟨Nat.zero_le _, Nat.zero_le _⟩ dX7_tryChange_17 rfl (fun r17 g17 h17 => ?_)
    obtain ⟨rfl, rfl⟩ := h17
    refine v_aload_n o 0 dX7_tryChange_20 rfl ?_
    refine v_gfR o lkX7_19 (by decide) (wfComp_o ha) (wfComp_r1 ha) dX7_tryChange_21 ?_
    refine v_iload_n o 1 dX7_tryChange_24 rfl ?_
    refine v_cVr o [.int p1] [.ref ((a + 1410) + 1)] (fun sz => metX0_at l G P g5 sz (a + 4) (wfComp_t1 ha) p1) (cwX7_102 o.1.2.2.2.2 (by decide)) ⟨_, _, rfl⟩ (by decide) (wfBoard_o (wfComp_t1 ha)) rfl (Nat.le_of_ble_eq_true rfl) ⟨Nat.zero_le _, Nat.zero_le _⟩ dX7_tryChange_25 rfl (fun r25 g25 h25 => ?_)
    obtain ⟨rfl, rfl⟩ := h25
    refine v_cVr o [] [.ref ((a + 1410) + 1)] (fun sz => metX2_word l G P g5 sz (atB (a + 4) p1) (is_atB (wfComp_t1 ha) p1)) (cwX7_74 o.1.2.2.2.2 (by decide)) ⟨_, _, rfl⟩ (by decide) (wfLoaf_o (is_atB (wfComp_t1 ha) p1)) rfl (Nat.le_of_ble_eq_true rfl) ⟨Nat.zero_le _, Nat.zero_le _⟩ dX7_tryChange_28 rfl (fun r28 g28 h28 => ?_)
    obtain ⟨rfl, rfl⟩ := h28
    refine v_iload_n o 2 dX7_tryChange_31 rfl ?_
    refine v_cVv o [.ref ((atB (a + 4) p1) + 1), .int p2] [] (fun sz => metX6_makeChanged l G P g5 sz ((a + 1410) + 1) (wfLoaf_t0 (wfComp_t5 ha)) ((atB (a + 4) p1) + 1) (wfLoaf_t0 (is_atB (wfComp_t1 ha) p1)) p2 _ h) (cwX7_276 o.1.2.2.2.2 (by decide)) ⟨_, _, rfl⟩ (by decide) (wfWord_o (wfLoaf_t0 (wfComp_t5 ha))) rfl (Nat.le_of_ble_eq_true rfl) ⟨Nat.zero_le _, Nat.zero_le _⟩ dX7_tryChange_32 rfl (fun g32 h => ?_)
    refine v_aload_n o 0 dX7_tryChange_35 rfl ?_
    refine v_gfR o lkX7_40 (by decide) (wfComp_o ha) (wfComp_r5 ha) dX7_tryChange_36 ?_
    refine v_cVi o [] [] (fun sz => metX2_settle l G P g32 sz (a + 1410) (wfComp_t5 ha) _ h) (cwX7_82 o.1.2.2.2.2 (by decide)) ⟨_, _, rfl⟩ (by decide) (wfLoaf_o (wfComp_t5 ha)) rfl (Nat.le_of_ble_eq_true rfl) ⟨Nat.zero_le _, Nat.zero_le _⟩ dX7_tryChange_39 rfl (fun r39 g39 h => ?_)
    exact v_iret o rfl hr dX7_tryChange_42 h
  · replace h := h.2 c8
    refine v_iconst o (v := 3) dX7_tryChange_11 (by decide) ?_
    exact v_iret o rfl hr dX7_tryChange_12 h
abbrev kX7_tryChange := @vX7_tryChange
abbrev metX7_tryChange := @mX7_tryChange

def vX7_tryJoining (P : Sk) (f : St) (a : Nat) (p1 : Int32) (p2 : Int32) (K : Int32 → St → Prop) : Prop :=
  kX0_has P f (a + 4) p1 (fun r5 g5 => (r5 = 0 → K 3 g5) ∧ (¬ r5 = 0 → kX0_has P g5 (a + 4) p2 (fun r16 g16 => (¬ r16 = 0 → kX6_strands P g16 ((atB (a + 4) p1) + 1) (fun r50 g50 => kX6_strands P g50 ((atB (a + 4) p2) + 1) (fun r55 g55 => (r50 = r55 → kX6_size P g55 ((atB (a + 4) p1) + 1) (fun r64 g64 => kX6_size P g64 ((atB (a + 4) p2) + 1) (fun r69 g69 => (r64 + r69 ≤ 24 → kX6_copyFrom P g69 ((a + 1410) + 1) ((atB (a + 4) p1) + 1) (fun g88 => kX6_addAll P g88 ((a + 1410) + 1) ((atB (a + 4) p2) + 1) (fun g100 => kX2_settle P g100 (a + 1410) (fun r107 g107 => K r107 g107)))) ∧ (¬ r64 + r69 ≤ 24 → K 1 g69)))) ∧ (¬ r50 = r55 → K 5 g55)))) ∧ (r16 = 0 → K 3 g16))))
set_option maxRecDepth 20000 in
set_option maxHeartbeats 4000000 in
theorem mX7_tryJoining (l : Launch) (G : Gl) (P : Sk) (f : St) (sz : Nat) (a : Nat) (ha : IsComp P a) (p1 : Int32) (p2 : Int32) (K : Int32 → St → Prop) (h : vX7_tryJoining P f a p1 p2 K)  :
  Met l yX7_tryJoining (wU yX7_tryJoining cX7_tryJoining 5 (some .int)) rmX7_tryJoining (PcW G P f sz [.ref a, .int p1, .int p2]) (QcI G P sz K) 0 0 (frA P sz) := by
  refine v_met (own := RX7) [.ref a, .int p1, .int p2] (by decide +kernel) rfl (Nat.le_of_ble_eq_true rfl) (fun p e s m args below meth c hsz o hr hnm => ?_)
  refine v_lv (lv2 := [(0, .ref a), (1, .int p1), (2, .int p2)]) rfl ?_
  unfold vX7_tryJoining at h
  refine v_aload_n o 0 dX7_tryJoining_0 rfl ?_
  refine v_gfR o lkX7_19 (by decide) (wfComp_o ha) (wfComp_r1 ha) dX7_tryJoining_1 ?_
  refine v_iload_n o 1 dX7_tryJoining_4 rfl ?_
  refine v_cVi o [.int p1] [] (fun sz => metX0_has l G P f sz (a + 4) (wfComp_t1 ha) p1 _ h) (cwX7_246 o.1.2.2.2.2 (by decide)) ⟨_, _, rfl⟩ (by decide) (wfBoard_o (wfComp_t1 ha)) rfl (Nat.le_of_ble_eq_true rfl) ⟨Nat.zero_le _, Nat.zero_le _⟩ dX7_tryJoining_5 rfl (fun r5 g5 h => ?_)
  refine v_if_eq o (tgt := 22) dX7_tryJoining_8 (by decide) (fun c8 => ?_) (fun c8 => ?_)
  · replace h := h.1 c8
    refine v_iconst o (v := 3) dX7_tryJoining_22 (by decide) ?_
    exact v_iret o rfl hr dX7_tryJoining_23 h
  · replace h := h.2 c8
    refine v_aload_n o 0 dX7_tryJoining_11 rfl ?_
    refine v_gfR o lkX7_19 (by decide) (wfComp_o ha) (wfComp_r1 ha) dX7_tryJoining_12 ?_
    refine v_iload_n o 2 dX7_tryJoining_15 rfl ?_
    refine v_cVi o [.int p2] [] (fun sz => metX0_has l G P g5 sz (a + 4) (wfComp_t1 ha) p2 _ h) (cwX7_246 o.1.2.2.2.2 (by decide)) ⟨_, _, rfl⟩ (by decide) (wfBoard_o (wfComp_t1 ha)) rfl (Nat.le_of_ble_eq_true rfl) ⟨Nat.zero_le _, Nat.zero_le _⟩ dX7_tryJoining_16 rfl (fun r16 g16 h => ?_)
    refine v_if_ne o (tgt := 24) dX7_tryJoining_19 (by decide) (fun c19 => ?_) (fun c19 => ?_)
    · replace h := h.1 c19
      refine v_aload_n o 0 dX7_tryJoining_24 rfl ?_
      refine v_gfR o lkX7_19 (by decide) (wfComp_o ha) (wfComp_r1 ha) dX7_tryJoining_25 ?_
      refine v_iload_n o 1 dX7_tryJoining_28 rfl ?_
      refine v_cVr o [.int p1] [] (fun sz => metX0_at l G P g16 sz (a + 4) (wfComp_t1 ha) p1) (cwX7_102 o.1.2.2.2.2 (by decide)) ⟨_, _, rfl⟩ (by decide) (wfBoard_o (wfComp_t1 ha)) rfl (Nat.le_of_ble_eq_true rfl) ⟨Nat.zero_le _, Nat.zero_le _⟩ dX7_tryJoining_29 rfl (fun r29 g29 h29 => ?_)
      obtain ⟨rfl, rfl⟩ := h29
      refine v_cVr o [] [] (fun sz => metX2_word l G P g16 sz (atB (a + 4) p1) (is_atB (wfComp_t1 ha) p1)) (cwX7_74 o.1.2.2.2.2 (by decide)) ⟨_, _, rfl⟩ (by decide) (wfLoaf_o (is_atB (wfComp_t1 ha) p1)) rfl (Nat.le_of_ble_eq_true rfl) ⟨Nat.zero_le _, Nat.zero_le _⟩ dX7_tryJoining_32 rfl (fun r32 g32 h32 => ?_)
      obtain ⟨rfl, rfl⟩ := h32
      refine v_astore_n o (lv' := [(3, .ref ((atB (a + 4) p1) + 1)), (0, .ref a), (1, .int p1), (2, .int p2)]) dX7_tryJoining_35 rfl (by decide) rfl ?_
      refine v_aload_n o 1 dX7_tryJoining_36 rfl ?_
      refine v_gfR o lkX7_19 (by decide) (wfComp_o ha) (wfComp_r1 ha) dX7_tryJoining_37 ?_
      refine v_iload_n o 3 dX7_tryJoining_40 rfl ?_
      refine v_cVr o [.int p2] [] (fun sz => metX0_at l G P g16 sz (a + 4) (wfComp_t1 ha) p2) (cwX7_102 o.1.2.2.2.2 (by decide)) ⟨_, _, rfl⟩ (by decide) (wfBoard_o (wfComp_t1 ha)) rfl (Nat.le_of_ble_eq_true rfl) ⟨Nat.zero_le _, Nat.zero_le _⟩ dX7_tryJoining_41 rfl (fun r41 g41 h41 => ?_)
      obtain ⟨rfl, rfl⟩ := h41
      refine v_cVr o [] [] (fun sz => metX2_word l G P g16 sz (atB (a + 4) p2) (is_atB (wfComp_t1 ha) p2)) (cwX7_74 o.1.2.2.2.2 (by decide)) ⟨_, _, rfl⟩ (by decide) (wfLoaf_o (is_atB (wfComp_t1 ha) p2)) rfl (Nat.le_of_ble_eq_true rfl) ⟨Nat.zero_le _, Nat.zero_le _⟩ dX7_tryJoining_44 rfl (fun r44 g44 h44 => ?_)
      obtain ⟨rfl, rfl⟩ := h44
      refine v_astore o (lv' := [(4, .ref ((atB (a + 4) p2) + 1)), (3, .ref ((atB (a + 4) p1) + 1)), (0, .ref a), (1, .int p1), (2, .int p2)]) dX7_tryJoining_47 (by decide) rfl ?_
      refine v_aload_n o 1 dX7_tryJoining_49 rfl ?_
      refine v_cVi o [] [] (fun sz => metX6_strands l G P g16 sz ((atB (a + 4) p1) + 1) (wfLoaf_t0 (is_atB (wfComp_t1 ha) p1)) _ h) (cwX7_280 o.1.2.2.2.2 (by decide)) ⟨_, _, rfl⟩ (by decide) (wfWord_o (wfLoaf_t0 (is_atB (wfComp_t1 ha) p1))) rfl (Nat.le_of_ble_eq_true rfl) ⟨Nat.zero_le _, Nat.zero_le _⟩ dX7_tryJoining_50 rfl (fun r50 g50 h => ?_)
      refine v_aload o 0 dX7_tryJoining_53 rfl ?_
      refine v_cVi o [] [.int r50] (fun sz => metX6_strands l G P g50 sz ((atB (a + 4) p2) + 1) (wfLoaf_t0 (is_atB (wfComp_t1 ha) p2)) _ h) (cwX7_280 o.1.2.2.2.2 (by decide)) ⟨_, _, rfl⟩ (by decide) (wfWord_o (wfLoaf_t0 (is_atB (wfComp_t1 ha) p2))) rfl (Nat.le_of_ble_eq_true rfl) ⟨Nat.zero_le _, Nat.zero_le _⟩ dX7_tryJoining_55 rfl (fun r55 g55 h => ?_)
      refine v_icmp_eq o (tgt := 63) dX7_tryJoining_58 (by decide) (fun c58 => ?_) (fun c58 => ?_)
      · replace h := h.1 c58
        refine v_aload_n o 1 dX7_tryJoining_63 rfl ?_
        refine v_cVi o [] [] (fun sz => metX6_size l G P g55 sz ((atB (a + 4) p1) + 1) (wfLoaf_t0 (is_atB (wfComp_t1 ha) p1)) _ h) (cwX7_106 o.1.2.2.2.2 (by decide)) ⟨_, _, rfl⟩ (by decide) (wfWord_o (wfLoaf_t0 (is_atB (wfComp_t1 ha) p1))) rfl (Nat.le_of_ble_eq_true rfl) ⟨Nat.zero_le _, Nat.zero_le _⟩ dX7_tryJoining_64 rfl (fun r64 g64 h => ?_)
        refine v_aload o 0 dX7_tryJoining_67 rfl ?_
        refine v_cVi o [] [.int r64] (fun sz => metX6_size l G P g64 sz ((atB (a + 4) p2) + 1) (wfLoaf_t0 (is_atB (wfComp_t1 ha) p2)) _ h) (cwX7_106 o.1.2.2.2.2 (by decide)) ⟨_, _, rfl⟩ (by decide) (wfWord_o (wfLoaf_t0 (is_atB (wfComp_t1 ha) p2))) rfl (Nat.le_of_ble_eq_true rfl) ⟨Nat.zero_le _, Nat.zero_le _⟩ dX7_tryJoining_69 rfl (fun r69 g69 h => ?_)
        refine v_iadd o dX7_tryJoining_72 ?_
        refine v_bipush o (v := 24) dX7_tryJoining_73 (by decide) ?_
        refine v_icmp_le o (tgt := 80) dX7_tryJoining_75 (by decide) (fun c75 => ?_) (fun c75 => ?_)
        · replace h := h.1 c75
          refine v_aload_n o 2 dX7_tryJoining_80 rfl ?_
          refine v_gfR o lkX7_40 (by decide) (wfComp_o ha) (wfComp_r5 ha) dX7_tryJoining_81 ?_
          refine v_cVr o [] [] (fun sz => metX2_word l G P g69 sz (a + 1410) (wfComp_t5 ha)) (cwX7_74 o.1.2.2.2.2 (by decide)) ⟨_, _, rfl⟩ (by decide) (wfLoaf_o (wfComp_t5 ha)) rfl (Nat.le_of_ble_eq_true rfl) ⟨Nat.zero_le _, Nat.zero_le _⟩ dX7_tryJoining_84 rfl (fun r84 g84 h84 => ?_)
          obtain ⟨rfl, rfl⟩ := h84
          refine v_aload_n o 1 dX7_tryJoining_87 rfl ?_
          refine v_cVv o [.ref ((atB (a + 4) p1) + 1)] [] (fun sz => metX6_copyFrom l G P g69 sz ((a + 1410) + 1) (wfLoaf_t0 (wfComp_t5 ha)) ((atB (a + 4) p1) + 1) (wfLoaf_t0 (is_atB (wfComp_t1 ha) p1)) _ h) (cwX7_264 o.1.2.2.2.2 (by decide)) ⟨_, _, rfl⟩ (by decide) (wfWord_o (wfLoaf_t0 (wfComp_t5 ha))) rfl (Nat.le_of_ble_eq_true rfl) ⟨Nat.zero_le _, Nat.zero_le _⟩ dX7_tryJoining_88 rfl (fun g88 h => ?_)
          refine v_aload_n o 2 dX7_tryJoining_91 rfl ?_
          refine v_gfR o lkX7_40 (by decide) (wfComp_o ha) (wfComp_r5 ha) dX7_tryJoining_92 ?_
          refine v_cVr o [] [] (fun sz => metX2_word l G P g88 sz (a + 1410) (wfComp_t5 ha)) (cwX7_74 o.1.2.2.2.2 (by decide)) ⟨_, _, rfl⟩ (by decide) (wfLoaf_o (wfComp_t5 ha)) rfl (Nat.le_of_ble_eq_true rfl) ⟨Nat.zero_le _, Nat.zero_le _⟩ dX7_tryJoining_95 rfl (fun r95 g95 h95 => ?_)
          obtain ⟨rfl, rfl⟩ := h95
          refine v_aload o 0 dX7_tryJoining_98 rfl ?_
          refine v_cVv o [.ref ((atB (a + 4) p2) + 1)] [] (fun sz => metX6_addAll l G P g88 sz ((a + 1410) + 1) (wfLoaf_t0 (wfComp_t5 ha)) ((atB (a + 4) p2) + 1) (wfLoaf_t0 (is_atB (wfComp_t1 ha) p2)) _ h) (cwX7_283 o.1.2.2.2.2 (by decide)) ⟨_, _, rfl⟩ (by decide) (wfWord_o (wfLoaf_t0 (wfComp_t5 ha))) rfl (Nat.le_of_ble_eq_true rfl) ⟨Nat.zero_le _, Nat.zero_le _⟩ dX7_tryJoining_100 rfl (fun g100 h => ?_)
          refine v_aload_n o 2 dX7_tryJoining_103 rfl ?_
          refine v_gfR o lkX7_40 (by decide) (wfComp_o ha) (wfComp_r5 ha) dX7_tryJoining_104 ?_
          refine v_cVi o [] [] (fun sz => metX2_settle l G P g100 sz (a + 1410) (wfComp_t5 ha) _ h) (cwX7_82 o.1.2.2.2.2 (by decide)) ⟨_, _, rfl⟩ (by decide) (wfLoaf_o (wfComp_t5 ha)) rfl (Nat.le_of_ble_eq_true rfl) ⟨Nat.zero_le _, Nat.zero_le _⟩ dX7_tryJoining_107 rfl (fun r107 g107 h => ?_)
          exact v_iret o rfl hr dX7_tryJoining_110 h
        · replace h := h.2 c75
          refine v_iconst o (v := 1) dX7_tryJoining_78 (by decide) ?_
          exact v_iret o rfl hr dX7_tryJoining_79 h
      · replace h := h.2 c58
        refine v_iconst o (v := 5) dX7_tryJoining_61 (by decide) ?_
        exact v_iret o rfl hr dX7_tryJoining_62 h
    · replace h := h.2 c19
      refine v_iconst o (v := 3) dX7_tryJoining_22 (by decide) ?_
      exact v_iret o rfl hr dX7_tryJoining_23 h
abbrev kX7_tryJoining := @vX7_tryJoining
abbrev metX7_tryJoining := @mX7_tryJoining

def jX7_tryPart_84 (P : Sk) (a : Nat) (p1 : Int32) (K : Int32 → St → Prop) (x2 : Int32) (y1 : Int32) (y2 : Int32) (y3 : Int32) (f : St) : Prop :=
  kX7_tryCrossing P f a y1 y2 y3 (fun r84 g84 => K r84 g84)
def vX7_tryPart (P : Sk) (f : St) (a : Nat) (p1 : Int32) (K : Int32 → St → Prop) : Prop :=
  kX4_digitAt P f (a + 1) (p1 + 1) (fun r7 g7 => kX4_signAt P g7 (a + 1) p1 (fun r16 g16 => (r16 = 106 → kX4_digitAt P g16 (a + 1) (p1 + 3) (fun r97 g97 => kX7_tryJoining P g97 a r7 r97 (fun r100 g100 => K r100 g100))) ∧ (¬ r16 = 106 → (r16 = 120 → kX4_placeAt P g16 (a + 1) (p1 + 2) (fun r61 g61 => kX4_signAt P g61 (a + 1) (p1 + 3) (fun r71 g71 => (¬ r71 = 43 → jX7_tryPart_84 P a p1 K r7 r7 r61 0 g71) ∧ (r71 = 43 → jX7_tryPart_84 P a p1 K r7 r7 r61 1 g71)))) ∧ (¬ r16 = 120 → (r16 = 122 → kX7_tryTakingBack P g16 a r7 (fun r106 g106 => K r106 g106)) ∧ (¬ r16 = 122 → kX4_howAt P g16 (a + 1) p1 (fun r117 g117 => kX7_tryChange P g117 a r7 r117 (fun r120 g120 => K r120 g120)))))))
set_option maxRecDepth 20000 in
set_option maxHeartbeats 4000000 in
theorem mX7_tryPart (l : Launch) (G : Gl) (P : Sk) (f : St) (sz : Nat) (a : Nat) (ha : IsComp P a) (p1 : Int32) (K : Int32 → St → Prop) (h : vX7_tryPart P f a p1 K)  :
  Met l yX7_tryPart (wU yX7_tryPart cX7_tryPart 3 (some .int)) rmX7_tryPart (PcW G P f sz [.ref a, .int p1]) (QcI G P sz K) 0 0 (frA P sz) := by
  refine v_met (own := RX7) [.ref a, .int p1] (by decide +kernel) rfl (Nat.le_of_ble_eq_true rfl) (fun p e s m args below meth c hsz o hr hnm => ?_)
  refine v_lv (lv2 := [(0, .ref a), (1, .int p1)]) rfl ?_
  have J84 : ∀ (x2_84 : Int32) (y1_84 : Int32) (y2_84 : Int32) (y3_84 : Int32) (g84 : St), jX7_tryPart_84 P a p1 K x2_84 y1_84 y2_84 y3_84 g84 → V p l e rmX7_tryPart s m args below meth c 3 G (frA P sz) (MQ below (QcI G P sz K) args s 0 0 (frA P sz)) 0 0 P [(0, .ref a), (1, .int p1), (2, .int x2_84)] [.int y3_84, .int y2_84, .int y1_84, .ref a] 84 g84 := by
    intro x2_84 y1_84 y2_84 y3_84 g84  h
    unfold jX7_tryPart_84 at h
    refine v_cVi o [.int y1_84, .int y2_84, .int y3_84] [] (fun sz => metX7_tryCrossing l G P g84 sz a ha y1_84 y2_84 y3_84 _ h) (cwX7_114 o.1.2.2.2.2 (by decide)) ⟨_, _, rfl⟩ (by decide) (wfComp_o ha) rfl (Nat.le_of_ble_eq_true rfl) ⟨Nat.zero_le _, Nat.zero_le _⟩ dX7_tryPart_84 rfl (fun r84 g84 h => ?_)
    exact v_iret o rfl hr dX7_tryPart_87 h
  unfold vX7_tryPart at h
  refine v_aload_n o 0 dX7_tryPart_0 rfl ?_
  refine v_gfR o lkX7_10 (by decide) (wfComp_o ha) (wfComp_r0 ha) dX7_tryPart_1 ?_
  refine v_iload_n o 1 dX7_tryPart_4 rfl ?_
  refine v_iconst o (v := 1) dX7_tryPart_5 (by decide) ?_
  refine v_iadd o dX7_tryPart_6 ?_
  refine v_cVi o [.int (p1 + 1)] [] (fun sz => metX4_digitAt l G P f sz (a + 1) (wfComp_t0 ha) (p1 + 1) _ h) (cwX7_286 o.1.2.2.2.2 (by decide)) ⟨_, _, rfl⟩ (by decide) (wfText_o (wfComp_t0 ha)) rfl (Nat.le_of_ble_eq_true rfl) ⟨Nat.zero_le _, Nat.zero_le _⟩ dX7_tryPart_7 rfl (fun r7 g7 h => ?_)
  refine v_istore_n o (lv' := [(2, .int r7), (0, .ref a), (1, .int p1)]) dX7_tryPart_10 rfl (by decide) rfl ?_
  refine v_aload_n o 1 dX7_tryPart_11 rfl ?_
  refine v_gfR o lkX7_10 (by decide) (wfComp_o ha) (wfComp_r0 ha) dX7_tryPart_12 ?_
  refine v_iload_n o 2 dX7_tryPart_15 rfl ?_
  refine v_cVi o [.int p1] [] (fun sz => metX4_signAt l G P g7 sz (a + 1) (wfComp_t0 ha) p1 _ h) (cwX7_243 o.1.2.2.2.2 (by decide)) ⟨_, _, rfl⟩ (by decide) (wfText_o (wfComp_t0 ha)) rfl (Nat.le_of_ble_eq_true rfl) ⟨Nat.zero_le _, Nat.zero_le _⟩ dX7_tryPart_16 rfl (fun r16 g16 h => ?_)
  by_cases c19_106 : r16 = 106
  · replace h := h.1 c19_106
    refine v_lookup o (off := 69) (tgt := 88) dX7_tryPart_19 (by decide) (by rw [c19_106]; decide) (by decide) ?_
    refine v_aload_n o 1 dX7_tryPart_88 rfl ?_
    refine v_iload_n o 0 dX7_tryPart_89 rfl ?_
    refine v_aload_n o 1 dX7_tryPart_90 rfl ?_
    refine v_gfR o lkX7_10 (by decide) (wfComp_o ha) (wfComp_r0 ha) dX7_tryPart_91 ?_
    refine v_iload_n o 2 dX7_tryPart_94 rfl ?_
    refine v_iconst o (v := 3) dX7_tryPart_95 (by decide) ?_
    refine v_iadd o dX7_tryPart_96 ?_
    refine v_cVi o [.int (p1 + 3)] [.int r7, .ref a] (fun sz => metX4_digitAt l G P g16 sz (a + 1) (wfComp_t0 ha) (p1 + 3) _ h) (cwX7_286 o.1.2.2.2.2 (by decide)) ⟨_, _, rfl⟩ (by decide) (wfText_o (wfComp_t0 ha)) rfl (Nat.le_of_ble_eq_true rfl) ⟨Nat.zero_le _, Nat.zero_le _⟩ dX7_tryPart_97 rfl (fun r97 g97 h => ?_)
    refine v_cVi o [.int r7, .int r97] [] (fun sz => metX7_tryJoining l G P g97 sz a ha r7 r97 _ h) (cwX7_147 o.1.2.2.2.2 (by decide)) ⟨_, _, rfl⟩ (by decide) (wfComp_o ha) rfl (Nat.le_of_ble_eq_true rfl) ⟨Nat.zero_le _, Nat.zero_le _⟩ dX7_tryPart_100 rfl (fun r100 g100 h => ?_)
    exact v_iret o rfl hr dX7_tryPart_103 h
  · replace h := h.2 c19_106
    by_cases c19_120 : r16 = 120
    · replace h := h.1 c19_120
      refine v_lookup o (off := 33) (tgt := 52) dX7_tryPart_19 (by decide) (by rw [c19_120]; decide) (by decide) ?_
      refine v_aload_n o 1 dX7_tryPart_52 rfl ?_
      refine v_iload_n o 0 dX7_tryPart_53 rfl ?_
      refine v_aload_n o 1 dX7_tryPart_54 rfl ?_
      refine v_gfR o lkX7_10 (by decide) (wfComp_o ha) (wfComp_r0 ha) dX7_tryPart_55 ?_
      refine v_iload_n o 2 dX7_tryPart_58 rfl ?_
      refine v_iconst o (v := 2) dX7_tryPart_59 (by decide) ?_
      refine v_iadd o dX7_tryPart_60 ?_
      refine v_cVi o [.int (p1 + 2)] [.int r7, .ref a] (fun sz => metX4_placeAt l G P g16 sz (a + 1) (wfComp_t0 ha) (p1 + 2) _ h) (cwX7_289 o.1.2.2.2.2 (by decide)) ⟨_, _, rfl⟩ (by decide) (wfText_o (wfComp_t0 ha)) rfl (Nat.le_of_ble_eq_true rfl) ⟨Nat.zero_le _, Nat.zero_le _⟩ dX7_tryPart_61 rfl (fun r61 g61 h => ?_)
      refine v_aload_n o 1 dX7_tryPart_64 rfl ?_
      refine v_gfR o lkX7_10 (by decide) (wfComp_o ha) (wfComp_r0 ha) dX7_tryPart_65 ?_
      refine v_iload_n o 2 dX7_tryPart_68 rfl ?_
      refine v_iconst o (v := 3) dX7_tryPart_69 (by decide) ?_
      refine v_iadd o dX7_tryPart_70 ?_
      refine v_cVi o [.int (p1 + 3)] [.int r61, .int r7, .ref a] (fun sz => metX4_signAt l G P g61 sz (a + 1) (wfComp_t0 ha) (p1 + 3) _ h) (cwX7_243 o.1.2.2.2.2 (by decide)) ⟨_, _, rfl⟩ (by decide) (wfText_o (wfComp_t0 ha)) rfl (Nat.le_of_ble_eq_true rfl) ⟨Nat.zero_le _, Nat.zero_le _⟩ dX7_tryPart_71 rfl (fun r71 g71 h => ?_)
      refine v_bipush o (v := 43) dX7_tryPart_74 (by decide) ?_
      refine v_icmp_ne o (tgt := 83) dX7_tryPart_76 (by decide) (fun c76 => ?_) (fun c76 => ?_)
      · replace h := h.1 c76
        refine v_iconst o (v := 0) dX7_tryPart_83 (by decide) ?_
        refine v_sub [1, 2, 0] (lv2 := [(0, .ref a), (1, .int p1), (2, .int r7)]) rfl ?_
        exact J84 r7 r7 r61 0 g71  h
      · replace h := h.2 c76
        refine v_iconst o (v := 1) dX7_tryPart_79 (by decide) ?_
        refine v_goto o (tgt := 84) dX7_tryPart_80 (by decide) ?_
        refine v_sub [1, 2, 0] (lv2 := [(0, .ref a), (1, .int p1), (2, .int r7)]) rfl ?_
        exact J84 r7 r7 r61 1 g71  h
    · replace h := h.2 c19_120
      by_cases c19_122 : r16 = 122
      · replace h := h.1 c19_122
        refine v_lookup o (off := 85) (tgt := 104) dX7_tryPart_19 (by decide) (by rw [c19_122]; decide) (by decide) ?_
        refine v_aload_n o 1 dX7_tryPart_104 rfl ?_
        refine v_iload_n o 0 dX7_tryPart_105 rfl ?_
        refine v_cVi o [.int r7] [] (fun sz => metX7_tryTakingBack l G P g16 sz a ha r7 _ h) (cwX7_134 o.1.2.2.2.2 (by decide)) ⟨_, _, rfl⟩ (by decide) (wfComp_o ha) rfl (Nat.le_of_ble_eq_true rfl) ⟨Nat.zero_le _, Nat.zero_le _⟩ dX7_tryPart_106 rfl (fun r106 g106 h => ?_)
        exact v_iret o rfl hr dX7_tryPart_109 h
      · replace h := h.2 c19_122
        refine v_lookup o (off := 91) (tgt := 110) dX7_tryPart_19 (by decide) (by show Op.lookupswitch.offset [(106, 69), (120, 33), (122, 85)] _ _ = _; rw [lv_osw c19_106 (by decide), lv_osw c19_120 (by decide), lv_osw c19_122 (by decide)]; rfl) (by decide) ?_
        refine v_aload_n o 1 dX7_tryPart_110 rfl ?_
        refine v_iload_n o 0 dX7_tryPart_111 rfl ?_
        refine v_aload_n o 1 dX7_tryPart_112 rfl ?_
        refine v_gfR o lkX7_10 (by decide) (wfComp_o ha) (wfComp_r0 ha) dX7_tryPart_113 ?_
        refine v_iload_n o 2 dX7_tryPart_116 rfl ?_
        refine v_cVi o [.int p1] [.int r7, .ref a] (fun sz => metX4_howAt l G P g16 sz (a + 1) (wfComp_t0 ha) p1 _ h) (cwX7_292 o.1.2.2.2.2 (by decide)) ⟨_, _, rfl⟩ (by decide) (wfText_o (wfComp_t0 ha)) rfl (Nat.le_of_ble_eq_true rfl) ⟨Nat.zero_le _, Nat.zero_le _⟩ dX7_tryPart_117 rfl (fun r117 g117 h => ?_)
        refine v_cVi o [.int r7, .int r117] [] (fun sz => metX7_tryChange l G P g117 sz a ha r7 r117 _ h) (cwX7_140 o.1.2.2.2.2 (by decide)) ⟨_, _, rfl⟩ (by decide) (wfComp_o ha) rfl (Nat.le_of_ble_eq_true rfl) ⟨Nat.zero_le _, Nat.zero_le _⟩ dX7_tryPart_120 rfl (fun r120 g120 h => ?_)
        exact v_iret o rfl hr dX7_tryPart_123 h
abbrev kX7_tryPart := @vX7_tryPart
abbrev metX7_tryPart := @mX7_tryPart

def vX7_doTriedPart (P : Sk) (f : St) (a : Nat) (p1 : Int32) (K : St → Prop) : Prop :=
  kX4_digitAt P f (a + 1) (p1 + 1) (fun r11 g11 => kX2_copyFrom P g11 (atB (a + 4) r11) (a + 1410) (fun g21 => kX4_howAt P g21 (a + 1) p1 (fun r29 g29 => (r29 = (-1) → K g29) ∧ (¬ r29 = (-1) → kX0_addChange P g29 (a + 4) (fun g40 => K g40)))))
set_option maxRecDepth 20000 in
set_option maxHeartbeats 4000000 in
theorem mX7_doTriedPart (l : Launch) (G : Gl) (P : Sk) (f : St) (sz : Nat) (a : Nat) (ha : IsComp P a) (p1 : Int32) (K : St → Prop) (h : vX7_doTriedPart P f a p1 K)  :
  Met l yX7_doTriedPart (wU yX7_doTriedPart cX7_doTriedPart 2 none) rmX7_doTriedPart (PcW G P f sz [.ref a, .int p1]) (QcV G P sz K) 0 0 (frA P sz) := by
  refine v_met (own := RX7) [.ref a, .int p1] (by decide +kernel) rfl (Nat.le_of_ble_eq_true rfl) (fun p e s m args below meth c hsz o hr hnm => ?_)
  refine v_lv (lv2 := [(0, .ref a), (1, .int p1)]) rfl ?_
  unfold vX7_doTriedPart at h
  refine v_aload_n o 0 dX7_doTriedPart_0 rfl ?_
  refine v_gfR o lkX7_19 (by decide) (wfComp_o ha) (wfComp_r1 ha) dX7_doTriedPart_1 ?_
  refine v_aload_n o 0 dX7_doTriedPart_4 rfl ?_
  refine v_gfR o lkX7_10 (by decide) (wfComp_o ha) (wfComp_r0 ha) dX7_doTriedPart_5 ?_
  refine v_iload_n o 1 dX7_doTriedPart_8 rfl ?_
  refine v_iconst o (v := 1) dX7_doTriedPart_9 (by decide) ?_
  refine v_iadd o dX7_doTriedPart_10 ?_
  refine v_cVi o [.int (p1 + 1)] [.ref (a + 4)] (fun sz => metX4_digitAt l G P f sz (a + 1) (wfComp_t0 ha) (p1 + 1) _ h) (cwX7_286 o.1.2.2.2.2 (by decide)) ⟨_, _, rfl⟩ (by decide) (wfText_o (wfComp_t0 ha)) rfl (Nat.le_of_ble_eq_true rfl) ⟨Nat.zero_le _, Nat.zero_le _⟩ dX7_doTriedPart_11 rfl (fun r11 g11 h => ?_)
  refine v_cVr o [.int r11] [] (fun sz => metX0_at l G P g11 sz (a + 4) (wfComp_t1 ha) r11) (cwX7_102 o.1.2.2.2.2 (by decide)) ⟨_, _, rfl⟩ (by decide) (wfBoard_o (wfComp_t1 ha)) rfl (Nat.le_of_ble_eq_true rfl) ⟨Nat.zero_le _, Nat.zero_le _⟩ dX7_doTriedPart_14 rfl (fun r14 g14 h14 => ?_)
  obtain ⟨rfl, rfl⟩ := h14
  refine v_aload_n o 0 dX7_doTriedPart_17 rfl ?_
  refine v_gfR o lkX7_40 (by decide) (wfComp_o ha) (wfComp_r5 ha) dX7_doTriedPart_18 ?_
  refine v_cVv o [.ref (a + 1410)] [] (fun sz => metX2_copyFrom l G P g11 sz (atB (a + 4) r11) (is_atB (wfComp_t1 ha) r11) (a + 1410) (wfComp_t5 ha) _ h) (cwX7_121 o.1.2.2.2.2 (by decide)) ⟨_, _, rfl⟩ (by decide) (wfLoaf_o (is_atB (wfComp_t1 ha) r11)) rfl (Nat.le_of_ble_eq_true rfl) ⟨Nat.zero_le _, Nat.zero_le _⟩ dX7_doTriedPart_21 rfl (fun g21 h => ?_)
  refine v_aload_n o 0 dX7_doTriedPart_24 rfl ?_
  refine v_gfR o lkX7_10 (by decide) (wfComp_o ha) (wfComp_r0 ha) dX7_doTriedPart_25 ?_
  refine v_iload_n o 1 dX7_doTriedPart_28 rfl ?_
  refine v_cVi o [.int p1] [] (fun sz => metX4_howAt l G P g21 sz (a + 1) (wfComp_t0 ha) p1 _ h) (cwX7_292 o.1.2.2.2.2 (by decide)) ⟨_, _, rfl⟩ (by decide) (wfText_o (wfComp_t0 ha)) rfl (Nat.le_of_ble_eq_true rfl) ⟨Nat.zero_le _, Nat.zero_le _⟩ dX7_doTriedPart_29 rfl (fun r29 g29 h => ?_)
  refine v_iconst o (v := (-1)) dX7_doTriedPart_32 (by decide) ?_
  refine v_icmp_eq o (tgt := 43) dX7_doTriedPart_33 (by decide) (fun c33 => ?_) (fun c33 => ?_)
  · replace h := h.1 c33
    exact v_vret o rfl hr dX7_doTriedPart_43 h
  · replace h := h.2 c33
    refine v_aload_n o 0 dX7_doTriedPart_36 rfl ?_
    refine v_gfR o lkX7_19 (by decide) (wfComp_o ha) (wfComp_r1 ha) dX7_doTriedPart_37 ?_
    refine v_cVv o [] [] (fun sz => metX0_addChange l G P g29 sz (a + 4) (wfComp_t1 ha) _ h) (cwX7_144 o.1.2.2.2.2 (by decide)) ⟨_, _, rfl⟩ (by decide) (wfBoard_o (wfComp_t1 ha)) rfl (Nat.le_of_ble_eq_true rfl) ⟨Nat.zero_le _, Nat.zero_le _⟩ dX7_doTriedPart_40 rfl (fun g40 h => ?_)
    exact v_vret o rfl hr dX7_doTriedPart_43 h
abbrev kX7_doTriedPart := @vX7_doTriedPart
abbrev metX7_doTriedPart := @mX7_doTriedPart

def vX8_thrown (P : Sk) (f : St) (a : Nat) (K : Int32 → St → Prop) : Prop :=
  K (f a 0) f
set_option maxRecDepth 20000 in
set_option maxHeartbeats 4000000 in
theorem mX8_thrown (l : Launch) (G : Gl) (P : Sk) (f : St) (sz : Nat) (a : Nat) (ha : IsModel P a) (K : Int32 → St → Prop) (h : vX8_thrown P f a K)  :
  Met l yX8_thrown (wU yX8_thrown cX8_thrown 1 (some .int)) rmX8_thrown (PcW G P f sz [.ref a]) (QcI G P sz K) 0 0 (frA P sz) := by
  refine v_met (own := RX8) [.ref a] (by decide +kernel) rfl (Nat.le_of_ble_eq_true rfl) (fun p e s m args below meth c hsz o hr hnm => ?_)
  refine v_lv (lv2 := [(0, .ref a)]) rfl ?_
  unfold vX8_thrown at h
  refine v_aload_n o 0 dX8_thrown_0 rfl ?_
  refine v_gfI o lkX8_40 (by decide) (wfModel_o ha) dX8_thrown_1 ?_
  exact v_iret o rfl hr dX8_thrown_4 h
abbrev kX8_thrown := @vX8_thrown
abbrev metX8_thrown := @mX8_thrown

def vX8_fails (P : Sk) (f : St) (a : Nat) (p1 : Int32) (K : Int32 → St → Prop) : Prop :=
  ∀ g2 : St, g2 = setf f a 0 p1 → K 0 g2
set_option maxRecDepth 20000 in
set_option maxHeartbeats 4000000 in
theorem mX8_fails (l : Launch) (G : Gl) (P : Sk) (f : St) (sz : Nat) (a : Nat) (ha : IsModel P a) (p1 : Int32) (K : Int32 → St → Prop) (h : vX8_fails P f a p1 K)  :
  Met l yX8_fails (wU yX8_fails cX8_fails 2 (some .int)) rmX8_fails (PcW G P f sz [.ref a, .int p1]) (QcI G P sz K) 0 0 (frA P sz) := by
  refine v_met (own := RX8) [.ref a, .int p1] (by decide +kernel) rfl (Nat.le_of_ble_eq_true rfl) (fun p e s m args below meth c hsz o hr hnm => ?_)
  refine v_lv (lv2 := [(0, .ref a), (1, .int p1)]) rfl ?_
  unfold vX8_fails at h
  refine v_aload_n o 0 dX8_fails_0 rfl ?_
  refine v_iload_n o 1 dX8_fails_1 rfl ?_
  refine v_pf o lpX8_40 (wfModel_o ha) ⟨rfl, rfl⟩ dX8_fails_2 ?_
  refine v_nmf (fun g2 eg2 => ?_)
  replace h := h g2 eg2
  refine v_iconst o (v := 0) dX8_fails_5 (by decide) ?_
  exact v_iret o rfl hr dX8_fails_6 h
abbrev kX8_fails := @vX8_fails
abbrev metX8_fails := @mX8_fails

def vX8_in (P : Sk) (f : St) (p0 : Int32) (p1 : Int32) (p2 : Int32) (K : Int32 → St → Prop) : Prop :=
  (p0 < p1 → K 0 f) ∧ (¬ p0 < p1 → (p2 < p0 → K 0 f) ∧ (¬ p2 < p0 → K 1 f))
set_option maxRecDepth 20000 in
set_option maxHeartbeats 4000000 in
theorem mX8_in (l : Launch) (G : Gl) (P : Sk) (f : St) (sz : Nat) (p0 : Int32) (p1 : Int32) (p2 : Int32) (K : Int32 → St → Prop) (h : vX8_in P f p0 p1 p2 K)  :
  Met l yX8_in (wU yX8_in cX8_in 3 (some .boolean)) rmX8_in (PcW G P f sz [.int p0, .int p1, .int p2]) (QcI G P sz K) 0 0 (frA P sz) := by
  refine v_met (own := RX8) [.int p0, .int p1, .int p2] (by decide +kernel) rfl (Nat.le_of_ble_eq_true rfl) (fun p e s m args below meth c hsz o hr hnm => ?_)
  refine v_lv (lv2 := [(0, .int p0), (1, .int p1), (2, .int p2)]) rfl ?_
  unfold vX8_in at h
  refine v_iload_n o 0 dX8_in_0 rfl ?_
  refine v_iload_n o 1 dX8_in_1 rfl ?_
  refine v_icmp_lt o (tgt := 14) dX8_in_2 (by decide) (fun c2 => ?_) (fun c2 => ?_)
  · replace h := h.1 c2
    refine v_iconst o (v := 0) dX8_in_14 (by decide) ?_
    exact v_zret o rfl hr bz0.1 dX8_in_15 h
  · replace h := h.2 c2
    refine v_iload_n o 0 dX8_in_5 rfl ?_
    refine v_iload_n o 2 dX8_in_6 rfl ?_
    refine v_icmp_gt o (tgt := 14) dX8_in_7 (by decide) (fun c7 => ?_) (fun c7 => ?_)
    · replace h := h.1 c7
      refine v_iconst o (v := 0) dX8_in_14 (by decide) ?_
      exact v_zret o rfl hr bz0.1 dX8_in_15 h
    · replace h := h.2 c7
      refine v_iconst o (v := 1) dX8_in_10 (by decide) ?_
      refine v_goto o (tgt := 15) dX8_in_11 (by decide) ?_
      exact v_zret o rfl hr bz1.1 dX8_in_15 h
abbrev kX8_in := @vX8_in
abbrev metX8_in := @mX8_in

def vX8_isLoaf (P : Sk) (f : St) (a : Nat) (p1 : Int32) (K : Int32 → St → Prop) : Prop :=
  vp_in 0 160 ∧ (kX8_in P f p1 0 ((f (a + 1) ((0 : Int32)).toNatClampNeg) - 1) (fun r10 g10 => (r10 = 0 ∨ r10 = 1) ∧ K r10 g10))
set_option maxRecDepth 20000 in
set_option maxHeartbeats 4000000 in
theorem mX8_isLoaf (l : Launch) (G : Gl) (P : Sk) (f : St) (sz : Nat) (a : Nat) (ha : IsModel P a) (p1 : Int32) (K : Int32 → St → Prop) (h : vX8_isLoaf P f a p1 K)  :
  Met l yX8_isLoaf (wU yX8_isLoaf cX8_isLoaf 2 (some .boolean)) rmX8_isLoaf (PcW G P f sz [.ref a, .int p1]) (QcI G P sz K) 0 0 (frA P sz) := by
  refine v_met (own := RX8) [.ref a, .int p1] (by decide +kernel) rfl (Nat.le_of_ble_eq_true rfl) (fun p e s m args below meth c hsz o hr hnm => ?_)
  refine v_lv (lv2 := [(0, .ref a), (1, .int p1)]) rfl ?_
  unfold vX8_isLoaf at h
  refine v_iload_n o 1 dX8_isLoaf_0 rfl ?_
  refine v_iconst o (v := 0) dX8_isLoaf_1 (by decide) ?_
  refine v_aload_n o 0 dX8_isLoaf_2 rfl ?_
  refine v_gfR o lkX8_7 (by decide) (wfModel_o ha) (wfModel_r1 ha) dX8_isLoaf_3 ?_
  refine v_iconst o (v := 0) dX8_isLoaf_6 (by decide) ?_
  refine v_iald o (wfModel_t1 ha) (wfModel_n1 ha) h.1 dX8_isLoaf_7 ?_
  replace h := h.2
  refine v_iconst o (v := 1) dX8_isLoaf_8 (by decide) ?_
  refine v_isub o dX8_isLoaf_9 ?_
  refine v_cSi o [.int p1, .int 0, .int ((f (a + 1) ((0 : Int32)).toNatClampNeg) - 1)] [] (fun sz => metX8_in l G P f sz p1 0 ((f (a + 1) ((0 : Int32)).toNatClampNeg) - 1) _ h) (cwX8_44 o.1.2.2.2.2 (by decide)) rfl (Nat.le_of_ble_eq_true rfl) ⟨Nat.zero_le _, Nat.zero_le _⟩ dX8_isLoaf_10 rfl (fun r10 g10 h => ?_)
  exact v_zret o rfl hr (bzz h.1).1 dX8_isLoaf_13 h.2
abbrev kX8_isLoaf := @vX8_isLoaf
abbrev metX8_isLoaf := @mX8_isLoaf

def vX8_of (P : Sk) (f : St) (a : Nat) (p1 : Int32) (p2 : Int32) (K : Int32 → St → Prop) : Prop :=
  vp_in ((4 + (26 * p1)) + p2) 160 ∧ (K (f (a + 1) ((4 + (26 * p1)) + p2).toNatClampNeg) f)
set_option maxRecDepth 20000 in
set_option maxHeartbeats 4000000 in
theorem mX8_of (l : Launch) (G : Gl) (P : Sk) (f : St) (sz : Nat) (a : Nat) (ha : IsModel P a) (p1 : Int32) (p2 : Int32) (K : Int32 → St → Prop) (h : vX8_of P f a p1 p2 K)  :
  Met l yX8_of (wU yX8_of cX8_of 3 (some .int)) rmX8_of (PcW G P f sz [.ref a, .int p1, .int p2]) (QcI G P sz K) 0 0 (frA P sz) := by
  refine v_met (own := RX8) [.ref a, .int p1, .int p2] (by decide +kernel) rfl (Nat.le_of_ble_eq_true rfl) (fun p e s m args below meth c hsz o hr hnm => ?_)
  refine v_lv (lv2 := [(0, .ref a), (1, .int p1), (2, .int p2)]) rfl ?_
  unfold vX8_of at h
  refine v_aload_n o 0 dX8_of_0 rfl ?_
  refine v_gfR o lkX8_7 (by decide) (wfModel_o ha) (wfModel_r1 ha) dX8_of_1 ?_
  refine v_iconst o (v := 4) dX8_of_4 (by decide) ?_
  refine v_bipush o (v := 26) dX8_of_5 (by decide) ?_
  refine v_iload_n o 1 dX8_of_7 rfl ?_
  refine v_imul o dX8_of_8 ?_
  refine v_iadd o dX8_of_9 ?_
  refine v_iload_n o 2 dX8_of_10 rfl ?_
  refine v_iadd o dX8_of_11 ?_
  refine v_iald o (wfModel_t1 ha) (wfModel_n1 ha) h.1 dX8_of_12 ?_
  replace h := h.2
  exact v_iret o rfl hr dX8_of_13 h
abbrev kX8_of := @vX8_of
abbrev metX8_of := @mX8_of

def vX8_store (P : Sk) (f : St) (a : Nat) (p1 : Int32) (p2 : Int32) (p3 : Int32) (K : St → Prop) : Prop :=
  vp_in ((4 + (26 * p1)) + p2) 160 ∧ (∀ g13 : St, g13 = setf f (a + 1) ((4 + (26 * p1)) + p2).toNatClampNeg p3 → K g13)
set_option maxRecDepth 20000 in
set_option maxHeartbeats 4000000 in
theorem mX8_store (l : Launch) (G : Gl) (P : Sk) (f : St) (sz : Nat) (a : Nat) (ha : IsModel P a) (p1 : Int32) (p2 : Int32) (p3 : Int32) (K : St → Prop) (h : vX8_store P f a p1 p2 p3 K)  :
  Met l yX8_store (wU yX8_store cX8_store 4 none) rmX8_store (PcW G P f sz [.ref a, .int p1, .int p2, .int p3]) (QcV G P sz K) 0 0 (frA P sz) := by
  refine v_met (own := RX8) [.ref a, .int p1, .int p2, .int p3] (by decide +kernel) rfl (Nat.le_of_ble_eq_true rfl) (fun p e s m args below meth c hsz o hr hnm => ?_)
  refine v_lv (lv2 := [(0, .ref a), (1, .int p1), (2, .int p2), (3, .int p3)]) rfl ?_
  unfold vX8_store at h
  refine v_aload_n o 0 dX8_store_0 rfl ?_
  refine v_gfR o lkX8_7 (by decide) (wfModel_o ha) (wfModel_r1 ha) dX8_store_1 ?_
  refine v_iconst o (v := 4) dX8_store_4 (by decide) ?_
  refine v_bipush o (v := 26) dX8_store_5 (by decide) ?_
  refine v_iload_n o 1 dX8_store_7 rfl ?_
  refine v_imul o dX8_store_8 ?_
  refine v_iadd o dX8_store_9 ?_
  refine v_iload_n o 2 dX8_store_10 rfl ?_
  refine v_iadd o dX8_store_11 ?_
  refine v_iload_n o 3 dX8_store_12 rfl ?_
  refine v_iast o (wfModel_t1 ha) (wfModel_n1 ha) h.1 dX8_store_13 ?_
  replace h := h.2
  refine v_nmf (fun g13 eg13 => ?_)
  replace h := h g13 eg13
  exact v_vret o rfl hr dX8_store_14 h
abbrev kX8_store := @vX8_store
abbrev metX8_store := @mX8_store

def jX8_records_50 (P : Sk) (a : Nat) (L11 : St → Int32 → Prop) (L52 : St → Int32 → Prop) (K : St → Prop) (f : St) : Prop :=
  L52 f 0
def bX8_records_11 (P : Sk) (a : Nat) (L11 : St → Int32 → Prop) (L52 : St → Int32 → Prop) (K : St → Prop) (f : St) (x1 : Int32) : Prop :=
  (800 ≤ x1 → ∀ g47 : St, g47 = setf f a 3 ((f a 3) - 1) → jX8_records_50 P a L11 L52 K  g47) ∧ (¬ 800 ≤ x1 → vp_in (x1 + 160) 960 ∧ (vp_in x1 960 ∧ (∀ g33 : St, g33 = setf f (a + 2) x1.toNatClampNeg (f (a + 2) (x1 + 160).toNatClampNeg) → ∀ x1_34 : Int32, x1_34 = x1 + 1 → L11 g33 x1_34)))
def bX8_records_52 (P : Sk) (a : Nat) (L11 : St → Int32 → Prop) (L52 : St → Int32 → Prop) (K : St → Prop) (f : St) (x1 : Int32) : Prop :=
  (160 ≤ x1 → ∀ g93 : St, g93 = setf f a 3 ((f a 3) + 1) → K g93) ∧ (¬ 160 ≤ x1 → vp_in x1 160 ∧ (vp_in ((160 * (f a 3)) + x1) 960 ∧ (∀ g79 : St, g79 = setf f (a + 2) ((160 * (f a 3)) + x1).toNatClampNeg (f (a + 1) x1.toNatClampNeg) → ∀ x1_80 : Int32, x1_80 = x1 + 1 → L52 g79 x1_80)))
def vX8_records (P : Sk) (f : St) (a : Nat) (L11 : St → Int32 → Prop) (L52 : St → Int32 → Prop) (K : St → Prop) : Prop :=
  (¬ f a 3 = 6 → jX8_records_50 P a L11 L52 K  f) ∧ (f a 3 = 6 → L11 f 0)
set_option maxRecDepth 20000 in
set_option maxHeartbeats 4000000 in
theorem mX8_records (l : Launch) (G : Gl) (P : Sk) (f : St) (sz : Nat) (a : Nat) (ha : IsModel P a) (K : St → Prop) (I11 : St → Int32 → Prop) (μ11 : St → Int32 → Nat) (I52 : St → Int32 → Prop) (μ52 : St → Int32 → Nat) 
  (h : vX8_records P f a I11 I52 K)
  (h11 : ∀ (g : St) (x1 : Int32) , I11 g x1 → bX8_records_11 P a (fun g' z0 => I11 g' z0 ∧ μ11 g' z0 < μ11 g x1) (fun g' z0 => I52 g' z0 ∧ μ52 g' z0 < μ11 g x1) K g x1)
  (h52 : ∀ (g : St) (x1 : Int32) , I52 g x1 → bX8_records_52 P a (fun g' z0 => I11 g' z0 ∧ μ11 g' z0 < μ52 g x1) (fun g' z0 => I52 g' z0 ∧ μ52 g' z0 < μ52 g x1) K g x1) :
  Met l yX8_records (wU yX8_records cX8_records 2 none) rmX8_records (PcW G P f sz [.ref a]) (QcV G P sz K) 0 0 (frA P sz) := by
  refine v_met (own := RX8) [.ref a] (by decide +kernel) rfl (Nat.le_of_ble_eq_true rfl) (fun p e s m args below meth c hsz o hr hnm => ?_)
  refine v_lv (lv2 := [(0, .ref a)]) rfl ?_
  have main : ∀ n : Nat, (∀ (g : St) (x1 : Int32) , I11 g x1 → μ11 g x1 < n → V p l e rmX8_records s m args below meth c 2 G (frA P sz) (MQ below (QcV G P sz K) args s 0 0 (frA P sz)) 0 0 P [(0, .ref a), (1, .int x1)] [] 11 g) ∧ (∀ (g : St) (x1 : Int32) , I52 g x1 → μ52 g x1 < n → V p l e rmX8_records s m args below meth c 2 G (frA P sz) (MQ below (QcV G P sz K) args s 0 0 (frA P sz)) 0 0 P [(0, .ref a), (1, .int x1)] [] 52 g) := by
    intro n
    induction n with
    | zero => exact ⟨fun g x1 hI hm => absurd hm (Nat.not_lt_zero _), fun g x1 hI hm => absurd hm (Nat.not_lt_zero _)⟩
    | succ n ih =>
      refine ⟨?_, ?_⟩
      · intro g x1 hI hm
        have h := h11 g x1 hI
        clear hI
        have J50 : ∀ (g50 : St), jX8_records_50 P a (fun g' z0 => I11 g' z0 ∧ μ11 g' z0 < μ11 g x1) (fun g' z0 => I52 g' z0 ∧ μ52 g' z0 < μ11 g x1) K  g50 → V p l e rmX8_records s m args below meth c 2 G (frA P sz) (MQ below (QcV G P sz K) args s 0 0 (frA P sz)) 0 0 P [(0, .ref a)] [] 50 g50 := by
          intro  g50  h
          unfold jX8_records_50 at h
          refine v_iconst o (v := 0) dX8_records_50 (by decide) ?_
          refine v_istore_n o (lv' := [(1, .int 0), (0, .ref a)]) dX8_records_51 rfl (by decide) rfl ?_
          refine v_sub [1, 0] (lv2 := [(0, .ref a), (1, .int 0)]) rfl ?_
          exact ih.2 g50 0  h.1 (by have := h.2; omega)
        unfold bX8_records_11 at h
        refine v_iload_n o 1 dX8_records_11 rfl ?_
        refine v_sipush o (v := 800) dX8_records_12 (by decide) ?_
        refine v_icmp_ge o (tgt := 40) dX8_records_15 (by decide) (fun c15 => ?_) (fun c15 => ?_)
        · replace h := h.1 c15
          refine v_aload_n o 0 dX8_records_40 rfl ?_
          refine v_dup o dX8_records_41 rfl ?_
          refine v_gfI o lkX8_48 (by decide) (wfModel_o ha) dX8_records_42 ?_
          refine v_iconst o (v := 1) dX8_records_45 (by decide) ?_
          refine v_isub o dX8_records_46 ?_
          refine v_pf o lpX8_48 (wfModel_o ha) ⟨rfl, rfl⟩ dX8_records_47 ?_
          refine v_nmf (fun g47 eg47 => ?_)
          replace h := h g47 eg47
          refine v_sub [0] (lv2 := [(0, .ref a)]) rfl ?_
          exact J50  g47  h
        · replace h := h.2 c15
          refine v_aload_n o 0 dX8_records_18 rfl ?_
          refine v_gfR o lkX8_13 (by decide) (wfModel_o ha) (wfModel_r2 ha) dX8_records_19 ?_
          refine v_iload_n o 1 dX8_records_22 rfl ?_
          refine v_aload_n o 0 dX8_records_23 rfl ?_
          refine v_gfR o lkX8_13 (by decide) (wfModel_o ha) (wfModel_r2 ha) dX8_records_24 ?_
          refine v_iload_n o 1 dX8_records_27 rfl ?_
          refine v_sipush o (v := 160) dX8_records_28 (by decide) ?_
          refine v_iadd o dX8_records_31 ?_
          refine v_iald o (wfModel_t2 ha) (wfModel_n2 ha) h.1 dX8_records_32 ?_
          replace h := h.2
          refine v_iast o (wfModel_t2 ha) (wfModel_n2 ha) h.1 dX8_records_33 ?_
          replace h := h.2
          refine v_nmf (fun g33 eg33 => ?_)
          replace h := h g33 eg33
          obtain ⟨x1_34, ex1_34⟩ : ∃ y : Int32, y = x1 + 1 := ⟨_, rfl⟩
          replace h := h x1_34 ex1_34
          refine v_iinc o (v := x1_34) (lv' := [(1, .int x1_34), (0, .ref a)]) 1 dX8_records_34 rfl (by rw [ex1_34]; rfl) (by decide) rfl ?_
          refine v_goto o (tgt := 11) dX8_records_37 (by decide) ?_
          refine v_sub [1, 0] (lv2 := [(0, .ref a), (1, .int x1_34)]) rfl ?_
          exact ih.1 g33 x1_34  h.1 (by have := h.2; omega)
      · intro g x1 hI hm
        have h := h52 g x1 hI
        clear hI
        unfold bX8_records_52 at h
        refine v_iload_n o 1 dX8_records_52 rfl ?_
        refine v_sipush o (v := 160) dX8_records_53 (by decide) ?_
        refine v_icmp_ge o (tgt := 86) dX8_records_56 (by decide) (fun c56 => ?_) (fun c56 => ?_)
        · replace h := h.1 c56
          refine v_aload_n o 0 dX8_records_86 rfl ?_
          refine v_dup o dX8_records_87 rfl ?_
          refine v_gfI o lkX8_48 (by decide) (wfModel_o ha) dX8_records_88 ?_
          refine v_iconst o (v := 1) dX8_records_91 (by decide) ?_
          refine v_iadd o dX8_records_92 ?_
          refine v_pf o lpX8_48 (wfModel_o ha) ⟨rfl, rfl⟩ dX8_records_93 ?_
          refine v_nmf (fun g93 eg93 => ?_)
          replace h := h g93 eg93
          exact v_vret o rfl hr dX8_records_96 h
        · replace h := h.2 c56
          refine v_aload_n o 0 dX8_records_59 rfl ?_
          refine v_gfR o lkX8_13 (by decide) (wfModel_o ha) (wfModel_r2 ha) dX8_records_60 ?_
          refine v_sipush o (v := 160) dX8_records_63 (by decide) ?_
          refine v_aload_n o 0 dX8_records_66 rfl ?_
          refine v_gfI o lkX8_48 (by decide) (wfModel_o ha) dX8_records_67 ?_
          refine v_imul o dX8_records_70 ?_
          refine v_iload_n o 1 dX8_records_71 rfl ?_
          refine v_iadd o dX8_records_72 ?_
          refine v_aload_n o 0 dX8_records_73 rfl ?_
          refine v_gfR o lkX8_7 (by decide) (wfModel_o ha) (wfModel_r1 ha) dX8_records_74 ?_
          refine v_iload_n o 1 dX8_records_77 rfl ?_
          refine v_iald o (wfModel_t1 ha) (wfModel_n1 ha) h.1 dX8_records_78 ?_
          replace h := h.2
          refine v_iast o (wfModel_t2 ha) (wfModel_n2 ha) h.1 dX8_records_79 ?_
          replace h := h.2
          refine v_nmf (fun g79 eg79 => ?_)
          replace h := h g79 eg79
          obtain ⟨x1_80, ex1_80⟩ : ∃ y : Int32, y = x1 + 1 := ⟨_, rfl⟩
          replace h := h x1_80 ex1_80
          refine v_iinc o (v := x1_80) (lv' := [(1, .int x1_80), (0, .ref a)]) 1 dX8_records_80 rfl (by rw [ex1_80]; rfl) (by decide) rfl ?_
          refine v_goto o (tgt := 52) dX8_records_83 (by decide) ?_
          refine v_sub [1, 0] (lv2 := [(0, .ref a), (1, .int x1_80)]) rfl ?_
          exact ih.2 g79 x1_80  h.1 (by have := h.2; omega)
  have J50 : ∀ (g50 : St), jX8_records_50 P a I11 I52 K  g50 → V p l e rmX8_records s m args below meth c 2 G (frA P sz) (MQ below (QcV G P sz K) args s 0 0 (frA P sz)) 0 0 P [(0, .ref a)] [] 50 g50 := by
    intro  g50  h
    unfold jX8_records_50 at h
    refine v_iconst o (v := 0) dX8_records_50 (by decide) ?_
    refine v_istore_n o (lv' := [(1, .int 0), (0, .ref a)]) dX8_records_51 rfl (by decide) rfl ?_
    refine v_sub [1, 0] (lv2 := [(0, .ref a), (1, .int 0)]) rfl ?_
    exact (main (μ52 g50 0 + 1)).2 g50 0  h (Nat.lt_succ_self _)
  unfold vX8_records at h
  refine v_aload_n o 0 dX8_records_0 rfl ?_
  refine v_gfI o lkX8_48 (by decide) (wfModel_o ha) dX8_records_1 ?_
  refine v_bipush o (v := 6) dX8_records_4 (by decide) ?_
  refine v_icmp_ne o (tgt := 50) dX8_records_6 (by decide) (fun c6 => ?_) (fun c6 => ?_)
  · replace h := h.1 c6
    refine v_sub [0] (lv2 := [(0, .ref a)]) rfl ?_
    exact J50  f  h
  · replace h := h.2 c6
    refine v_iconst o (v := 0) dX8_records_9 (by decide) ?_
    refine v_istore_n o (lv' := [(1, .int 0), (0, .ref a)]) dX8_records_10 rfl (by decide) rfl ?_
    refine v_sub [1, 0] (lv2 := [(0, .ref a), (1, .int 0)]) rfl ?_
    exact (main (μ11 f 0 + 1)).1 f 0  h (Nat.lt_succ_self _)
def kX8_records (P : Sk) (f : St) (a : Nat) (K : St → Prop) : Prop := False
theorem metX8_records (l : Launch) (G : Gl) (P : Sk) (f : St) (sz : Nat) (a : Nat) (ha : IsModel P a) (K : St → Prop) (h : kX8_records P f a K) : Met l yX8_records (wU yX8_records cX8_records 2 none) rmX8_records (PcW G P f sz [.ref a]) (QcV G P sz K) 0 0 (frA P sz) := sorry

def bX8_takes_22 (P : Sk) (a : Nat) (p1 : Int32) (L22 : St → Int32 → Prop) (K : St → Prop) (f : St) (x2 : Int32) : Prop :=
  (f a 9 ≤ x2 → K f) ∧ (¬ f a 9 ≤ x2 → kX8_of P f a p1 (2 + x2) (fun r40 g40 => vp_in x2 50 ∧ (∀ g43 : St, g43 = setf g40 (a + 5) x2.toNatClampNeg r40 → ∀ x2_44 : Int32, x2_44 = x2 + 1 → L22 g43 x2_44)))
def vX8_takes (P : Sk) (f : St) (a : Nat) (p1 : Int32) (L22 : St → Int32 → Prop) (K : St → Prop) : Prop :=
  kX8_of P f a p1 0 (fun r4 g4 => ∀ g7 : St, g7 = setf g4 a 10 r4 → kX8_of P g7 a p1 1 (fun r14 g14 => ∀ g17 : St, g17 = setf g14 a 9 r14 → L22 g17 0))
set_option maxRecDepth 20000 in
set_option maxHeartbeats 4000000 in
theorem mX8_takes (l : Launch) (G : Gl) (P : Sk) (f : St) (sz : Nat) (a : Nat) (ha : IsModel P a) (p1 : Int32) (K : St → Prop) (I22 : St → Int32 → Prop) (μ22 : St → Int32 → Nat) 
  (h : vX8_takes P f a p1 I22 K)
  (h22 : ∀ (g : St) (x2 : Int32) , I22 g x2 → bX8_takes_22 P a p1 (fun g' z0 => I22 g' z0 ∧ μ22 g' z0 < μ22 g x2) K g x2) :
  Met l yX8_takes (wU yX8_takes cX8_takes 3 none) rmX8_takes (PcW G P f sz [.ref a, .int p1]) (QcV G P sz K) 0 0 (frA P sz) := by
  refine v_met (own := RX8) [.ref a, .int p1] (by decide +kernel) rfl (Nat.le_of_ble_eq_true rfl) (fun p e s m args below meth c hsz o hr hnm => ?_)
  refine v_lv (lv2 := [(0, .ref a), (1, .int p1)]) rfl ?_
  have main : ∀ n : Nat, (∀ (g : St) (x2 : Int32) , I22 g x2 → μ22 g x2 < n → V p l e rmX8_takes s m args below meth c 3 G (frA P sz) (MQ below (QcV G P sz K) args s 0 0 (frA P sz)) 0 0 P [(0, .ref a), (1, .int p1), (2, .int x2)] [] 22 g) := by
    intro n
    induction n with
    | zero => exact fun g x2 hI hm => absurd hm (Nat.not_lt_zero _)
    | succ n ih =>
      intro g x2 hI hm
      have h := h22 g x2 hI
      clear hI
      unfold bX8_takes_22 at h
      refine v_iload_n o 2 dX8_takes_22 rfl ?_
      refine v_aload_n o 0 dX8_takes_23 rfl ?_
      refine v_gfI o lkX8_58 (by decide) (wfModel_o ha) dX8_takes_24 ?_
      refine v_icmp_ge o (tgt := 50) dX8_takes_27 (by decide) (fun c27 => ?_) (fun c27 => ?_)
      · replace h := h.1 c27
        exact v_vret o rfl hr dX8_takes_50 h
      · replace h := h.2 c27
        refine v_aload_n o 0 dX8_takes_30 rfl ?_
        refine v_gfR o lkX8_22 (by decide) (wfModel_o ha) (wfModel_r8 ha) dX8_takes_31 ?_
        refine v_iload_n o 2 dX8_takes_34 rfl ?_
        refine v_aload_n o 0 dX8_takes_35 rfl ?_
        refine v_iload_n o 1 dX8_takes_36 rfl ?_
        refine v_iconst o (v := 2) dX8_takes_37 (by decide) ?_
        refine v_iload_n o 2 dX8_takes_38 rfl ?_
        refine v_iadd o dX8_takes_39 ?_
        refine v_cVi o [.int p1, .int (2 + x2)] [.int x2, .ref (a + 5)] (fun sz => metX8_of l G P g sz a ha p1 (2 + x2) _ h) (cwX8_51 o.1.2.2.2.2 (by decide)) ⟨_, _, rfl⟩ (by decide) (wfModel_o ha) rfl (Nat.le_of_ble_eq_true rfl) ⟨Nat.zero_le _, Nat.zero_le _⟩ dX8_takes_40 rfl (fun r40 g40 h => ?_)
        refine v_iast o (wfModel_t8 ha) (wfModel_n8 ha) h.1 dX8_takes_43 ?_
        replace h := h.2
        refine v_nmf (fun g43 eg43 => ?_)
        replace h := h g43 eg43
        obtain ⟨x2_44, ex2_44⟩ : ∃ y : Int32, y = x2 + 1 := ⟨_, rfl⟩
        replace h := h x2_44 ex2_44
        refine v_iinc o (v := x2_44) (lv' := [(2, .int x2_44), (0, .ref a), (1, .int p1)]) 2 dX8_takes_44 rfl (by rw [ex2_44]; rfl) (by decide) rfl ?_
        refine v_goto o (tgt := 22) dX8_takes_47 (by decide) ?_
        refine v_sub [1, 2, 0] (lv2 := [(0, .ref a), (1, .int p1), (2, .int x2_44)]) rfl ?_
        exact ih g43 x2_44  h.1 (by have := h.2; omega)
  unfold vX8_takes at h
  refine v_aload_n o 0 dX8_takes_0 rfl ?_
  refine v_aload_n o 0 dX8_takes_1 rfl ?_
  refine v_iload_n o 1 dX8_takes_2 rfl ?_
  refine v_iconst o (v := 0) dX8_takes_3 (by decide) ?_
  refine v_cVi o [.int p1, .int 0] [.ref a] (fun sz => metX8_of l G P f sz a ha p1 0 _ h) (cwX8_51 o.1.2.2.2.2 (by decide)) ⟨_, _, rfl⟩ (by decide) (wfModel_o ha) rfl (Nat.le_of_ble_eq_true rfl) ⟨Nat.zero_le _, Nat.zero_le _⟩ dX8_takes_4 rfl (fun r4 g4 h => ?_)
  refine v_pf o lpX8_55 (wfModel_o ha) ⟨rfl, rfl⟩ dX8_takes_7 ?_
  refine v_nmf (fun g7 eg7 => ?_)
  replace h := h g7 eg7
  refine v_aload_n o 0 dX8_takes_10 rfl ?_
  refine v_aload_n o 0 dX8_takes_11 rfl ?_
  refine v_iload_n o 1 dX8_takes_12 rfl ?_
  refine v_iconst o (v := 1) dX8_takes_13 (by decide) ?_
  refine v_cVi o [.int p1, .int 1] [.ref a] (fun sz => metX8_of l G P g7 sz a ha p1 1 _ h) (cwX8_51 o.1.2.2.2.2 (by decide)) ⟨_, _, rfl⟩ (by decide) (wfModel_o ha) rfl (Nat.le_of_ble_eq_true rfl) ⟨Nat.zero_le _, Nat.zero_le _⟩ dX8_takes_14 rfl (fun r14 g14 h => ?_)
  refine v_pf o lpX8_58 (wfModel_o ha) ⟨rfl, rfl⟩ dX8_takes_17 ?_
  refine v_nmf (fun g17 eg17 => ?_)
  replace h := h g17 eg17
  refine v_iconst o (v := 0) dX8_takes_20 (by decide) ?_
  refine v_istore_n o (lv' := [(2, .int 0), (0, .ref a), (1, .int p1)]) dX8_takes_21 rfl (by decide) rfl ?_
  refine v_sub [1, 2, 0] (lv2 := [(0, .ref a), (1, .int p1), (2, .int 0)]) rfl ?_
  exact (main (μ22 g17 0 + 1)) g17 0  h (Nat.lt_succ_self _)
def kX8_takes (P : Sk) (f : St) (a : Nat) (p1 : Int32) (K : St → Prop) : Prop := False
theorem metX8_takes (l : Launch) (G : Gl) (P : Sk) (f : St) (sz : Nat) (a : Nat) (ha : IsModel P a) (p1 : Int32) (K : St → Prop) (h : kX8_takes P f a p1 K) : Met l yX8_takes (wU yX8_takes cX8_takes 3 none) rmX8_takes (PcW G P f sz [.ref a, .int p1]) (QcV G P sz K) 0 0 (frA P sz) := sorry

def bX8_takesMore_2 (P : Sk) (a : Nat) (p1 : Int32) (L2 : St → Int32 → Prop) (K : St → Prop) (f : St) (x2 : Int32) : Prop :=
  kX8_of P f a p1 1 (fun r6 g6 => (r6 ≤ x2 → K g6) ∧ (¬ r6 ≤ x2 → kX8_of P g6 a p1 (2 + x2) (fun r25 g25 => vp_in (g6 a 9) 50 ∧ (∀ g28 : St, g28 = setf g25 (a + 5) (g6 a 9).toNatClampNeg r25 → ∀ g36 : St, g36 = setf g28 a 9 ((g28 a 9) + 1) → ∀ x2_39 : Int32, x2_39 = x2 + 1 → L2 g36 x2_39))))
def vX8_takesMore (P : Sk) (f : St) (a : Nat) (p1 : Int32) (L2 : St → Int32 → Prop) (K : St → Prop) : Prop :=
  L2 f 0
set_option maxRecDepth 20000 in
set_option maxHeartbeats 4000000 in
theorem mX8_takesMore (l : Launch) (G : Gl) (P : Sk) (f : St) (sz : Nat) (a : Nat) (ha : IsModel P a) (p1 : Int32) (K : St → Prop) (I2 : St → Int32 → Prop) (μ2 : St → Int32 → Nat) 
  (h : vX8_takesMore P f a p1 I2 K)
  (h2 : ∀ (g : St) (x2 : Int32) , I2 g x2 → bX8_takesMore_2 P a p1 (fun g' z0 => I2 g' z0 ∧ μ2 g' z0 < μ2 g x2) K g x2) :
  Met l yX8_takesMore (wU yX8_takesMore cX8_takesMore 3 none) rmX8_takesMore (PcW G P f sz [.ref a, .int p1]) (QcV G P sz K) 0 0 (frA P sz) := by
  refine v_met (own := RX8) [.ref a, .int p1] (by decide +kernel) rfl (Nat.le_of_ble_eq_true rfl) (fun p e s m args below meth c hsz o hr hnm => ?_)
  refine v_lv (lv2 := [(0, .ref a), (1, .int p1)]) rfl ?_
  have main : ∀ n : Nat, (∀ (g : St) (x2 : Int32) , I2 g x2 → μ2 g x2 < n → V p l e rmX8_takesMore s m args below meth c 3 G (frA P sz) (MQ below (QcV G P sz K) args s 0 0 (frA P sz)) 0 0 P [(0, .ref a), (1, .int p1), (2, .int x2)] [] 2 g) := by
    intro n
    induction n with
    | zero => exact fun g x2 hI hm => absurd hm (Nat.not_lt_zero _)
    | succ n ih =>
      intro g x2 hI hm
      have h := h2 g x2 hI
      clear hI
      unfold bX8_takesMore_2 at h
      refine v_iload_n o 2 dX8_takesMore_2 rfl ?_
      refine v_aload_n o 0 dX8_takesMore_3 rfl ?_
      refine v_iload_n o 1 dX8_takesMore_4 rfl ?_
      refine v_iconst o (v := 1) dX8_takesMore_5 (by decide) ?_
      refine v_cVi o [.int p1, .int 1] [.int x2] (fun sz => metX8_of l G P g sz a ha p1 1 _ h) (cwX8_51 o.1.2.2.2.2 (by decide)) ⟨_, _, rfl⟩ (by decide) (wfModel_o ha) rfl (Nat.le_of_ble_eq_true rfl) ⟨Nat.zero_le _, Nat.zero_le _⟩ dX8_takesMore_6 rfl (fun r6 g6 h => ?_)
      refine v_icmp_ge o (tgt := 45) dX8_takesMore_9 (by decide) (fun c9 => ?_) (fun c9 => ?_)
      · replace h := h.1 c9
        exact v_vret o rfl hr dX8_takesMore_45 h
      · replace h := h.2 c9
        refine v_aload_n o 0 dX8_takesMore_12 rfl ?_
        refine v_gfR o lkX8_22 (by decide) (wfModel_o ha) (wfModel_r8 ha) dX8_takesMore_13 ?_
        refine v_aload_n o 0 dX8_takesMore_16 rfl ?_
        refine v_gfI o lkX8_58 (by decide) (wfModel_o ha) dX8_takesMore_17 ?_
        refine v_aload_n o 0 dX8_takesMore_20 rfl ?_
        refine v_iload_n o 1 dX8_takesMore_21 rfl ?_
        refine v_iconst o (v := 2) dX8_takesMore_22 (by decide) ?_
        refine v_iload_n o 2 dX8_takesMore_23 rfl ?_
        refine v_iadd o dX8_takesMore_24 ?_
        refine v_cVi o [.int p1, .int (2 + x2)] [.int (g6 a 9), .ref (a + 5)] (fun sz => metX8_of l G P g6 sz a ha p1 (2 + x2) _ h) (cwX8_51 o.1.2.2.2.2 (by decide)) ⟨_, _, rfl⟩ (by decide) (wfModel_o ha) rfl (Nat.le_of_ble_eq_true rfl) ⟨Nat.zero_le _, Nat.zero_le _⟩ dX8_takesMore_25 rfl (fun r25 g25 h => ?_)
        refine v_iast o (wfModel_t8 ha) (wfModel_n8 ha) h.1 dX8_takesMore_28 ?_
        replace h := h.2
        refine v_nmf (fun g28 eg28 => ?_)
        replace h := h g28 eg28
        refine v_aload_n o 0 dX8_takesMore_29 rfl ?_
        refine v_dup o dX8_takesMore_30 rfl ?_
        refine v_gfI o lkX8_58 (by decide) (wfModel_o ha) dX8_takesMore_31 ?_
        refine v_iconst o (v := 1) dX8_takesMore_34 (by decide) ?_
        refine v_iadd o dX8_takesMore_35 ?_
        refine v_pf o lpX8_58 (wfModel_o ha) ⟨rfl, rfl⟩ dX8_takesMore_36 ?_
        refine v_nmf (fun g36 eg36 => ?_)
        replace h := h g36 eg36
        obtain ⟨x2_39, ex2_39⟩ : ∃ y : Int32, y = x2 + 1 := ⟨_, rfl⟩
        replace h := h x2_39 ex2_39
        refine v_iinc o (v := x2_39) (lv' := [(2, .int x2_39), (0, .ref a), (1, .int p1)]) 2 dX8_takesMore_39 rfl (by rw [ex2_39]; rfl) (by decide) rfl ?_
        refine v_goto o (tgt := 2) dX8_takesMore_42 (by decide) ?_
        refine v_sub [1, 2, 0] (lv2 := [(0, .ref a), (1, .int p1), (2, .int x2_39)]) rfl ?_
        exact ih g36 x2_39  h.1 (by have := h.2; omega)
  unfold vX8_takesMore at h
  refine v_iconst o (v := 0) dX8_takesMore_0 (by decide) ?_
  refine v_istore_n o (lv' := [(2, .int 0), (0, .ref a), (1, .int p1)]) dX8_takesMore_1 rfl (by decide) rfl ?_
  refine v_sub [1, 2, 0] (lv2 := [(0, .ref a), (1, .int p1), (2, .int 0)]) rfl ?_
  exact (main (μ2 f 0 + 1)) f 0  h (Nat.lt_succ_self _)
def kX8_takesMore (P : Sk) (f : St) (a : Nat) (p1 : Int32) (K : St → Prop) : Prop := False
theorem metX8_takesMore (l : Launch) (G : Gl) (P : Sk) (f : St) (sz : Nat) (a : Nat) (ha : IsModel P a) (p1 : Int32) (K : St → Prop) (h : kX8_takesMore P f a p1 K) : Met l yX8_takesMore (wU yX8_takesMore cX8_takesMore 3 none) rmX8_takesMore (PcW G P f sz [.ref a, .int p1]) (QcV G P sz K) 0 0 (frA P sz) := sorry

def jX8_puts_51 (P : Sk) (a : Nat) (p1 : Int32) (L22 : St → Int32 → Prop) (K : St → Prop) (x2 : Int32) (y2 : Int32) (y3 : Int32) (f : St) : Prop :=
  kX8_store P f a p1 y2 y3 (fun g51 => ∀ x2_54 : Int32, x2_54 = x2 + 1 → L22 g51 x2_54)
def bX8_puts_22 (P : Sk) (a : Nat) (p1 : Int32) (L22 : St → Int32 → Prop) (K : St → Prop) (f : St) (x2 : Int32) : Prop :=
  (24 ≤ x2 → K f) ∧ (¬ 24 ≤ x2 → (f a 9 ≤ x2 → jX8_puts_51 P a p1 L22 K x2 (2 + x2) 0 f) ∧ (¬ f a 9 ≤ x2 → vp_in x2 50 ∧ (jX8_puts_51 P a p1 L22 K x2 (2 + x2) (f (a + 5) x2.toNatClampNeg) f)))
def vX8_puts (P : Sk) (f : St) (a : Nat) (p1 : Int32) (L22 : St → Int32 → Prop) (K : St → Prop) : Prop :=
  kX8_store P f a p1 0 (f a 10) (fun g7 => kX8_store P g7 a p1 1 (g7 a 9) (fun g17 => L22 g17 0))
set_option maxRecDepth 20000 in
set_option maxHeartbeats 4000000 in
theorem mX8_puts (l : Launch) (G : Gl) (P : Sk) (f : St) (sz : Nat) (a : Nat) (ha : IsModel P a) (p1 : Int32) (K : St → Prop) (I22 : St → Int32 → Prop) (μ22 : St → Int32 → Nat) 
  (h : vX8_puts P f a p1 I22 K)
  (h22 : ∀ (g : St) (x2 : Int32) , I22 g x2 → bX8_puts_22 P a p1 (fun g' z0 => I22 g' z0 ∧ μ22 g' z0 < μ22 g x2) K g x2) :
  Met l yX8_puts (wU yX8_puts cX8_puts 3 none) rmX8_puts (PcW G P f sz [.ref a, .int p1]) (QcV G P sz K) 0 0 (frA P sz) := by
  refine v_met (own := RX8) [.ref a, .int p1] (by decide +kernel) rfl (Nat.le_of_ble_eq_true rfl) (fun p e s m args below meth c hsz o hr hnm => ?_)
  refine v_lv (lv2 := [(0, .ref a), (1, .int p1)]) rfl ?_
  have main : ∀ n : Nat, (∀ (g : St) (x2 : Int32) , I22 g x2 → μ22 g x2 < n → V p l e rmX8_puts s m args below meth c 3 G (frA P sz) (MQ below (QcV G P sz K) args s 0 0 (frA P sz)) 0 0 P [(0, .ref a), (1, .int p1), (2, .int x2)] [] 22 g) := by
    intro n
    induction n with
    | zero => exact fun g x2 hI hm => absurd hm (Nat.not_lt_zero _)
    | succ n ih =>
      intro g x2 hI hm
      have h := h22 g x2 hI
      clear hI
      have J51 : ∀ (x2_51 : Int32) (y2_51 : Int32) (y3_51 : Int32) (g51 : St), jX8_puts_51 P a p1 (fun g' z0 => I22 g' z0 ∧ μ22 g' z0 < μ22 g x2) K x2_51 y2_51 y3_51 g51 → V p l e rmX8_puts s m args below meth c 3 G (frA P sz) (MQ below (QcV G P sz K) args s 0 0 (frA P sz)) 0 0 P [(0, .ref a), (1, .int p1), (2, .int x2_51)] [.int y3_51, .int y2_51, .int p1, .ref a] 51 g51 := by
        intro x2_51 y2_51 y3_51 g51  h
        unfold jX8_puts_51 at h
        refine v_cVv o [.int p1, .int y2_51, .int y3_51] [] (fun sz => metX8_store l G P g51 sz a ha p1 y2_51 y3_51 _ h) (cwX8_61 o.1.2.2.2.2 (by decide)) ⟨_, _, rfl⟩ (by decide) (wfModel_o ha) rfl (Nat.le_of_ble_eq_true rfl) ⟨Nat.zero_le _, Nat.zero_le _⟩ dX8_puts_51 rfl (fun g51 h => ?_)
        obtain ⟨x2_54, ex2_54⟩ : ∃ y : Int32, y = x2_51 + 1 := ⟨_, rfl⟩
        replace h := h x2_54 ex2_54
        refine v_iinc o (v := x2_54) (lv' := [(2, .int x2_54), (0, .ref a), (1, .int p1)]) 2 dX8_puts_54 rfl (by rw [ex2_54]; rfl) (by decide) rfl ?_
        refine v_goto o (tgt := 22) dX8_puts_57 (by decide) ?_
        refine v_sub [1, 2, 0] (lv2 := [(0, .ref a), (1, .int p1), (2, .int x2_54)]) rfl ?_
        exact ih g51 x2_54  h.1 (by have := h.2; omega)
      unfold bX8_puts_22 at h
      refine v_iload_n o 2 dX8_puts_22 rfl ?_
      refine v_bipush o (v := 24) dX8_puts_23 (by decide) ?_
      refine v_icmp_ge o (tgt := 60) dX8_puts_25 (by decide) (fun c25 => ?_) (fun c25 => ?_)
      · replace h := h.1 c25
        exact v_vret o rfl hr dX8_puts_60 h
      · replace h := h.2 c25
        refine v_aload_n o 0 dX8_puts_28 rfl ?_
        refine v_iload_n o 1 dX8_puts_29 rfl ?_
        refine v_iconst o (v := 2) dX8_puts_30 (by decide) ?_
        refine v_iload_n o 2 dX8_puts_31 rfl ?_
        refine v_iadd o dX8_puts_32 ?_
        refine v_iload_n o 2 dX8_puts_33 rfl ?_
        refine v_aload_n o 0 dX8_puts_34 rfl ?_
        refine v_gfI o lkX8_58 (by decide) (wfModel_o ha) dX8_puts_35 ?_
        refine v_icmp_ge o (tgt := 50) dX8_puts_38 (by decide) (fun c38 => ?_) (fun c38 => ?_)
        · replace h := h.1 c38
          refine v_iconst o (v := 0) dX8_puts_50 (by decide) ?_
          refine v_sub [0, 1, 2] (lv2 := [(0, .ref a), (1, .int p1), (2, .int x2)]) rfl ?_
          exact J51 x2 (2 + x2) 0 g  h
        · replace h := h.2 c38
          refine v_aload_n o 0 dX8_puts_41 rfl ?_
          refine v_gfR o lkX8_22 (by decide) (wfModel_o ha) (wfModel_r8 ha) dX8_puts_42 ?_
          refine v_iload_n o 2 dX8_puts_45 rfl ?_
          refine v_iald o (wfModel_t8 ha) (wfModel_n8 ha) h.1 dX8_puts_46 ?_
          replace h := h.2
          refine v_goto o (tgt := 51) dX8_puts_47 (by decide) ?_
          refine v_sub [0, 1, 2] (lv2 := [(0, .ref a), (1, .int p1), (2, .int x2)]) rfl ?_
          exact J51 x2 (2 + x2) (g (a + 5) x2.toNatClampNeg) g  h
  unfold vX8_puts at h
  refine v_aload_n o 0 dX8_puts_0 rfl ?_
  refine v_iload_n o 1 dX8_puts_1 rfl ?_
  refine v_iconst o (v := 0) dX8_puts_2 (by decide) ?_
  refine v_aload_n o 0 dX8_puts_3 rfl ?_
  refine v_gfI o lkX8_55 (by decide) (wfModel_o ha) dX8_puts_4 ?_
  refine v_cVv o [.int p1, .int 0, .int (f a 10)] [] (fun sz => metX8_store l G P f sz a ha p1 0 (f a 10) _ h) (cwX8_61 o.1.2.2.2.2 (by decide)) ⟨_, _, rfl⟩ (by decide) (wfModel_o ha) rfl (Nat.le_of_ble_eq_true rfl) ⟨Nat.zero_le _, Nat.zero_le _⟩ dX8_puts_7 rfl (fun g7 h => ?_)
  refine v_aload_n o 0 dX8_puts_10 rfl ?_
  refine v_iload_n o 1 dX8_puts_11 rfl ?_
  refine v_iconst o (v := 1) dX8_puts_12 (by decide) ?_
  refine v_aload_n o 0 dX8_puts_13 rfl ?_
  refine v_gfI o lkX8_58 (by decide) (wfModel_o ha) dX8_puts_14 ?_
  refine v_cVv o [.int p1, .int 1, .int (g7 a 9)] [] (fun sz => metX8_store l G P g7 sz a ha p1 1 (g7 a 9) _ h) (cwX8_61 o.1.2.2.2.2 (by decide)) ⟨_, _, rfl⟩ (by decide) (wfModel_o ha) rfl (Nat.le_of_ble_eq_true rfl) ⟨Nat.zero_le _, Nat.zero_le _⟩ dX8_puts_17 rfl (fun g17 h => ?_)
  refine v_iconst o (v := 0) dX8_puts_20 (by decide) ?_
  refine v_istore_n o (lv' := [(2, .int 0), (0, .ref a), (1, .int p1)]) dX8_puts_21 rfl (by decide) rfl ?_
  refine v_sub [1, 2, 0] (lv2 := [(0, .ref a), (1, .int p1), (2, .int 0)]) rfl ?_
  exact (main (μ22 g17 0 + 1)) g17 0  h (Nat.lt_succ_self _)
def kX8_puts (P : Sk) (f : St) (a : Nat) (p1 : Int32) (K : St → Prop) : Prop := False
theorem metX8_puts (l : Launch) (G : Gl) (P : Sk) (f : St) (sz : Nat) (a : Nat) (ha : IsModel P a) (p1 : Int32) (K : St → Prop) (h : kX8_puts P f a p1 K) : Met l yX8_puts (wU yX8_puts cX8_puts 3 none) rmX8_puts (PcW G P f sz [.ref a, .int p1]) (QcV G P sz K) 0 0 (frA P sz) := sorry

def jX8_mirrors_46 (P : Sk) (a : Nat) (L2 : St → Int32 → Prop) (K : St → Prop) (x1 : Int32) (y1 : Int32) (y2 : Int32) (f : St) : Prop :=
  vp_in y1 50 ∧ (∀ g46 : St, g46 = setf f (a + 5) y1.toNatClampNeg y2 → ∀ x1_47 : Int32, x1_47 = x1 + 1 → L2 g46 x1_47)
def bX8_mirrors_2 (P : Sk) (a : Nat) (L2 : St → Int32 → Prop) (K : St → Prop) (f : St) (x1 : Int32) : Prop :=
  (f a 9 ≤ x1 → K f) ∧ (¬ f a 9 ≤ x1 → vp_in x1 50 ∧ ((¬ (f (a + 5) x1.toNatClampNeg) - (f (a + 5) x1.toNatClampNeg) / 2 * 2 = 1 → vp_in x1 50 ∧ (jX8_mirrors_46 P a L2 K x1 x1 ((f (a + 5) x1.toNatClampNeg) + 1) f)) ∧ ((f (a + 5) x1.toNatClampNeg) - (f (a + 5) x1.toNatClampNeg) / 2 * 2 = 1 → vp_in x1 50 ∧ (jX8_mirrors_46 P a L2 K x1 x1 ((f (a + 5) x1.toNatClampNeg) - 1) f))))
def vX8_mirrors (P : Sk) (f : St) (a : Nat) (L2 : St → Int32 → Prop) (K : St → Prop) : Prop :=
  L2 f 0
set_option maxRecDepth 20000 in
set_option maxHeartbeats 4000000 in
theorem mX8_mirrors (l : Launch) (G : Gl) (P : Sk) (f : St) (sz : Nat) (a : Nat) (ha : IsModel P a) (K : St → Prop) (I2 : St → Int32 → Prop) (μ2 : St → Int32 → Nat) 
  (h : vX8_mirrors P f a I2 K)
  (h2 : ∀ (g : St) (x1 : Int32) , I2 g x1 → bX8_mirrors_2 P a (fun g' z0 => I2 g' z0 ∧ μ2 g' z0 < μ2 g x1) K g x1) :
  Met l yX8_mirrors (wU yX8_mirrors cX8_mirrors 2 none) rmX8_mirrors (PcW G P f sz [.ref a]) (QcV G P sz K) 0 0 (frA P sz) := by
  refine v_met (own := RX8) [.ref a] (by decide +kernel) rfl (Nat.le_of_ble_eq_true rfl) (fun p e s m args below meth c hsz o hr hnm => ?_)
  refine v_lv (lv2 := [(0, .ref a)]) rfl ?_
  have main : ∀ n : Nat, (∀ (g : St) (x1 : Int32) , I2 g x1 → μ2 g x1 < n → V p l e rmX8_mirrors s m args below meth c 2 G (frA P sz) (MQ below (QcV G P sz K) args s 0 0 (frA P sz)) 0 0 P [(0, .ref a), (1, .int x1)] [] 2 g) := by
    intro n
    induction n with
    | zero => exact fun g x1 hI hm => absurd hm (Nat.not_lt_zero _)
    | succ n ih =>
      intro g x1 hI hm
      have h := h2 g x1 hI
      clear hI
      have J46 : ∀ (x1_46 : Int32) (y1_46 : Int32) (y2_46 : Int32) (g46 : St), jX8_mirrors_46 P a (fun g' z0 => I2 g' z0 ∧ μ2 g' z0 < μ2 g x1) K x1_46 y1_46 y2_46 g46 → V p l e rmX8_mirrors s m args below meth c 2 G (frA P sz) (MQ below (QcV G P sz K) args s 0 0 (frA P sz)) 0 0 P [(0, .ref a), (1, .int x1_46)] [.int y2_46, .int y1_46, .ref (a + 5)] 46 g46 := by
        intro x1_46 y1_46 y2_46 g46  h
        unfold jX8_mirrors_46 at h
        refine v_iast o (wfModel_t8 ha) (wfModel_n8 ha) h.1 dX8_mirrors_46 ?_
        replace h := h.2
        refine v_nmf (fun g46 eg46 => ?_)
        replace h := h g46 eg46
        obtain ⟨x1_47, ex1_47⟩ : ∃ y : Int32, y = x1_46 + 1 := ⟨_, rfl⟩
        replace h := h x1_47 ex1_47
        refine v_iinc o (v := x1_47) (lv' := [(1, .int x1_47), (0, .ref a)]) 1 dX8_mirrors_47 rfl (by rw [ex1_47]; rfl) (by decide) rfl ?_
        refine v_goto o (tgt := 2) dX8_mirrors_50 (by decide) ?_
        refine v_sub [1, 0] (lv2 := [(0, .ref a), (1, .int x1_47)]) rfl ?_
        exact ih g46 x1_47  h.1 (by have := h.2; omega)
      unfold bX8_mirrors_2 at h
      refine v_iload_n o 1 dX8_mirrors_2 rfl ?_
      refine v_aload_n o 0 dX8_mirrors_3 rfl ?_
      refine v_gfI o lkX8_58 (by decide) (wfModel_o ha) dX8_mirrors_4 ?_
      refine v_icmp_ge o (tgt := 53) dX8_mirrors_7 (by decide) (fun c7 => ?_) (fun c7 => ?_)
      · replace h := h.1 c7
        exact v_vret o rfl hr dX8_mirrors_53 h
      · replace h := h.2 c7
        refine v_aload_n o 0 dX8_mirrors_10 rfl ?_
        refine v_gfR o lkX8_22 (by decide) (wfModel_o ha) (wfModel_r8 ha) dX8_mirrors_11 ?_
        refine v_iload_n o 1 dX8_mirrors_14 rfl ?_
        refine v_aload_n o 0 dX8_mirrors_15 rfl ?_
        refine v_gfR o lkX8_22 (by decide) (wfModel_o ha) (wfModel_r8 ha) dX8_mirrors_16 ?_
        refine v_iload_n o 1 dX8_mirrors_19 rfl ?_
        refine v_iald o (wfModel_t8 ha) (wfModel_n8 ha) h.1 dX8_mirrors_20 ?_
        replace h := h.2
        refine v_iconst o (v := 2) dX8_mirrors_21 (by decide) ?_
        refine v_irem o dX8_mirrors_22 (by decide) ?_
        refine v_iconst o (v := 1) dX8_mirrors_23 (by decide) ?_
        refine v_icmp_ne o (tgt := 38) dX8_mirrors_24 (by decide) (fun c24 => ?_) (fun c24 => ?_)
        · replace h := h.1 c24
          refine v_aload_n o 0 dX8_mirrors_38 rfl ?_
          refine v_gfR o lkX8_22 (by decide) (wfModel_o ha) (wfModel_r8 ha) dX8_mirrors_39 ?_
          refine v_iload_n o 1 dX8_mirrors_42 rfl ?_
          refine v_iald o (wfModel_t8 ha) (wfModel_n8 ha) h.1 dX8_mirrors_43 ?_
          replace h := h.2
          refine v_iconst o (v := 1) dX8_mirrors_44 (by decide) ?_
          refine v_iadd o dX8_mirrors_45 ?_
          refine v_sub [0, 1] (lv2 := [(0, .ref a), (1, .int x1)]) rfl ?_
          exact J46 x1 x1 ((g (a + 5) x1.toNatClampNeg) + 1) g  h
        · replace h := h.2 c24
          refine v_aload_n o 0 dX8_mirrors_27 rfl ?_
          refine v_gfR o lkX8_22 (by decide) (wfModel_o ha) (wfModel_r8 ha) dX8_mirrors_28 ?_
          refine v_iload_n o 1 dX8_mirrors_31 rfl ?_
          refine v_iald o (wfModel_t8 ha) (wfModel_n8 ha) h.1 dX8_mirrors_32 ?_
          replace h := h.2
          refine v_iconst o (v := 1) dX8_mirrors_33 (by decide) ?_
          refine v_isub o dX8_mirrors_34 ?_
          refine v_goto o (tgt := 46) dX8_mirrors_35 (by decide) ?_
          refine v_sub [0, 1] (lv2 := [(0, .ref a), (1, .int x1)]) rfl ?_
          exact J46 x1 x1 ((g (a + 5) x1.toNatClampNeg) - 1) g  h
  unfold vX8_mirrors at h
  refine v_iconst o (v := 0) dX8_mirrors_0 (by decide) ?_
  refine v_istore_n o (lv' := [(1, .int 0), (0, .ref a)]) dX8_mirrors_1 rfl (by decide) rfl ?_
  refine v_sub [1, 0] (lv2 := [(0, .ref a), (1, .int 0)]) rfl ?_
  exact (main (μ2 f 0 + 1)) f 0  h (Nat.lt_succ_self _)
def kX8_mirrors (P : Sk) (f : St) (a : Nat) (K : St → Prop) : Prop := False
theorem metX8_mirrors (l : Launch) (G : Gl) (P : Sk) (f : St) (sz : Nat) (a : Nat) (ha : IsModel P a) (K : St → Prop) (h : kX8_mirrors P f a K) : Met l yX8_mirrors (wU yX8_mirrors cX8_mirrors 2 none) rmX8_mirrors (PcW G P f sz [.ref a]) (QcV G P sz K) 0 0 (frA P sz) := sorry

def bX8_turns_2 (P : Sk) (a : Nat) (L2 : St → Int32 → Prop) (K : St → Prop) (f : St) (x1 : Int32) : Prop :=
  (f a 9 ≤ x1 → K f) ∧ (¬ f a 9 ≤ x1 → vp_in x1 50 ∧ (vp_in x1 50 ∧ (vp_in x1 50 ∧ (∀ g41 : St, g41 = setf f (a + 5) x1.toNatClampNeg ((2 * (((f a 10) - 2) - ((f (a + 5) x1.toNatClampNeg) / 2))) + ((f (a + 5) x1.toNatClampNeg) - (f (a + 5) x1.toNatClampNeg) / 2 * 2)) → ∀ x1_42 : Int32, x1_42 = x1 + 1 → L2 g41 x1_42))))
def vX8_turns (P : Sk) (f : St) (a : Nat) (L2 : St → Int32 → Prop) (K : St → Prop) : Prop :=
  L2 f 0
set_option maxRecDepth 20000 in
set_option maxHeartbeats 4000000 in
theorem mX8_turns (l : Launch) (G : Gl) (P : Sk) (f : St) (sz : Nat) (a : Nat) (ha : IsModel P a) (K : St → Prop) (I2 : St → Int32 → Prop) (μ2 : St → Int32 → Nat) 
  (h : vX8_turns P f a I2 K)
  (h2 : ∀ (g : St) (x1 : Int32) , I2 g x1 → bX8_turns_2 P a (fun g' z0 => I2 g' z0 ∧ μ2 g' z0 < μ2 g x1) K g x1) :
  Met l yX8_turns (wU yX8_turns cX8_turns 2 none) rmX8_turns (PcW G P f sz [.ref a]) (QcV G P sz K) 0 0 (frA P sz) := by
  refine v_met (own := RX8) [.ref a] (by decide +kernel) rfl (Nat.le_of_ble_eq_true rfl) (fun p e s m args below meth c hsz o hr hnm => ?_)
  refine v_lv (lv2 := [(0, .ref a)]) rfl ?_
  have main : ∀ n : Nat, (∀ (g : St) (x1 : Int32) , I2 g x1 → μ2 g x1 < n → V p l e rmX8_turns s m args below meth c 2 G (frA P sz) (MQ below (QcV G P sz K) args s 0 0 (frA P sz)) 0 0 P [(0, .ref a), (1, .int x1)] [] 2 g) := by
    intro n
    induction n with
    | zero => exact fun g x1 hI hm => absurd hm (Nat.not_lt_zero _)
    | succ n ih =>
      intro g x1 hI hm
      have h := h2 g x1 hI
      clear hI
      unfold bX8_turns_2 at h
      refine v_iload_n o 1 dX8_turns_2 rfl ?_
      refine v_aload_n o 0 dX8_turns_3 rfl ?_
      refine v_gfI o lkX8_58 (by decide) (wfModel_o ha) dX8_turns_4 ?_
      refine v_icmp_ge o (tgt := 48) dX8_turns_7 (by decide) (fun c7 => ?_) (fun c7 => ?_)
      · replace h := h.1 c7
        exact v_vret o rfl hr dX8_turns_48 h
      · replace h := h.2 c7
        refine v_aload_n o 0 dX8_turns_10 rfl ?_
        refine v_gfR o lkX8_22 (by decide) (wfModel_o ha) (wfModel_r8 ha) dX8_turns_11 ?_
        refine v_iload_n o 1 dX8_turns_14 rfl ?_
        refine v_iconst o (v := 2) dX8_turns_15 (by decide) ?_
        refine v_aload_n o 0 dX8_turns_16 rfl ?_
        refine v_gfI o lkX8_55 (by decide) (wfModel_o ha) dX8_turns_17 ?_
        refine v_iconst o (v := 2) dX8_turns_20 (by decide) ?_
        refine v_isub o dX8_turns_21 ?_
        refine v_aload_n o 0 dX8_turns_22 rfl ?_
        refine v_gfR o lkX8_22 (by decide) (wfModel_o ha) (wfModel_r8 ha) dX8_turns_23 ?_
        refine v_iload_n o 1 dX8_turns_26 rfl ?_
        refine v_iald o (wfModel_t8 ha) (wfModel_n8 ha) h.1 dX8_turns_27 ?_
        replace h := h.2
        refine v_iconst o (v := 2) dX8_turns_28 (by decide) ?_
        refine v_idiv o dX8_turns_29 (by decide) ?_
        refine v_isub o dX8_turns_30 ?_
        refine v_imul o dX8_turns_31 ?_
        refine v_aload_n o 0 dX8_turns_32 rfl ?_
        refine v_gfR o lkX8_22 (by decide) (wfModel_o ha) (wfModel_r8 ha) dX8_turns_33 ?_
        refine v_iload_n o 1 dX8_turns_36 rfl ?_
        refine v_iald o (wfModel_t8 ha) (wfModel_n8 ha) h.1 dX8_turns_37 ?_
        replace h := h.2
        refine v_iconst o (v := 2) dX8_turns_38 (by decide) ?_
        refine v_irem o dX8_turns_39 (by decide) ?_
        refine v_iadd o dX8_turns_40 ?_
        refine v_iast o (wfModel_t8 ha) (wfModel_n8 ha) h.1 dX8_turns_41 ?_
        replace h := h.2
        refine v_nmf (fun g41 eg41 => ?_)
        replace h := h g41 eg41
        obtain ⟨x1_42, ex1_42⟩ : ∃ y : Int32, y = x1 + 1 := ⟨_, rfl⟩
        replace h := h x1_42 ex1_42
        refine v_iinc o (v := x1_42) (lv' := [(1, .int x1_42), (0, .ref a)]) 1 dX8_turns_42 rfl (by rw [ex1_42]; rfl) (by decide) rfl ?_
        refine v_goto o (tgt := 2) dX8_turns_45 (by decide) ?_
        refine v_sub [1, 0] (lv2 := [(0, .ref a), (1, .int x1_42)]) rfl ?_
        exact ih g41 x1_42  h.1 (by have := h.2; omega)
  unfold vX8_turns at h
  refine v_iconst o (v := 0) dX8_turns_0 (by decide) ?_
  refine v_istore_n o (lv' := [(1, .int 0), (0, .ref a)]) dX8_turns_1 rfl (by decide) rfl ?_
  refine v_sub [1, 0] (lv2 := [(0, .ref a), (1, .int 0)]) rfl ?_
  exact (main (μ2 f 0 + 1)) f 0  h (Nat.lt_succ_self _)
def kX8_turns (P : Sk) (f : St) (a : Nat) (K : St → Prop) : Prop := False
theorem metX8_turns (l : Launch) (G : Gl) (P : Sk) (f : St) (sz : Nat) (a : Nat) (ha : IsModel P a) (K : St → Prop) (h : kX8_turns P f a K) : Met l yX8_turns (wU yX8_turns cX8_turns 2 none) rmX8_turns (PcW G P f sz [.ref a]) (QcV G P sz K) 0 0 (frA P sz) := sorry

def bX8_reverses_2 (P : Sk) (a : Nat) (L2 : St → Int32 → Prop) (K : St → Prop) (f : St) (x1 : Int32) : Prop :=
  ((f a 9) / 2 ≤ x1 → kX8_mirrors P f a (fun g59 => K g59)) ∧ (¬ (f a 9) / 2 ≤ x1 → vp_in x1 50 ∧ (∀ x2_18 : Int32, x2_18 = f (a + 5) x1.toNatClampNeg → vp_in (((f a 9) - 1) - x1) 50 ∧ (vp_in x1 50 ∧ (∀ g37 : St, g37 = setf f (a + 5) x1.toNatClampNeg (f (a + 5) (((f a 9) - 1) - x1).toNatClampNeg) → vp_in (((g37 a 9) - 1) - x1) 50 ∧ (∀ g51 : St, g51 = setf g37 (a + 5) (((g37 a 9) - 1) - x1).toNatClampNeg x2_18 → ∀ x1_52 : Int32, x1_52 = x1 + 1 → L2 g51 x1_52)))))
def vX8_reverses (P : Sk) (f : St) (a : Nat) (L2 : St → Int32 → Prop) (K : St → Prop) : Prop :=
  L2 f 0
set_option maxRecDepth 20000 in
set_option maxHeartbeats 4000000 in
theorem mX8_reverses (l : Launch) (G : Gl) (P : Sk) (f : St) (sz : Nat) (a : Nat) (ha : IsModel P a) (K : St → Prop) (I2 : St → Int32 → Prop) (μ2 : St → Int32 → Nat) 
  (h : vX8_reverses P f a I2 K)
  (h2 : ∀ (g : St) (x1 : Int32) , I2 g x1 → bX8_reverses_2 P a (fun g' z0 => I2 g' z0 ∧ μ2 g' z0 < μ2 g x1) K g x1) :
  Met l yX8_reverses (wU yX8_reverses cX8_reverses 3 none) rmX8_reverses (PcW G P f sz [.ref a]) (QcV G P sz K) 0 0 (frA P sz) := by
  refine v_met (own := RX8) [.ref a] (by decide +kernel) rfl (Nat.le_of_ble_eq_true rfl) (fun p e s m args below meth c hsz o hr hnm => ?_)
  refine v_lv (lv2 := [(0, .ref a)]) rfl ?_
  have main : ∀ n : Nat, (∀ (g : St) (x1 : Int32) , I2 g x1 → μ2 g x1 < n → V p l e rmX8_reverses s m args below meth c 3 G (frA P sz) (MQ below (QcV G P sz K) args s 0 0 (frA P sz)) 0 0 P [(0, .ref a), (1, .int x1)] [] 2 g) := by
    intro n
    induction n with
    | zero => exact fun g x1 hI hm => absurd hm (Nat.not_lt_zero _)
    | succ n ih =>
      intro g x1 hI hm
      have h := h2 g x1 hI
      clear hI
      unfold bX8_reverses_2 at h
      refine v_iload_n o 1 dX8_reverses_2 rfl ?_
      refine v_aload_n o 0 dX8_reverses_3 rfl ?_
      refine v_gfI o lkX8_58 (by decide) (wfModel_o ha) dX8_reverses_4 ?_
      refine v_iconst o (v := 2) dX8_reverses_7 (by decide) ?_
      refine v_idiv o dX8_reverses_8 (by decide) ?_
      refine v_icmp_ge o (tgt := 58) dX8_reverses_9 (by decide) (fun c9 => ?_) (fun c9 => ?_)
      · replace h := h.1 c9
        refine v_aload_n o 0 dX8_reverses_58 rfl ?_
        refine v_cVv o [] [] (fun sz => metX8_mirrors l G P g sz a ha _ h) (cwX8_65 o.1.2.2.2.2 (by decide)) ⟨_, _, rfl⟩ (by decide) (wfModel_o ha) rfl (Nat.le_of_ble_eq_true rfl) ⟨Nat.zero_le _, Nat.zero_le _⟩ dX8_reverses_59 rfl (fun g59 h => ?_)
        exact v_vret o rfl hr dX8_reverses_62 h
      · replace h := h.2 c9
        refine v_aload_n o 0 dX8_reverses_12 rfl ?_
        refine v_gfR o lkX8_22 (by decide) (wfModel_o ha) (wfModel_r8 ha) dX8_reverses_13 ?_
        refine v_iload_n o 1 dX8_reverses_16 rfl ?_
        refine v_iald o (wfModel_t8 ha) (wfModel_n8 ha) h.1 dX8_reverses_17 ?_
        replace h := h.2
        refine v_topi (fun x2_18 ex2_18 => ?_)
        replace h := h x2_18 ex2_18
        refine v_istore_n o (lv' := [(2, .int x2_18), (0, .ref a), (1, .int x1)]) dX8_reverses_18 rfl (by decide) rfl ?_
        refine v_aload_n o 1 dX8_reverses_19 rfl ?_
        refine v_gfR o lkX8_22 (by decide) (wfModel_o ha) (wfModel_r8 ha) dX8_reverses_20 ?_
        refine v_iload_n o 2 dX8_reverses_23 rfl ?_
        refine v_aload_n o 1 dX8_reverses_24 rfl ?_
        refine v_gfR o lkX8_22 (by decide) (wfModel_o ha) (wfModel_r8 ha) dX8_reverses_25 ?_
        refine v_aload_n o 1 dX8_reverses_28 rfl ?_
        refine v_gfI o lkX8_58 (by decide) (wfModel_o ha) dX8_reverses_29 ?_
        refine v_iconst o (v := 1) dX8_reverses_32 (by decide) ?_
        refine v_isub o dX8_reverses_33 ?_
        refine v_iload_n o 2 dX8_reverses_34 rfl ?_
        refine v_isub o dX8_reverses_35 ?_
        refine v_iald o (wfModel_t8 ha) (wfModel_n8 ha) h.1 dX8_reverses_36 ?_
        replace h := h.2
        refine v_iast o (wfModel_t8 ha) (wfModel_n8 ha) h.1 dX8_reverses_37 ?_
        replace h := h.2
        refine v_nmf (fun g37 eg37 => ?_)
        replace h := h g37 eg37
        refine v_aload_n o 1 dX8_reverses_38 rfl ?_
        refine v_gfR o lkX8_22 (by decide) (wfModel_o ha) (wfModel_r8 ha) dX8_reverses_39 ?_
        refine v_aload_n o 1 dX8_reverses_42 rfl ?_
        refine v_gfI o lkX8_58 (by decide) (wfModel_o ha) dX8_reverses_43 ?_
        refine v_iconst o (v := 1) dX8_reverses_46 (by decide) ?_
        refine v_isub o dX8_reverses_47 ?_
        refine v_iload_n o 2 dX8_reverses_48 rfl ?_
        refine v_isub o dX8_reverses_49 ?_
        refine v_iload_n o 0 dX8_reverses_50 rfl ?_
        refine v_iast o (wfModel_t8 ha) (wfModel_n8 ha) h.1 dX8_reverses_51 ?_
        replace h := h.2
        refine v_nmf (fun g51 eg51 => ?_)
        replace h := h g51 eg51
        obtain ⟨x1_52, ex1_52⟩ : ∃ y : Int32, y = x1 + 1 := ⟨_, rfl⟩
        replace h := h x1_52 ex1_52
        refine v_iinc o (v := x1_52) (lv' := [(1, .int x1_52), (2, .int x2_18), (0, .ref a)]) 2 dX8_reverses_52 rfl (by rw [ex1_52]; rfl) (by decide) rfl ?_
        refine v_goto o (tgt := 2) dX8_reverses_55 (by decide) ?_
        refine v_sub [2, 0] (lv2 := [(0, .ref a), (1, .int x1_52)]) rfl ?_
        exact ih g51 x1_52  h.1 (by have := h.2; omega)
  unfold vX8_reverses at h
  refine v_iconst o (v := 0) dX8_reverses_0 (by decide) ?_
  refine v_istore_n o (lv' := [(1, .int 0), (0, .ref a)]) dX8_reverses_1 rfl (by decide) rfl ?_
  refine v_sub [1, 0] (lv2 := [(0, .ref a), (1, .int 0)]) rfl ?_
  exact (main (μ2 f 0 + 1)) f 0  h (Nat.lt_succ_self _)
def kX8_reverses (P : Sk) (f : St) (a : Nat) (K : St → Prop) : Prop := False
theorem metX8_reverses (l : Launch) (G : Gl) (P : Sk) (f : St) (sz : Nat) (a : Nat) (ha : IsModel P a) (K : St → Prop) (h : kX8_reverses P f a K) : Met l yX8_reverses (wU yX8_reverses cX8_reverses 3 none) rmX8_reverses (PcW G P f sz [.ref a]) (QcV G P sz K) 0 0 (frA P sz) := sorry

def vX8_isUndone (P : Sk) (f : St) (a : Nat) (p1 : Int32) (K : Int32 → St → Prop) : Prop :=
  vp_in p1 50 ∧ (vp_in (p1 + 1) 50 ∧ ((¬ (f (a + 5) p1.toNatClampNeg) / 2 = (f (a + 5) (p1 + 1).toNatClampNeg) / 2 → K 0 f) ∧ ((f (a + 5) p1.toNatClampNeg) / 2 = (f (a + 5) (p1 + 1).toNatClampNeg) / 2 → vp_in p1 50 ∧ (vp_in (p1 + 1) 50 ∧ ((f (a + 5) p1.toNatClampNeg = f (a + 5) (p1 + 1).toNatClampNeg → K 0 f) ∧ (¬ f (a + 5) p1.toNatClampNeg = f (a + 5) (p1 + 1).toNatClampNeg → K 1 f))))))
set_option maxRecDepth 20000 in
set_option maxHeartbeats 4000000 in
theorem mX8_isUndone (l : Launch) (G : Gl) (P : Sk) (f : St) (sz : Nat) (a : Nat) (ha : IsModel P a) (p1 : Int32) (K : Int32 → St → Prop) (h : vX8_isUndone P f a p1 K)  :
  Met l yX8_isUndone (wU yX8_isUndone cX8_isUndone 2 (some .boolean)) rmX8_isUndone (PcW G P f sz [.ref a, .int p1]) (QcI G P sz K) 0 0 (frA P sz) := by
  refine v_met (own := RX8) [.ref a, .int p1] (by decide +kernel) rfl (Nat.le_of_ble_eq_true rfl) (fun p e s m args below meth c hsz o hr hnm => ?_)
  refine v_lv (lv2 := [(0, .ref a), (1, .int p1)]) rfl ?_
  unfold vX8_isUndone at h
  refine v_aload_n o 0 dX8_isUndone_0 rfl ?_
  refine v_gfR o lkX8_22 (by decide) (wfModel_o ha) (wfModel_r8 ha) dX8_isUndone_1 ?_
  refine v_iload_n o 1 dX8_isUndone_4 rfl ?_
  refine v_iald o (wfModel_t8 ha) (wfModel_n8 ha) h.1 dX8_isUndone_5 ?_
  replace h := h.2
  refine v_iconst o (v := 2) dX8_isUndone_6 (by decide) ?_
  refine v_idiv o dX8_isUndone_7 (by decide) ?_
  refine v_aload_n o 0 dX8_isUndone_8 rfl ?_
  refine v_gfR o lkX8_22 (by decide) (wfModel_o ha) (wfModel_r8 ha) dX8_isUndone_9 ?_
  refine v_iload_n o 1 dX8_isUndone_12 rfl ?_
  refine v_iconst o (v := 1) dX8_isUndone_13 (by decide) ?_
  refine v_iadd o dX8_isUndone_14 ?_
  refine v_iald o (wfModel_t8 ha) (wfModel_n8 ha) h.1 dX8_isUndone_15 ?_
  replace h := h.2
  refine v_iconst o (v := 2) dX8_isUndone_16 (by decide) ?_
  refine v_idiv o dX8_isUndone_17 (by decide) ?_
  refine v_icmp_ne o (tgt := 42) dX8_isUndone_18 (by decide) (fun c18 => ?_) (fun c18 => ?_)
  · replace h := h.1 c18
    refine v_iconst o (v := 0) dX8_isUndone_42 (by decide) ?_
    exact v_zret o rfl hr bz0.1 dX8_isUndone_43 h
  · replace h := h.2 c18
    refine v_aload_n o 0 dX8_isUndone_21 rfl ?_
    refine v_gfR o lkX8_22 (by decide) (wfModel_o ha) (wfModel_r8 ha) dX8_isUndone_22 ?_
    refine v_iload_n o 1 dX8_isUndone_25 rfl ?_
    refine v_iald o (wfModel_t8 ha) (wfModel_n8 ha) h.1 dX8_isUndone_26 ?_
    replace h := h.2
    refine v_aload_n o 0 dX8_isUndone_27 rfl ?_
    refine v_gfR o lkX8_22 (by decide) (wfModel_o ha) (wfModel_r8 ha) dX8_isUndone_28 ?_
    refine v_iload_n o 1 dX8_isUndone_31 rfl ?_
    refine v_iconst o (v := 1) dX8_isUndone_32 (by decide) ?_
    refine v_iadd o dX8_isUndone_33 ?_
    refine v_iald o (wfModel_t8 ha) (wfModel_n8 ha) h.1 dX8_isUndone_34 ?_
    replace h := h.2
    refine v_icmp_eq o (tgt := 42) dX8_isUndone_35 (by decide) (fun c35 => ?_) (fun c35 => ?_)
    · replace h := h.1 c35
      refine v_iconst o (v := 0) dX8_isUndone_42 (by decide) ?_
      exact v_zret o rfl hr bz0.1 dX8_isUndone_43 h
    · replace h := h.2 c35
      refine v_iconst o (v := 1) dX8_isUndone_38 (by decide) ?_
      refine v_goto o (tgt := 43) dX8_isUndone_39 (by decide) ?_
      exact v_zret o rfl hr bz1.1 dX8_isUndone_43 h
abbrev kX8_isUndone := @vX8_isUndone
abbrev metX8_isUndone := @mX8_isUndone

def bX8_takesOut_12 (P : Sk) (a : Nat) (p1 : Int32) (L12 : St → Int32 → Prop) (K : St → Prop) (f : St) (x2 : Int32) : Prop :=
  (f a 9 ≤ x2 → K f) ∧ (¬ f a 9 ≤ x2 → vp_in (x2 + 2) 50 ∧ (vp_in x2 50 ∧ (∀ g33 : St, g33 = setf f (a + 5) x2.toNatClampNeg (f (a + 5) (x2 + 2).toNatClampNeg) → ∀ x2_34 : Int32, x2_34 = x2 + 1 → L12 g33 x2_34)))
def vX8_takesOut (P : Sk) (f : St) (a : Nat) (p1 : Int32) (L12 : St → Int32 → Prop) (K : St → Prop) : Prop :=
  ∀ g7 : St, g7 = setf f a 9 ((f a 9) - 2) → L12 g7 p1
set_option maxRecDepth 20000 in
set_option maxHeartbeats 4000000 in
theorem mX8_takesOut (l : Launch) (G : Gl) (P : Sk) (f : St) (sz : Nat) (a : Nat) (ha : IsModel P a) (p1 : Int32) (K : St → Prop) (I12 : St → Int32 → Prop) (μ12 : St → Int32 → Nat) 
  (h : vX8_takesOut P f a p1 I12 K)
  (h12 : ∀ (g : St) (x2 : Int32) , I12 g x2 → bX8_takesOut_12 P a p1 (fun g' z0 => I12 g' z0 ∧ μ12 g' z0 < μ12 g x2) K g x2) :
  Met l yX8_takesOut (wU yX8_takesOut cX8_takesOut 3 none) rmX8_takesOut (PcW G P f sz [.ref a, .int p1]) (QcV G P sz K) 0 0 (frA P sz) := by
  refine v_met (own := RX8) [.ref a, .int p1] (by decide +kernel) rfl (Nat.le_of_ble_eq_true rfl) (fun p e s m args below meth c hsz o hr hnm => ?_)
  refine v_lv (lv2 := [(0, .ref a), (1, .int p1)]) rfl ?_
  have main : ∀ n : Nat, (∀ (g : St) (x2 : Int32) , I12 g x2 → μ12 g x2 < n → V p l e rmX8_takesOut s m args below meth c 3 G (frA P sz) (MQ below (QcV G P sz K) args s 0 0 (frA P sz)) 0 0 P [(0, .ref a), (1, .int p1), (2, .int x2)] [] 12 g) := by
    intro n
    induction n with
    | zero => exact fun g x2 hI hm => absurd hm (Nat.not_lt_zero _)
    | succ n ih =>
      intro g x2 hI hm
      have h := h12 g x2 hI
      clear hI
      unfold bX8_takesOut_12 at h
      refine v_iload_n o 2 dX8_takesOut_12 rfl ?_
      refine v_aload_n o 0 dX8_takesOut_13 rfl ?_
      refine v_gfI o lkX8_58 (by decide) (wfModel_o ha) dX8_takesOut_14 ?_
      refine v_icmp_ge o (tgt := 40) dX8_takesOut_17 (by decide) (fun c17 => ?_) (fun c17 => ?_)
      · replace h := h.1 c17
        exact v_vret o rfl hr dX8_takesOut_40 h
      · replace h := h.2 c17
        refine v_aload_n o 0 dX8_takesOut_20 rfl ?_
        refine v_gfR o lkX8_22 (by decide) (wfModel_o ha) (wfModel_r8 ha) dX8_takesOut_21 ?_
        refine v_iload_n o 2 dX8_takesOut_24 rfl ?_
        refine v_aload_n o 0 dX8_takesOut_25 rfl ?_
        refine v_gfR o lkX8_22 (by decide) (wfModel_o ha) (wfModel_r8 ha) dX8_takesOut_26 ?_
        refine v_iload_n o 2 dX8_takesOut_29 rfl ?_
        refine v_iconst o (v := 2) dX8_takesOut_30 (by decide) ?_
        refine v_iadd o dX8_takesOut_31 ?_
        refine v_iald o (wfModel_t8 ha) (wfModel_n8 ha) h.1 dX8_takesOut_32 ?_
        replace h := h.2
        refine v_iast o (wfModel_t8 ha) (wfModel_n8 ha) h.1 dX8_takesOut_33 ?_
        replace h := h.2
        refine v_nmf (fun g33 eg33 => ?_)
        replace h := h g33 eg33
        obtain ⟨x2_34, ex2_34⟩ : ∃ y : Int32, y = x2 + 1 := ⟨_, rfl⟩
        replace h := h x2_34 ex2_34
        refine v_iinc o (v := x2_34) (lv' := [(2, .int x2_34), (0, .ref a), (1, .int p1)]) 2 dX8_takesOut_34 rfl (by rw [ex2_34]; rfl) (by decide) rfl ?_
        refine v_goto o (tgt := 12) dX8_takesOut_37 (by decide) ?_
        refine v_sub [1, 2, 0] (lv2 := [(0, .ref a), (1, .int p1), (2, .int x2_34)]) rfl ?_
        exact ih g33 x2_34  h.1 (by have := h.2; omega)
  unfold vX8_takesOut at h
  refine v_aload_n o 0 dX8_takesOut_0 rfl ?_
  refine v_dup o dX8_takesOut_1 rfl ?_
  refine v_gfI o lkX8_58 (by decide) (wfModel_o ha) dX8_takesOut_2 ?_
  refine v_iconst o (v := 2) dX8_takesOut_5 (by decide) ?_
  refine v_isub o dX8_takesOut_6 ?_
  refine v_pf o lpX8_58 (wfModel_o ha) ⟨rfl, rfl⟩ dX8_takesOut_7 ?_
  refine v_nmf (fun g7 eg7 => ?_)
  replace h := h g7 eg7
  refine v_iload_n o 1 dX8_takesOut_10 rfl ?_
  refine v_istore_n o (lv' := [(2, .int p1), (0, .ref a), (1, .int p1)]) dX8_takesOut_11 rfl (by decide) rfl ?_
  refine v_sub [1, 2, 0] (lv2 := [(0, .ref a), (1, .int p1), (2, .int p1)]) rfl ?_
  exact (main (μ12 g7 p1 + 1)) g7 p1  h (Nat.lt_succ_self _)
def kX8_takesOut (P : Sk) (f : St) (a : Nat) (p1 : Int32) (K : St → Prop) : Prop := False
theorem metX8_takesOut (l : Launch) (G : Gl) (P : Sk) (f : St) (sz : Nat) (a : Nat) (ha : IsModel P a) (p1 : Int32) (K : St → Prop) (h : kX8_takesOut P f a p1 K) : Met l yX8_takesOut (wU yX8_takesOut cX8_takesOut 3 none) rmX8_takesOut (PcW G P f sz [.ref a, .int p1]) (QcV G P sz K) 0 0 (frA P sz) := sorry

def bX8_firstUndone_2 (P : Sk) (a : Nat) (L2 : St → Int32 → Prop) (K : Int32 → St → Prop) (f : St) (x1 : Int32) : Prop :=
  (f a 9 ≤ x1 + 1 → K (-1) f) ∧ (¬ f a 9 ≤ x1 + 1 → kX8_isUndone P f a x1 (fun r14 g14 => (r14 = 0 → ∀ x1_22 : Int32, x1_22 = x1 + 1 → L2 g14 x1_22) ∧ (¬ r14 = 0 → K x1 g14)))
def vX8_firstUndone (P : Sk) (f : St) (a : Nat) (L2 : St → Int32 → Prop) (K : Int32 → St → Prop) : Prop :=
  L2 f 0
set_option maxRecDepth 20000 in
set_option maxHeartbeats 4000000 in
theorem mX8_firstUndone (l : Launch) (G : Gl) (P : Sk) (f : St) (sz : Nat) (a : Nat) (ha : IsModel P a) (K : Int32 → St → Prop) (I2 : St → Int32 → Prop) (μ2 : St → Int32 → Nat) 
  (h : vX8_firstUndone P f a I2 K)
  (h2 : ∀ (g : St) (x1 : Int32) , I2 g x1 → bX8_firstUndone_2 P a (fun g' z0 => I2 g' z0 ∧ μ2 g' z0 < μ2 g x1) K g x1) :
  Met l yX8_firstUndone (wU yX8_firstUndone cX8_firstUndone 2 (some .int)) rmX8_firstUndone (PcW G P f sz [.ref a]) (QcI G P sz K) 0 0 (frA P sz) := by
  refine v_met (own := RX8) [.ref a] (by decide +kernel) rfl (Nat.le_of_ble_eq_true rfl) (fun p e s m args below meth c hsz o hr hnm => ?_)
  refine v_lv (lv2 := [(0, .ref a)]) rfl ?_
  have main : ∀ n : Nat, (∀ (g : St) (x1 : Int32) , I2 g x1 → μ2 g x1 < n → V p l e rmX8_firstUndone s m args below meth c 2 G (frA P sz) (MQ below (QcI G P sz K) args s 0 0 (frA P sz)) 0 0 P [(0, .ref a), (1, .int x1)] [] 2 g) := by
    intro n
    induction n with
    | zero => exact fun g x1 hI hm => absurd hm (Nat.not_lt_zero _)
    | succ n ih =>
      intro g x1 hI hm
      have h := h2 g x1 hI
      clear hI
      unfold bX8_firstUndone_2 at h
      refine v_iload_n o 1 dX8_firstUndone_2 rfl ?_
      refine v_iconst o (v := 1) dX8_firstUndone_3 (by decide) ?_
      refine v_iadd o dX8_firstUndone_4 ?_
      refine v_aload_n o 0 dX8_firstUndone_5 rfl ?_
      refine v_gfI o lkX8_58 (by decide) (wfModel_o ha) dX8_firstUndone_6 ?_
      refine v_icmp_ge o (tgt := 28) dX8_firstUndone_9 (by decide) (fun c9 => ?_) (fun c9 => ?_)
      · replace h := h.1 c9
        refine v_iconst o (v := (-1)) dX8_firstUndone_28 (by decide) ?_
        exact v_iret o rfl hr dX8_firstUndone_29 h
      · replace h := h.2 c9
        refine v_aload_n o 0 dX8_firstUndone_12 rfl ?_
        refine v_iload_n o 1 dX8_firstUndone_13 rfl ?_
        refine v_cVi o [.int x1] [] (fun sz => metX8_isUndone l G P g sz a ha x1 _ h) (cwX8_68 o.1.2.2.2.2 (by decide)) ⟨_, _, rfl⟩ (by decide) (wfModel_o ha) rfl (Nat.le_of_ble_eq_true rfl) ⟨Nat.zero_le _, Nat.zero_le _⟩ dX8_firstUndone_14 rfl (fun r14 g14 h => ?_)
        refine v_if_eq o (tgt := 22) dX8_firstUndone_17 (by decide) (fun c17 => ?_) (fun c17 => ?_)
        · replace h := h.1 c17
          obtain ⟨x1_22, ex1_22⟩ : ∃ y : Int32, y = x1 + 1 := ⟨_, rfl⟩
          replace h := h x1_22 ex1_22
          refine v_iinc o (v := x1_22) (lv' := [(1, .int x1_22), (0, .ref a)]) 1 dX8_firstUndone_22 rfl (by rw [ex1_22]; rfl) (by decide) rfl ?_
          refine v_goto o (tgt := 2) dX8_firstUndone_25 (by decide) ?_
          refine v_sub [1, 0] (lv2 := [(0, .ref a), (1, .int x1_22)]) rfl ?_
          exact ih g14 x1_22  h.1 (by have := h.2; omega)
        · replace h := h.2 c17
          refine v_iload_n o 1 dX8_firstUndone_20 rfl ?_
          exact v_iret o rfl hr dX8_firstUndone_21 h
  unfold vX8_firstUndone at h
  refine v_iconst o (v := 0) dX8_firstUndone_0 (by decide) ?_
  refine v_istore_n o (lv' := [(1, .int 0), (0, .ref a)]) dX8_firstUndone_1 rfl (by decide) rfl ?_
  refine v_sub [1, 0] (lv2 := [(0, .ref a), (1, .int 0)]) rfl ?_
  exact (main (μ2 f 0 + 1)) f 0  h (Nat.lt_succ_self _)
def kX8_firstUndone (P : Sk) (f : St) (a : Nat) (K : Int32 → St → Prop) : Prop := False
theorem metX8_firstUndone (l : Launch) (G : Gl) (P : Sk) (f : St) (sz : Nat) (a : Nat) (ha : IsModel P a) (K : Int32 → St → Prop) (h : kX8_firstUndone P f a K) : Met l yX8_firstUndone (wU yX8_firstUndone cX8_firstUndone 2 (some .int)) rmX8_firstUndone (PcW G P f sz [.ref a]) (QcI G P sz K) 0 0 (frA P sz) := sorry

def bX8_firstFar_2 (P : Sk) (a : Nat) (L2 : St → Int32 → Prop) (K : Int32 → St → Prop) (f : St) (x1 : Int32) : Prop :=
  (f a 9 ≤ x1 + 1 → K (-1) f) ∧ (¬ f a 9 ≤ x1 + 1 → vp_in x1 50 ∧ (vp_in (x1 + 1) 50 ∧ (((f (a + 5) x1.toNatClampNeg) / 2 < ((f (a + 5) (x1 + 1).toNatClampNeg) / 2) + 2 → ∀ x1_37 : Int32, x1_37 = x1 + 1 → L2 f x1_37) ∧ (¬ (f (a + 5) x1.toNatClampNeg) / 2 < ((f (a + 5) (x1 + 1).toNatClampNeg) / 2) + 2 → K x1 f))))
def vX8_firstFar (P : Sk) (f : St) (a : Nat) (L2 : St → Int32 → Prop) (K : Int32 → St → Prop) : Prop :=
  L2 f 0
set_option maxRecDepth 20000 in
set_option maxHeartbeats 4000000 in
theorem mX8_firstFar (l : Launch) (G : Gl) (P : Sk) (f : St) (sz : Nat) (a : Nat) (ha : IsModel P a) (K : Int32 → St → Prop) (I2 : St → Int32 → Prop) (μ2 : St → Int32 → Nat) 
  (h : vX8_firstFar P f a I2 K)
  (h2 : ∀ (g : St) (x1 : Int32) , I2 g x1 → bX8_firstFar_2 P a (fun g' z0 => I2 g' z0 ∧ μ2 g' z0 < μ2 g x1) K g x1) :
  Met l yX8_firstFar (wU yX8_firstFar cX8_firstFar 2 (some .int)) rmX8_firstFar (PcW G P f sz [.ref a]) (QcI G P sz K) 0 0 (frA P sz) := by
  refine v_met (own := RX8) [.ref a] (by decide +kernel) rfl (Nat.le_of_ble_eq_true rfl) (fun p e s m args below meth c hsz o hr hnm => ?_)
  refine v_lv (lv2 := [(0, .ref a)]) rfl ?_
  have main : ∀ n : Nat, (∀ (g : St) (x1 : Int32) , I2 g x1 → μ2 g x1 < n → V p l e rmX8_firstFar s m args below meth c 2 G (frA P sz) (MQ below (QcI G P sz K) args s 0 0 (frA P sz)) 0 0 P [(0, .ref a), (1, .int x1)] [] 2 g) := by
    intro n
    induction n with
    | zero => exact fun g x1 hI hm => absurd hm (Nat.not_lt_zero _)
    | succ n ih =>
      intro g x1 hI hm
      have h := h2 g x1 hI
      clear hI
      unfold bX8_firstFar_2 at h
      refine v_iload_n o 1 dX8_firstFar_2 rfl ?_
      refine v_iconst o (v := 1) dX8_firstFar_3 (by decide) ?_
      refine v_iadd o dX8_firstFar_4 ?_
      refine v_aload_n o 0 dX8_firstFar_5 rfl ?_
      refine v_gfI o lkX8_58 (by decide) (wfModel_o ha) dX8_firstFar_6 ?_
      refine v_icmp_ge o (tgt := 43) dX8_firstFar_9 (by decide) (fun c9 => ?_) (fun c9 => ?_)
      · replace h := h.1 c9
        refine v_iconst o (v := (-1)) dX8_firstFar_43 (by decide) ?_
        exact v_iret o rfl hr dX8_firstFar_44 h
      · replace h := h.2 c9
        refine v_aload_n o 0 dX8_firstFar_12 rfl ?_
        refine v_gfR o lkX8_22 (by decide) (wfModel_o ha) (wfModel_r8 ha) dX8_firstFar_13 ?_
        refine v_iload_n o 1 dX8_firstFar_16 rfl ?_
        refine v_iald o (wfModel_t8 ha) (wfModel_n8 ha) h.1 dX8_firstFar_17 ?_
        replace h := h.2
        refine v_iconst o (v := 2) dX8_firstFar_18 (by decide) ?_
        refine v_idiv o dX8_firstFar_19 (by decide) ?_
        refine v_aload_n o 0 dX8_firstFar_20 rfl ?_
        refine v_gfR o lkX8_22 (by decide) (wfModel_o ha) (wfModel_r8 ha) dX8_firstFar_21 ?_
        refine v_iload_n o 1 dX8_firstFar_24 rfl ?_
        refine v_iconst o (v := 1) dX8_firstFar_25 (by decide) ?_
        refine v_iadd o dX8_firstFar_26 ?_
        refine v_iald o (wfModel_t8 ha) (wfModel_n8 ha) h.1 dX8_firstFar_27 ?_
        replace h := h.2
        refine v_iconst o (v := 2) dX8_firstFar_28 (by decide) ?_
        refine v_idiv o dX8_firstFar_29 (by decide) ?_
        refine v_iconst o (v := 2) dX8_firstFar_30 (by decide) ?_
        refine v_iadd o dX8_firstFar_31 ?_
        refine v_icmp_lt o (tgt := 37) dX8_firstFar_32 (by decide) (fun c32 => ?_) (fun c32 => ?_)
        · replace h := h.1 c32
          obtain ⟨x1_37, ex1_37⟩ : ∃ y : Int32, y = x1 + 1 := ⟨_, rfl⟩
          replace h := h x1_37 ex1_37
          refine v_iinc o (v := x1_37) (lv' := [(1, .int x1_37), (0, .ref a)]) 1 dX8_firstFar_37 rfl (by rw [ex1_37]; rfl) (by decide) rfl ?_
          refine v_goto o (tgt := 2) dX8_firstFar_40 (by decide) ?_
          refine v_sub [1, 0] (lv2 := [(0, .ref a), (1, .int x1_37)]) rfl ?_
          exact ih g x1_37  h.1 (by have := h.2; omega)
        · replace h := h.2 c32
          refine v_iload_n o 1 dX8_firstFar_35 rfl ?_
          exact v_iret o rfl hr dX8_firstFar_36 h
  unfold vX8_firstFar at h
  refine v_iconst o (v := 0) dX8_firstFar_0 (by decide) ?_
  refine v_istore_n o (lv' := [(1, .int 0), (0, .ref a)]) dX8_firstFar_1 rfl (by decide) rfl ?_
  refine v_sub [1, 0] (lv2 := [(0, .ref a), (1, .int 0)]) rfl ?_
  exact (main (μ2 f 0 + 1)) f 0  h (Nat.lt_succ_self _)
def kX8_firstFar (P : Sk) (f : St) (a : Nat) (K : Int32 → St → Prop) : Prop := False
theorem metX8_firstFar (l : Launch) (G : Gl) (P : Sk) (f : St) (sz : Nat) (a : Nat) (ha : IsModel P a) (K : Int32 → St → Prop) (h : kX8_firstFar P f a K) : Met l yX8_firstFar (wU yX8_firstFar cX8_firstFar 2 (some .int)) rmX8_firstFar (PcW G P f sz [.ref a]) (QcI G P sz K) 0 0 (frA P sz) := sorry

def jX8_loosens_88 (P : Sk) (a : Nat) (L2 : St → Int32 → Prop) (K : St → Prop) (x1 : Int32) (x2 : Int32) (x3 : Int32) (f : St) : Prop :=
  L2 f x1
def jX8_loosens_51 (P : Sk) (a : Nat) (L2 : St → Int32 → Prop) (K : St → Prop) (x1 : Int32) (x2 : Int32) (x3 : Int32) (f : St) : Prop :=
  (x3 = (-1) → jX8_loosens_88 P a L2 K x1 x2 x3 f) ∧ (¬ x3 = (-1) → vp_in x3 50 ∧ (∀ x4_62 : Int32, x4_62 = f (a + 5) x3.toNatClampNeg → vp_in (x3 + 1) 50 ∧ (vp_in x3 50 ∧ (∀ g77 : St, g77 = setf f (a + 5) x3.toNatClampNeg (f (a + 5) (x3 + 1).toNatClampNeg) → vp_in (x3 + 1) 50 ∧ (∀ g87 : St, g87 = setf g77 (a + 5) (x3 + 1).toNatClampNeg x4_62 → jX8_loosens_88 P a L2 K x1 x2 x3 g87)))))
def jX8_loosens_40 (P : Sk) (a : Nat) (L2 : St → Int32 → Prop) (K : St → Prop) (x1 : Int32) (x2 : Int32) (x3 : Int32) (y0 : Int32) (f : St) : Prop :=
  (x2 = (-1) → jX8_loosens_51 P a L2 K y0 x2 x3 f) ∧ (¬ x2 = (-1) → kX8_takesOut P f a x2 (fun g48 => jX8_loosens_51 P a L2 K y0 x2 x3 g48))
def jX8_loosens_35 (P : Sk) (a : Nat) (L2 : St → Int32 → Prop) (K : St → Prop) (x1 : Int32) (x2 : Int32) (x3 : Int32) (f : St) : Prop :=
  jX8_loosens_40 P a L2 K x1 x2 x3 1 f
def jX8_loosens_24 (P : Sk) (a : Nat) (L2 : St → Int32 → Prop) (K : St → Prop) (x1 : Int32) (x2 : Int32) (y0 : Int32) (f : St) : Prop :=
  (¬ x2 = (-1) → jX8_loosens_35 P a L2 K x1 x2 y0 f) ∧ (x2 = (-1) → (y0 = (-1) → jX8_loosens_40 P a L2 K x1 x2 y0 0 f) ∧ (¬ y0 = (-1) → jX8_loosens_35 P a L2 K x1 x2 y0 f))
def bX8_loosens_2 (P : Sk) (a : Nat) (L2 : St → Int32 → Prop) (K : St → Prop) (f : St) (x1 : Int32) : Prop :=
  (x1 = 0 → K f) ∧ (¬ x1 = 0 → kX8_firstUndone P f a (fun r7 g7 => (¬ r7 = (-1) → jX8_loosens_24 P a L2 K x1 r7 (-1) g7) ∧ (r7 = (-1) → kX8_firstFar P g7 a (fun r17 g17 => jX8_loosens_24 P a L2 K x1 r7 r17 g17))))
def vX8_loosens (P : Sk) (f : St) (a : Nat) (L2 : St → Int32 → Prop) (K : St → Prop) : Prop :=
  L2 f 1
set_option maxRecDepth 20000 in
set_option maxHeartbeats 4000000 in
theorem mX8_loosens (l : Launch) (G : Gl) (P : Sk) (f : St) (sz : Nat) (a : Nat) (ha : IsModel P a) (K : St → Prop) (I2 : St → Int32 → Prop) (μ2 : St → Int32 → Nat) 
  (h : vX8_loosens P f a I2 K)
  (h2 : ∀ (g : St) (x1 : Int32) , I2 g x1 → bX8_loosens_2 P a (fun g' z0 => I2 g' z0 ∧ μ2 g' z0 < μ2 g x1) K g x1) :
  Met l yX8_loosens (wU yX8_loosens cX8_loosens 5 none) rmX8_loosens (PcW G P f sz [.ref a]) (QcV G P sz K) 0 0 (frA P sz) := by
  refine v_met (own := RX8) [.ref a] (by decide +kernel) rfl (Nat.le_of_ble_eq_true rfl) (fun p e s m args below meth c hsz o hr hnm => ?_)
  refine v_lv (lv2 := [(0, .ref a)]) rfl ?_
  have main : ∀ n : Nat, (∀ (g : St) (x1 : Int32) , I2 g x1 → μ2 g x1 < n → V p l e rmX8_loosens s m args below meth c 5 G (frA P sz) (MQ below (QcV G P sz K) args s 0 0 (frA P sz)) 0 0 P [(0, .ref a), (1, .int x1)] [] 2 g) := by
    intro n
    induction n with
    | zero => exact fun g x1 hI hm => absurd hm (Nat.not_lt_zero _)
    | succ n ih =>
      intro g x1 hI hm
      have h := h2 g x1 hI
      clear hI
      have J88 : ∀ (x1_88 : Int32) (x2_88 : Int32) (x3_88 : Int32) (g88 : St), jX8_loosens_88 P a (fun g' z0 => I2 g' z0 ∧ μ2 g' z0 < μ2 g x1) K x1_88 x2_88 x3_88 g88 → V p l e rmX8_loosens s m args below meth c 5 G (frA P sz) (MQ below (QcV G P sz K) args s 0 0 (frA P sz)) 0 0 P [(0, .ref a), (1, .int x1_88), (2, .int x2_88), (3, .int x3_88)] [] 88 g88 := by
        intro x1_88 x2_88 x3_88 g88  h
        unfold jX8_loosens_88 at h
        refine v_goto o (tgt := 2) dX8_loosens_88 (by decide) ?_
        refine v_sub [0, 1] (lv2 := [(0, .ref a), (1, .int x1_88)]) rfl ?_
        exact ih g88 x1_88  h.1 (by have := h.2; omega)
      have J51 : ∀ (x1_51 : Int32) (x2_51 : Int32) (x3_51 : Int32) (g51 : St), jX8_loosens_51 P a (fun g' z0 => I2 g' z0 ∧ μ2 g' z0 < μ2 g x1) K x1_51 x2_51 x3_51 g51 → V p l e rmX8_loosens s m args below meth c 5 G (frA P sz) (MQ below (QcV G P sz K) args s 0 0 (frA P sz)) 0 0 P [(0, .ref a), (1, .int x1_51), (2, .int x2_51), (3, .int x3_51)] [] 51 g51 := by
        intro x1_51 x2_51 x3_51 g51  h
        unfold jX8_loosens_51 at h
        refine v_iload_n o 3 dX8_loosens_51 rfl ?_
        refine v_iconst o (v := (-1)) dX8_loosens_52 (by decide) ?_
        refine v_icmp_eq o (tgt := 88) dX8_loosens_53 (by decide) (fun c53 => ?_) (fun c53 => ?_)
        · replace h := h.1 c53
          refine v_sub [0, 1, 2, 3] (lv2 := [(0, .ref a), (1, .int x1_51), (2, .int x2_51), (3, .int x3_51)]) rfl ?_
          exact J88 x1_51 x2_51 x3_51 g51  h
        · replace h := h.2 c53
          refine v_aload_n o 0 dX8_loosens_56 rfl ?_
          refine v_gfR o lkX8_22 (by decide) (wfModel_o ha) (wfModel_r8 ha) dX8_loosens_57 ?_
          refine v_iload_n o 3 dX8_loosens_60 rfl ?_
          refine v_iald o (wfModel_t8 ha) (wfModel_n8 ha) h.1 dX8_loosens_61 ?_
          replace h := h.2
          refine v_topi (fun x4_62 ex4_62 => ?_)
          replace h := h x4_62 ex4_62
          refine v_istore o (lv' := [(4, .int x4_62), (0, .ref a), (1, .int x1_51), (2, .int x2_51), (3, .int x3_51)]) dX8_loosens_62 (by decide) rfl ?_
          refine v_aload_n o 1 dX8_loosens_64 rfl ?_
          refine v_gfR o lkX8_22 (by decide) (wfModel_o ha) (wfModel_r8 ha) dX8_loosens_65 ?_
          refine v_iload_n o 4 dX8_loosens_68 rfl ?_
          refine v_aload_n o 1 dX8_loosens_69 rfl ?_
          refine v_gfR o lkX8_22 (by decide) (wfModel_o ha) (wfModel_r8 ha) dX8_loosens_70 ?_
          refine v_iload_n o 4 dX8_loosens_73 rfl ?_
          refine v_iconst o (v := 1) dX8_loosens_74 (by decide) ?_
          refine v_iadd o dX8_loosens_75 ?_
          refine v_iald o (wfModel_t8 ha) (wfModel_n8 ha) h.1 dX8_loosens_76 ?_
          replace h := h.2
          refine v_iast o (wfModel_t8 ha) (wfModel_n8 ha) h.1 dX8_loosens_77 ?_
          replace h := h.2
          refine v_nmf (fun g77 eg77 => ?_)
          replace h := h g77 eg77
          refine v_aload_n o 1 dX8_loosens_78 rfl ?_
          refine v_gfR o lkX8_22 (by decide) (wfModel_o ha) (wfModel_r8 ha) dX8_loosens_79 ?_
          refine v_iload_n o 4 dX8_loosens_82 rfl ?_
          refine v_iconst o (v := 1) dX8_loosens_83 (by decide) ?_
          refine v_iadd o dX8_loosens_84 ?_
          refine v_iload o 0 dX8_loosens_85 rfl ?_
          refine v_iast o (wfModel_t8 ha) (wfModel_n8 ha) h.1 dX8_loosens_87 ?_
          replace h := h.2
          refine v_nmf (fun g87 eg87 => ?_)
          replace h := h g87 eg87
          refine v_sub [1, 2, 3, 4] (lv2 := [(0, .ref a), (1, .int x1_51), (2, .int x2_51), (3, .int x3_51)]) rfl ?_
          exact J88 x1_51 x2_51 x3_51 g87  h
      have J40 : ∀ (x1_40 : Int32) (x2_40 : Int32) (x3_40 : Int32) (y0_40 : Int32) (g40 : St), jX8_loosens_40 P a (fun g' z0 => I2 g' z0 ∧ μ2 g' z0 < μ2 g x1) K x1_40 x2_40 x3_40 y0_40 g40 → V p l e rmX8_loosens s m args below meth c 5 G (frA P sz) (MQ below (QcV G P sz K) args s 0 0 (frA P sz)) 0 0 P [(0, .ref a), (1, .int x1_40), (2, .int x2_40), (3, .int x3_40)] [.int y0_40] 40 g40 := by
        intro x1_40 x2_40 x3_40 y0_40 g40  h
        unfold jX8_loosens_40 at h
        refine v_istore_n o (lv' := [(1, .int y0_40), (0, .ref a), (2, .int x2_40), (3, .int x3_40)]) dX8_loosens_40 rfl (by decide) rfl ?_
        refine v_iload_n o 2 dX8_loosens_41 rfl ?_
        refine v_iconst o (v := (-1)) dX8_loosens_42 (by decide) ?_
        refine v_icmp_eq o (tgt := 51) dX8_loosens_43 (by decide) (fun c43 => ?_) (fun c43 => ?_)
        · replace h := h.1 c43
          refine v_sub [1, 0, 2, 3] (lv2 := [(0, .ref a), (1, .int y0_40), (2, .int x2_40), (3, .int x3_40)]) rfl ?_
          exact J51 y0_40 x2_40 x3_40 g40  h
        · replace h := h.2 c43
          refine v_aload_n o 1 dX8_loosens_46 rfl ?_
          refine v_iload_n o 2 dX8_loosens_47 rfl ?_
          refine v_cVv o [.int x2_40] [] (fun sz => metX8_takesOut l G P g40 sz a ha x2_40 _ h) (cwX8_79 o.1.2.2.2.2 (by decide)) ⟨_, _, rfl⟩ (by decide) (wfModel_o ha) rfl (Nat.le_of_ble_eq_true rfl) ⟨Nat.zero_le _, Nat.zero_le _⟩ dX8_loosens_48 rfl (fun g48 h => ?_)
          refine v_sub [1, 0, 2, 3] (lv2 := [(0, .ref a), (1, .int y0_40), (2, .int x2_40), (3, .int x3_40)]) rfl ?_
          exact J51 y0_40 x2_40 x3_40 g48  h
      have J35 : ∀ (x1_35 : Int32) (x2_35 : Int32) (x3_35 : Int32) (g35 : St), jX8_loosens_35 P a (fun g' z0 => I2 g' z0 ∧ μ2 g' z0 < μ2 g x1) K x1_35 x2_35 x3_35 g35 → V p l e rmX8_loosens s m args below meth c 5 G (frA P sz) (MQ below (QcV G P sz K) args s 0 0 (frA P sz)) 0 0 P [(0, .ref a), (1, .int x1_35), (2, .int x2_35), (3, .int x3_35)] [] 35 g35 := by
        intro x1_35 x2_35 x3_35 g35  h
        unfold jX8_loosens_35 at h
        refine v_iconst o (v := 1) dX8_loosens_35 (by decide) ?_
        refine v_goto o (tgt := 40) dX8_loosens_36 (by decide) ?_
        refine v_sub [0, 1, 2, 3] (lv2 := [(0, .ref a), (1, .int x1_35), (2, .int x2_35), (3, .int x3_35)]) rfl ?_
        exact J40 x1_35 x2_35 x3_35 1 g35  h
      have J24 : ∀ (x1_24 : Int32) (x2_24 : Int32) (y0_24 : Int32) (g24 : St), jX8_loosens_24 P a (fun g' z0 => I2 g' z0 ∧ μ2 g' z0 < μ2 g x1) K x1_24 x2_24 y0_24 g24 → V p l e rmX8_loosens s m args below meth c 5 G (frA P sz) (MQ below (QcV G P sz K) args s 0 0 (frA P sz)) 0 0 P [(0, .ref a), (1, .int x1_24), (2, .int x2_24)] [.int y0_24] 24 g24 := by
        intro x1_24 x2_24 y0_24 g24  h
        unfold jX8_loosens_24 at h
        refine v_istore_n o (lv' := [(3, .int y0_24), (0, .ref a), (1, .int x1_24), (2, .int x2_24)]) dX8_loosens_24 rfl (by decide) rfl ?_
        refine v_iload_n o 3 dX8_loosens_25 rfl ?_
        refine v_iconst o (v := (-1)) dX8_loosens_26 (by decide) ?_
        refine v_icmp_ne o (tgt := 35) dX8_loosens_27 (by decide) (fun c27 => ?_) (fun c27 => ?_)
        · replace h := h.1 c27
          refine v_sub [1, 2, 3, 0] (lv2 := [(0, .ref a), (1, .int x1_24), (2, .int x2_24), (3, .int y0_24)]) rfl ?_
          exact J35 x1_24 x2_24 y0_24 g24  h
        · replace h := h.2 c27
          refine v_iload_n o 0 dX8_loosens_30 rfl ?_
          refine v_iconst o (v := (-1)) dX8_loosens_31 (by decide) ?_
          refine v_icmp_eq o (tgt := 39) dX8_loosens_32 (by decide) (fun c32 => ?_) (fun c32 => ?_)
          · replace h := h.1 c32
            refine v_iconst o (v := 0) dX8_loosens_39 (by decide) ?_
            refine v_sub [1, 2, 3, 0] (lv2 := [(0, .ref a), (1, .int x1_24), (2, .int x2_24), (3, .int y0_24)]) rfl ?_
            exact J40 x1_24 x2_24 y0_24 0 g24  h
          · replace h := h.2 c32
            refine v_sub [1, 2, 3, 0] (lv2 := [(0, .ref a), (1, .int x1_24), (2, .int x2_24), (3, .int y0_24)]) rfl ?_
            exact J35 x1_24 x2_24 y0_24 g24  h
      unfold bX8_loosens_2 at h
      refine v_iload_n o 1 dX8_loosens_2 rfl ?_
      refine v_if_eq o (tgt := 91) dX8_loosens_3 (by decide) (fun c3 => ?_) (fun c3 => ?_)
      · replace h := h.1 c3
        exact v_vret o rfl hr dX8_loosens_91 h
      · replace h := h.2 c3
        refine v_aload_n o 0 dX8_loosens_6 rfl ?_
        refine v_cVi o [] [] (fun sz => metX8_firstUndone l G P g sz a ha _ h) (cwX8_72 o.1.2.2.2.2 (by decide)) ⟨_, _, rfl⟩ (by decide) (wfModel_o ha) rfl (Nat.le_of_ble_eq_true rfl) ⟨Nat.zero_le _, Nat.zero_le _⟩ dX8_loosens_7 rfl (fun r7 g7 h => ?_)
        refine v_istore_n o (lv' := [(2, .int r7), (0, .ref a), (1, .int x1)]) dX8_loosens_10 rfl (by decide) rfl ?_
        refine v_iload_n o 0 dX8_loosens_11 rfl ?_
        refine v_iconst o (v := (-1)) dX8_loosens_12 (by decide) ?_
        refine v_icmp_ne o (tgt := 23) dX8_loosens_13 (by decide) (fun c13 => ?_) (fun c13 => ?_)
        · replace h := h.1 c13
          refine v_iconst o (v := (-1)) dX8_loosens_23 (by decide) ?_
          refine v_sub [1, 2, 0] (lv2 := [(0, .ref a), (1, .int x1), (2, .int r7)]) rfl ?_
          exact J24 x1 r7 (-1) g7  h
        · replace h := h.2 c13
          refine v_aload_n o 1 dX8_loosens_16 rfl ?_
          refine v_cVi o [] [] (fun sz => metX8_firstFar l G P g7 sz a ha _ h) (cwX8_76 o.1.2.2.2.2 (by decide)) ⟨_, _, rfl⟩ (by decide) (wfModel_o ha) rfl (Nat.le_of_ble_eq_true rfl) ⟨Nat.zero_le _, Nat.zero_le _⟩ dX8_loosens_17 rfl (fun r17 g17 h => ?_)
          refine v_goto o (tgt := 24) dX8_loosens_20 (by decide) ?_
          refine v_sub [1, 2, 0] (lv2 := [(0, .ref a), (1, .int x1), (2, .int r7)]) rfl ?_
          exact J24 x1 r7 r17 g17  h
  unfold vX8_loosens at h
  refine v_iconst o (v := 1) dX8_loosens_0 (by decide) ?_
  refine v_istore_n o (lv' := [(1, .int 1), (0, .ref a)]) dX8_loosens_1 rfl (by decide) rfl ?_
  refine v_sub [1, 0] (lv2 := [(0, .ref a), (1, .int 1)]) rfl ?_
  exact (main (μ2 f 1 + 1)) f 1  h (Nat.lt_succ_self _)
def kX8_loosens (P : Sk) (f : St) (a : Nat) (K : St → Prop) : Prop := False
theorem metX8_loosens (l : Launch) (G : Gl) (P : Sk) (f : St) (sz : Nat) (a : Nat) (ha : IsModel P a) (K : St → Prop) (h : kX8_loosens P f a K) : Met l yX8_loosens (wU yX8_loosens cX8_loosens 5 none) rmX8_loosens (PcW G P f sz [.ref a]) (QcV G P sz K) 0 0 (frA P sz) := sorry

def bX8_shortens_5 (P : Sk) (a : Nat) (L5 : St → Int32 → Prop) (K : St → Prop) (f : St) (x1 : Int32) : Prop :=
  (x1 = (-1) → K f) ∧ (¬ x1 = (-1) → kX8_takesOut P f a x1 (fun g12 => kX8_firstUndone P g12 a (fun r16 g16 => L5 g16 r16)))
def vX8_shortens (P : Sk) (f : St) (a : Nat) (L5 : St → Int32 → Prop) (K : St → Prop) : Prop :=
  kX8_firstUndone P f a (fun r1 g1 => L5 g1 r1)
set_option maxRecDepth 20000 in
set_option maxHeartbeats 4000000 in
theorem mX8_shortens (l : Launch) (G : Gl) (P : Sk) (f : St) (sz : Nat) (a : Nat) (ha : IsModel P a) (K : St → Prop) (I5 : St → Int32 → Prop) (μ5 : St → Int32 → Nat) 
  (h : vX8_shortens P f a I5 K)
  (h5 : ∀ (g : St) (x1 : Int32) , I5 g x1 → bX8_shortens_5 P a (fun g' z0 => I5 g' z0 ∧ μ5 g' z0 < μ5 g x1) K g x1) :
  Met l yX8_shortens (wU yX8_shortens cX8_shortens 2 none) rmX8_shortens (PcW G P f sz [.ref a]) (QcV G P sz K) 0 0 (frA P sz) := by
  refine v_met (own := RX8) [.ref a] (by decide +kernel) rfl (Nat.le_of_ble_eq_true rfl) (fun p e s m args below meth c hsz o hr hnm => ?_)
  refine v_lv (lv2 := [(0, .ref a)]) rfl ?_
  have main : ∀ n : Nat, (∀ (g : St) (x1 : Int32) , I5 g x1 → μ5 g x1 < n → V p l e rmX8_shortens s m args below meth c 2 G (frA P sz) (MQ below (QcV G P sz K) args s 0 0 (frA P sz)) 0 0 P [(0, .ref a), (1, .int x1)] [] 5 g) := by
    intro n
    induction n with
    | zero => exact fun g x1 hI hm => absurd hm (Nat.not_lt_zero _)
    | succ n ih =>
      intro g x1 hI hm
      have h := h5 g x1 hI
      clear hI
      unfold bX8_shortens_5 at h
      refine v_iload_n o 1 dX8_shortens_5 rfl ?_
      refine v_iconst o (v := (-1)) dX8_shortens_6 (by decide) ?_
      refine v_icmp_eq o (tgt := 23) dX8_shortens_7 (by decide) (fun c7 => ?_) (fun c7 => ?_)
      · replace h := h.1 c7
        exact v_vret o rfl hr dX8_shortens_23 h
      · replace h := h.2 c7
        refine v_aload_n o 0 dX8_shortens_10 rfl ?_
        refine v_iload_n o 1 dX8_shortens_11 rfl ?_
        refine v_cVv o [.int x1] [] (fun sz => metX8_takesOut l G P g sz a ha x1 _ h) (cwX8_79 o.1.2.2.2.2 (by decide)) ⟨_, _, rfl⟩ (by decide) (wfModel_o ha) rfl (Nat.le_of_ble_eq_true rfl) ⟨Nat.zero_le _, Nat.zero_le _⟩ dX8_shortens_12 rfl (fun g12 h => ?_)
        refine v_aload_n o 0 dX8_shortens_15 rfl ?_
        refine v_cVi o [] [] (fun sz => metX8_firstUndone l G P g12 sz a ha _ h) (cwX8_72 o.1.2.2.2.2 (by decide)) ⟨_, _, rfl⟩ (by decide) (wfModel_o ha) rfl (Nat.le_of_ble_eq_true rfl) ⟨Nat.zero_le _, Nat.zero_le _⟩ dX8_shortens_16 rfl (fun r16 g16 h => ?_)
        refine v_istore_n o (lv' := [(1, .int r16), (0, .ref a)]) dX8_shortens_19 rfl (by decide) rfl ?_
        refine v_goto o (tgt := 5) dX8_shortens_20 (by decide) ?_
        refine v_sub [1, 0] (lv2 := [(0, .ref a), (1, .int r16)]) rfl ?_
        exact ih g16 r16  h.1 (by have := h.2; omega)
  unfold vX8_shortens at h
  refine v_aload_n o 0 dX8_shortens_0 rfl ?_
  refine v_cVi o [] [] (fun sz => metX8_firstUndone l G P f sz a ha _ h) (cwX8_72 o.1.2.2.2.2 (by decide)) ⟨_, _, rfl⟩ (by decide) (wfModel_o ha) rfl (Nat.le_of_ble_eq_true rfl) ⟨Nat.zero_le _, Nat.zero_le _⟩ dX8_shortens_1 rfl (fun r1 g1 h => ?_)
  refine v_istore_n o (lv' := [(1, .int r1), (0, .ref a)]) dX8_shortens_4 rfl (by decide) rfl ?_
  refine v_sub [1, 0] (lv2 := [(0, .ref a), (1, .int r1)]) rfl ?_
  exact (main (μ5 g1 r1 + 1)) g1 r1  h (Nat.lt_succ_self _)
def kX8_shortens (P : Sk) (f : St) (a : Nat) (K : St → Prop) : Prop := False
theorem metX8_shortens (l : Launch) (G : Gl) (P : Sk) (f : St) (sz : Nat) (a : Nat) (ha : IsModel P a) (K : St → Prop) (h : kX8_shortens P f a K) : Met l yX8_shortens (wU yX8_shortens cX8_shortens 2 none) rmX8_shortens (PcW G P f sz [.ref a]) (QcV G P sz K) 0 0 (frA P sz) := sorry

def jX8_walks_112 (P : Sk) (a : Nat) (p1 : Int32) (L2 : St → Int32 → Prop) (L37 : St → Int32 → Prop) (K : St → Prop) (x2 : Int32) (x3 : Int32) (x4 : Int32) (x5 : Int32) (y1 : Int32) (f : St) : Prop :=
  ∀ g112 : St, g112 = setf f a 14 y1 → vp_in (g112 a 15) 7 ∧ (vp_in (g112 a 15) 7 ∧ (∀ g127 : St, g127 = setf g112 (a + 8) (g112 a 15).toNatClampNeg ((g112 (a + 8) (g112 a 15).toNatClampNeg) + 1) → vp_in (g127 a 14) 7 ∧ (vp_in (g127 a 14) 7 ∧ (∀ g140 : St, g140 = setf g127 (a + 7) (g127 a 14).toNatClampNeg ((g127 (a + 7) (g127 a 14).toNatClampNeg) + 1) → vp_in x3 7 ∧ (∀ g148 : St, g148 = setf g140 (a + 6) x3.toNatClampNeg x5 → vp_in (x3 + 1) 7 ∧ (∀ g158 : St, g158 = setf g148 (a + 6) (x3 + 1).toNatClampNeg x4 → ∀ x2_159 : Int32, x2_159 = x2 + 1 → L37 g158 x2_159))))))
def jX8_walks_89 (P : Sk) (a : Nat) (p1 : Int32) (L2 : St → Int32 → Prop) (L37 : St → Int32 → Prop) (K : St → Prop) (x2 : Int32) (x3 : Int32) (x4 : Int32) (x5 : Int32) (y1 : Int32) (f : St) : Prop :=
  ∀ g89 : St, g89 = setf f a 15 y1 → vp_in x2 50 ∧ ((¬ (g89 (a + 5) x2.toNatClampNeg) - (g89 (a + 5) x2.toNatClampNeg) / 2 * 2 = 1 → jX8_walks_112 P a p1 L2 L37 K x2 x3 x4 x5 x4 g89) ∧ ((g89 (a + 5) x2.toNatClampNeg) - (g89 (a + 5) x2.toNatClampNeg) / 2 * 2 = 1 → jX8_walks_112 P a p1 L2 L37 K x2 x3 x4 x5 x5 g89))
def bX8_walks_2 (P : Sk) (a : Nat) (p1 : Int32) (L2 : St → Int32 → Prop) (L37 : St → Int32 → Prop) (K : St → Prop) (f : St) (x2 : Int32) : Prop :=
  (7 ≤ x2 → L37 f 0) ∧ (¬ 7 ≤ x2 → vp_in x2 7 ∧ (∀ g14 : St, g14 = setf f (a + 6) x2.toNatClampNeg x2 → vp_in x2 7 ∧ (∀ g21 : St, g21 = setf g14 (a + 7) x2.toNatClampNeg 0 → vp_in x2 7 ∧ (∀ g28 : St, g28 = setf g21 (a + 8) x2.toNatClampNeg 0 → ∀ x2_29 : Int32, x2_29 = x2 + 1 → L2 g28 x2_29))))
def bX8_walks_37 (P : Sk) (a : Nat) (p1 : Int32) (L2 : St → Int32 → Prop) (L37 : St → Int32 → Prop) (K : St → Prop) (f : St) (x2 : Int32) : Prop :=
  (p1 ≤ x2 → K f) ∧ (¬ p1 ≤ x2 → vp_in x2 50 ∧ (∀ x3_50 : Int32, x3_50 = (f (a + 5) x2.toNatClampNeg) / 2 → vp_in x3_50 7 ∧ (∀ x4_57 : Int32, x4_57 = f (a + 6) x3_50.toNatClampNeg → vp_in (x3_50 + 1) 7 ∧ (∀ x5_67 : Int32, x5_67 = f (a + 6) (x3_50 + 1).toNatClampNeg → vp_in x2 50 ∧ ((¬ (f (a + 5) x2.toNatClampNeg) - (f (a + 5) x2.toNatClampNeg) / 2 * 2 = 1 → jX8_walks_89 P a p1 L2 L37 K x2 x3_50 x4_57 x5_67 x5_67 f) ∧ ((f (a + 5) x2.toNatClampNeg) - (f (a + 5) x2.toNatClampNeg) / 2 * 2 = 1 → jX8_walks_89 P a p1 L2 L37 K x2 x3_50 x4_57 x5_67 x4_57 f))))))
def vX8_walks (P : Sk) (f : St) (a : Nat) (p1 : Int32) (L2 : St → Int32 → Prop) (L37 : St → Int32 → Prop) (K : St → Prop) : Prop :=
  L2 f 0
set_option maxRecDepth 20000 in
set_option maxHeartbeats 4000000 in
theorem mX8_walks (l : Launch) (G : Gl) (P : Sk) (f : St) (sz : Nat) (a : Nat) (ha : IsModel P a) (p1 : Int32) (K : St → Prop) (I2 : St → Int32 → Prop) (μ2 : St → Int32 → Nat) (I37 : St → Int32 → Prop) (μ37 : St → Int32 → Nat) 
  (h : vX8_walks P f a p1 I2 I37 K)
  (h2 : ∀ (g : St) (x2 : Int32) , I2 g x2 → bX8_walks_2 P a p1 (fun g' z0 => I2 g' z0 ∧ μ2 g' z0 < μ2 g x2) (fun g' z0 => I37 g' z0 ∧ μ37 g' z0 < μ2 g x2) K g x2)
  (h37 : ∀ (g : St) (x2 : Int32) , I37 g x2 → bX8_walks_37 P a p1 (fun g' z0 => I2 g' z0 ∧ μ2 g' z0 < μ37 g x2) (fun g' z0 => I37 g' z0 ∧ μ37 g' z0 < μ37 g x2) K g x2) :
  Met l yX8_walks (wU yX8_walks cX8_walks 6 none) rmX8_walks (PcW G P f sz [.ref a, .int p1]) (QcV G P sz K) 0 0 (frA P sz) := by
  refine v_met (own := RX8) [.ref a, .int p1] (by decide +kernel) rfl (Nat.le_of_ble_eq_true rfl) (fun p e s m args below meth c hsz o hr hnm => ?_)
  refine v_lv (lv2 := [(0, .ref a), (1, .int p1)]) rfl ?_
  have main : ∀ n : Nat, (∀ (g : St) (x2 : Int32) , I2 g x2 → μ2 g x2 < n → V p l e rmX8_walks s m args below meth c 6 G (frA P sz) (MQ below (QcV G P sz K) args s 0 0 (frA P sz)) 0 0 P [(0, .ref a), (1, .int p1), (2, .int x2)] [] 2 g) ∧ (∀ (g : St) (x2 : Int32) , I37 g x2 → μ37 g x2 < n → V p l e rmX8_walks s m args below meth c 6 G (frA P sz) (MQ below (QcV G P sz K) args s 0 0 (frA P sz)) 0 0 P [(0, .ref a), (1, .int p1), (2, .int x2)] [] 37 g) := by
    intro n
    induction n with
    | zero => exact ⟨fun g x2 hI hm => absurd hm (Nat.not_lt_zero _), fun g x2 hI hm => absurd hm (Nat.not_lt_zero _)⟩
    | succ n ih =>
      refine ⟨?_, ?_⟩
      · intro g x2 hI hm
        have h := h2 g x2 hI
        clear hI
        unfold bX8_walks_2 at h
        refine v_iload_n o 2 dX8_walks_2 rfl ?_
        refine v_bipush o (v := 7) dX8_walks_3 (by decide) ?_
        refine v_icmp_ge o (tgt := 35) dX8_walks_5 (by decide) (fun c5 => ?_) (fun c5 => ?_)
        · replace h := h.1 c5
          refine v_iconst o (v := 0) dX8_walks_35 (by decide) ?_
          refine v_istore_n o (lv' := [(2, .int 0), (0, .ref a), (1, .int p1)]) dX8_walks_36 rfl (by decide) rfl ?_
          refine v_sub [1, 2, 0] (lv2 := [(0, .ref a), (1, .int p1), (2, .int 0)]) rfl ?_
          exact ih.2 g 0  h.1 (by have := h.2; omega)
        · replace h := h.2 c5
          refine v_aload_n o 0 dX8_walks_8 rfl ?_
          refine v_gfR o lkX8_25 (by decide) (wfModel_o ha) (wfModel_r11 ha) dX8_walks_9 ?_
          refine v_iload_n o 2 dX8_walks_12 rfl ?_
          refine v_iload_n o 2 dX8_walks_13 rfl ?_
          refine v_iast o (wfModel_t11 ha) (wfModel_n11 ha) h.1 dX8_walks_14 ?_
          replace h := h.2
          refine v_nmf (fun g14 eg14 => ?_)
          replace h := h g14 eg14
          refine v_aload_n o 0 dX8_walks_15 rfl ?_
          refine v_gfR o lkX8_28 (by decide) (wfModel_o ha) (wfModel_r12 ha) dX8_walks_16 ?_
          refine v_iload_n o 2 dX8_walks_19 rfl ?_
          refine v_iconst o (v := 0) dX8_walks_20 (by decide) ?_
          refine v_iast o (wfModel_t12 ha) (wfModel_n12 ha) h.1 dX8_walks_21 ?_
          replace h := h.2
          refine v_nmf (fun g21 eg21 => ?_)
          replace h := h g21 eg21
          refine v_aload_n o 0 dX8_walks_22 rfl ?_
          refine v_gfR o lkX8_31 (by decide) (wfModel_o ha) (wfModel_r13 ha) dX8_walks_23 ?_
          refine v_iload_n o 2 dX8_walks_26 rfl ?_
          refine v_iconst o (v := 0) dX8_walks_27 (by decide) ?_
          refine v_iast o (wfModel_t13 ha) (wfModel_n13 ha) h.1 dX8_walks_28 ?_
          replace h := h.2
          refine v_nmf (fun g28 eg28 => ?_)
          replace h := h g28 eg28
          obtain ⟨x2_29, ex2_29⟩ : ∃ y : Int32, y = x2 + 1 := ⟨_, rfl⟩
          replace h := h x2_29 ex2_29
          refine v_iinc o (v := x2_29) (lv' := [(2, .int x2_29), (0, .ref a), (1, .int p1)]) 2 dX8_walks_29 rfl (by rw [ex2_29]; rfl) (by decide) rfl ?_
          refine v_goto o (tgt := 2) dX8_walks_32 (by decide) ?_
          refine v_sub [1, 2, 0] (lv2 := [(0, .ref a), (1, .int p1), (2, .int x2_29)]) rfl ?_
          exact ih.1 g28 x2_29  h.1 (by have := h.2; omega)
      · intro g x2 hI hm
        have h := h37 g x2 hI
        clear hI
        have J112 : ∀ (x2_112 : Int32) (x3_112 : Int32) (x4_112 : Int32) (x5_112 : Int32) (y1_112 : Int32) (g112 : St), jX8_walks_112 P a p1 (fun g' z0 => I2 g' z0 ∧ μ2 g' z0 < μ37 g x2) (fun g' z0 => I37 g' z0 ∧ μ37 g' z0 < μ37 g x2) K x2_112 x3_112 x4_112 x5_112 y1_112 g112 → V p l e rmX8_walks s m args below meth c 6 G (frA P sz) (MQ below (QcV G P sz K) args s 0 0 (frA P sz)) 0 0 P [(0, .ref a), (1, .int p1), (2, .int x2_112), (3, .int x3_112), (4, .int x4_112), (5, .int x5_112)] [.int y1_112, .ref a] 112 g112 := by
          intro x2_112 x3_112 x4_112 x5_112 y1_112 g112  h
          unfold jX8_walks_112 at h
          refine v_pf o lpX8_86 (wfModel_o ha) ⟨rfl, rfl⟩ dX8_walks_112 ?_
          refine v_nmf (fun g112 eg112 => ?_)
          replace h := h g112 eg112
          refine v_aload_n o 0 dX8_walks_115 rfl ?_
          refine v_gfR o lkX8_31 (by decide) (wfModel_o ha) (wfModel_r13 ha) dX8_walks_116 ?_
          refine v_aload_n o 0 dX8_walks_119 rfl ?_
          refine v_gfI o lkX8_83 (by decide) (wfModel_o ha) dX8_walks_120 ?_
          refine v_dup2 o dX8_walks_123 rfl rfl ?_
          refine v_iald o (wfModel_t13 ha) (wfModel_n13 ha) h.1 dX8_walks_124 ?_
          replace h := h.2
          refine v_iconst o (v := 1) dX8_walks_125 (by decide) ?_
          refine v_iadd o dX8_walks_126 ?_
          refine v_iast o (wfModel_t13 ha) (wfModel_n13 ha) h.1 dX8_walks_127 ?_
          replace h := h.2
          refine v_nmf (fun g127 eg127 => ?_)
          replace h := h g127 eg127
          refine v_aload_n o 0 dX8_walks_128 rfl ?_
          refine v_gfR o lkX8_28 (by decide) (wfModel_o ha) (wfModel_r12 ha) dX8_walks_129 ?_
          refine v_aload_n o 0 dX8_walks_132 rfl ?_
          refine v_gfI o lkX8_86 (by decide) (wfModel_o ha) dX8_walks_133 ?_
          refine v_dup2 o dX8_walks_136 rfl rfl ?_
          refine v_iald o (wfModel_t12 ha) (wfModel_n12 ha) h.1 dX8_walks_137 ?_
          replace h := h.2
          refine v_iconst o (v := 1) dX8_walks_138 (by decide) ?_
          refine v_iadd o dX8_walks_139 ?_
          refine v_iast o (wfModel_t12 ha) (wfModel_n12 ha) h.1 dX8_walks_140 ?_
          replace h := h.2
          refine v_nmf (fun g140 eg140 => ?_)
          replace h := h g140 eg140
          refine v_aload_n o 0 dX8_walks_141 rfl ?_
          refine v_gfR o lkX8_25 (by decide) (wfModel_o ha) (wfModel_r11 ha) dX8_walks_142 ?_
          refine v_iload_n o 3 dX8_walks_145 rfl ?_
          refine v_iload o 5 dX8_walks_146 rfl ?_
          refine v_iast o (wfModel_t11 ha) (wfModel_n11 ha) h.1 dX8_walks_148 ?_
          replace h := h.2
          refine v_nmf (fun g148 eg148 => ?_)
          replace h := h g148 eg148
          refine v_aload_n o 0 dX8_walks_149 rfl ?_
          refine v_gfR o lkX8_25 (by decide) (wfModel_o ha) (wfModel_r11 ha) dX8_walks_150 ?_
          refine v_iload_n o 3 dX8_walks_153 rfl ?_
          refine v_iconst o (v := 1) dX8_walks_154 (by decide) ?_
          refine v_iadd o dX8_walks_155 ?_
          refine v_iload o 4 dX8_walks_156 rfl ?_
          refine v_iast o (wfModel_t11 ha) (wfModel_n11 ha) h.1 dX8_walks_158 ?_
          replace h := h.2
          refine v_nmf (fun g158 eg158 => ?_)
          replace h := h g158 eg158
          obtain ⟨x2_159, ex2_159⟩ : ∃ y : Int32, y = x2_112 + 1 := ⟨_, rfl⟩
          replace h := h x2_159 ex2_159
          refine v_iinc o (v := x2_159) (lv' := [(2, .int x2_159), (0, .ref a), (1, .int p1), (3, .int x3_112), (4, .int x4_112), (5, .int x5_112)]) 2 dX8_walks_159 rfl (by rw [ex2_159]; rfl) (by decide) rfl ?_
          refine v_goto o (tgt := 37) dX8_walks_162 (by decide) ?_
          refine v_sub [1, 2, 0] (lv2 := [(0, .ref a), (1, .int p1), (2, .int x2_159)]) rfl ?_
          exact ih.2 g158 x2_159  h.1 (by have := h.2; omega)
        have J89 : ∀ (x2_89 : Int32) (x3_89 : Int32) (x4_89 : Int32) (x5_89 : Int32) (y1_89 : Int32) (g89 : St), jX8_walks_89 P a p1 (fun g' z0 => I2 g' z0 ∧ μ2 g' z0 < μ37 g x2) (fun g' z0 => I37 g' z0 ∧ μ37 g' z0 < μ37 g x2) K x2_89 x3_89 x4_89 x5_89 y1_89 g89 → V p l e rmX8_walks s m args below meth c 6 G (frA P sz) (MQ below (QcV G P sz K) args s 0 0 (frA P sz)) 0 0 P [(0, .ref a), (1, .int p1), (2, .int x2_89), (3, .int x3_89), (4, .int x4_89), (5, .int x5_89)] [.int y1_89, .ref a] 89 g89 := by
          intro x2_89 x3_89 x4_89 x5_89 y1_89 g89  h
          unfold jX8_walks_89 at h
          refine v_pf o lpX8_83 (wfModel_o ha) ⟨rfl, rfl⟩ dX8_walks_89 ?_
          refine v_nmf (fun g89 eg89 => ?_)
          replace h := h g89 eg89
          refine v_aload_n o 0 dX8_walks_92 rfl ?_
          refine v_aload_n o 0 dX8_walks_93 rfl ?_
          refine v_gfR o lkX8_22 (by decide) (wfModel_o ha) (wfModel_r8 ha) dX8_walks_94 ?_
          refine v_iload_n o 2 dX8_walks_97 rfl ?_
          refine v_iald o (wfModel_t8 ha) (wfModel_n8 ha) h.1 dX8_walks_98 ?_
          replace h := h.2
          refine v_iconst o (v := 2) dX8_walks_99 (by decide) ?_
          refine v_irem o dX8_walks_100 (by decide) ?_
          refine v_iconst o (v := 1) dX8_walks_101 (by decide) ?_
          refine v_icmp_ne o (tgt := 110) dX8_walks_102 (by decide) (fun c102 => ?_) (fun c102 => ?_)
          · replace h := h.1 c102
            refine v_iload o 4 dX8_walks_110 rfl ?_
            refine v_sub [0, 1, 2, 3, 4, 5] (lv2 := [(0, .ref a), (1, .int p1), (2, .int x2_89), (3, .int x3_89), (4, .int x4_89), (5, .int x5_89)]) rfl ?_
            exact J112 x2_89 x3_89 x4_89 x5_89 x4_89 g89  h
          · replace h := h.2 c102
            refine v_iload o 5 dX8_walks_105 rfl ?_
            refine v_goto o (tgt := 112) dX8_walks_107 (by decide) ?_
            refine v_sub [0, 1, 2, 3, 4, 5] (lv2 := [(0, .ref a), (1, .int p1), (2, .int x2_89), (3, .int x3_89), (4, .int x4_89), (5, .int x5_89)]) rfl ?_
            exact J112 x2_89 x3_89 x4_89 x5_89 x5_89 g89  h
        unfold bX8_walks_37 at h
        refine v_iload_n o 2 dX8_walks_37 rfl ?_
        refine v_iload_n o 1 dX8_walks_38 rfl ?_
        refine v_icmp_ge o (tgt := 165) dX8_walks_39 (by decide) (fun c39 => ?_) (fun c39 => ?_)
        · replace h := h.1 c39
          exact v_vret o rfl hr dX8_walks_165 h
        · replace h := h.2 c39
          refine v_aload_n o 0 dX8_walks_42 rfl ?_
          refine v_gfR o lkX8_22 (by decide) (wfModel_o ha) (wfModel_r8 ha) dX8_walks_43 ?_
          refine v_iload_n o 2 dX8_walks_46 rfl ?_
          refine v_iald o (wfModel_t8 ha) (wfModel_n8 ha) h.1 dX8_walks_47 ?_
          replace h := h.2
          refine v_iconst o (v := 2) dX8_walks_48 (by decide) ?_
          refine v_idiv o dX8_walks_49 (by decide) ?_
          refine v_topi (fun x3_50 ex3_50 => ?_)
          replace h := h x3_50 ex3_50
          refine v_istore_n o (lv' := [(3, .int x3_50), (0, .ref a), (1, .int p1), (2, .int x2)]) dX8_walks_50 rfl (by decide) rfl ?_
          refine v_aload_n o 1 dX8_walks_51 rfl ?_
          refine v_gfR o lkX8_25 (by decide) (wfModel_o ha) (wfModel_r11 ha) dX8_walks_52 ?_
          refine v_iload_n o 0 dX8_walks_55 rfl ?_
          refine v_iald o (wfModel_t11 ha) (wfModel_n11 ha) h.1 dX8_walks_56 ?_
          replace h := h.2
          refine v_topi (fun x4_57 ex4_57 => ?_)
          replace h := h x4_57 ex4_57
          refine v_istore o (lv' := [(4, .int x4_57), (3, .int x3_50), (0, .ref a), (1, .int p1), (2, .int x2)]) dX8_walks_57 (by decide) rfl ?_
          refine v_aload_n o 2 dX8_walks_59 rfl ?_
          refine v_gfR o lkX8_25 (by decide) (wfModel_o ha) (wfModel_r11 ha) dX8_walks_60 ?_
          refine v_iload_n o 1 dX8_walks_63 rfl ?_
          refine v_iconst o (v := 1) dX8_walks_64 (by decide) ?_
          refine v_iadd o dX8_walks_65 ?_
          refine v_iald o (wfModel_t11 ha) (wfModel_n11 ha) h.1 dX8_walks_66 ?_
          replace h := h.2
          refine v_topi (fun x5_67 ex5_67 => ?_)
          replace h := h x5_67 ex5_67
          refine v_istore o (lv' := [(5, .int x5_67), (4, .int x4_57), (3, .int x3_50), (0, .ref a), (1, .int p1), (2, .int x2)]) dX8_walks_67 (by decide) rfl ?_
          refine v_aload_n o 3 dX8_walks_69 rfl ?_
          refine v_aload_n o 3 dX8_walks_70 rfl ?_
          refine v_gfR o lkX8_22 (by decide) (wfModel_o ha) (wfModel_r8 ha) dX8_walks_71 ?_
          refine v_iload_n o 5 dX8_walks_74 rfl ?_
          refine v_iald o (wfModel_t8 ha) (wfModel_n8 ha) h.1 dX8_walks_75 ?_
          replace h := h.2
          refine v_iconst o (v := 2) dX8_walks_76 (by decide) ?_
          refine v_irem o dX8_walks_77 (by decide) ?_
          refine v_iconst o (v := 1) dX8_walks_78 (by decide) ?_
          refine v_icmp_ne o (tgt := 87) dX8_walks_79 (by decide) (fun c79 => ?_) (fun c79 => ?_)
          · replace h := h.1 c79
            refine v_iload o 0 dX8_walks_87 rfl ?_
            refine v_sub [3, 4, 5, 2, 1, 0] (lv2 := [(0, .ref a), (1, .int p1), (2, .int x2), (3, .int x3_50), (4, .int x4_57), (5, .int x5_67)]) rfl ?_
            exact J89 x2 x3_50 x4_57 x5_67 x5_67 g  h
          · replace h := h.2 c79
            refine v_iload o 1 dX8_walks_82 rfl ?_
            refine v_goto o (tgt := 89) dX8_walks_84 (by decide) ?_
            refine v_sub [3, 4, 5, 2, 1, 0] (lv2 := [(0, .ref a), (1, .int p1), (2, .int x2), (3, .int x3_50), (4, .int x4_57), (5, .int x5_67)]) rfl ?_
            exact J89 x2 x3_50 x4_57 x5_67 x4_57 g  h
  unfold vX8_walks at h
  refine v_iconst o (v := 0) dX8_walks_0 (by decide) ?_
  refine v_istore_n o (lv' := [(2, .int 0), (0, .ref a), (1, .int p1)]) dX8_walks_1 rfl (by decide) rfl ?_
  refine v_sub [1, 2, 0] (lv2 := [(0, .ref a), (1, .int p1), (2, .int 0)]) rfl ?_
  exact (main (μ2 f 0 + 1)).1 f 0  h (Nat.lt_succ_self _)
def kX8_walks (P : Sk) (f : St) (a : Nat) (p1 : Int32) (K : St → Prop) : Prop := False
theorem metX8_walks (l : Launch) (G : Gl) (P : Sk) (f : St) (sz : Nat) (a : Nat) (ha : IsModel P a) (p1 : Int32) (K : St → Prop) (h : kX8_walks P f a p1 K) : Met l yX8_walks (wU yX8_walks cX8_walks 6 none) rmX8_walks (PcW G P f sz [.ref a, .int p1]) (QcV G P sz K) 0 0 (frA P sz) := sorry

def jX8_why_56 (P : Sk) (a : Nat) (L23 : St → Int32 → Int32 → Prop) (K : Int32 → St → Prop) (x1 : Int32) (x2 : Int32) (y0 : Int32) (f : St) : Prop :=
  ∀ x2_57 : Int32, x2_57 = x2 + 1 → L23 f y0 x2_57
def bX8_why_23 (P : Sk) (a : Nat) (L23 : St → Int32 → Int32 → Prop) (K : Int32 → St → Prop) (f : St) (x1 : Int32) (x2 : Int32) : Prop :=
  (f a 10 ≤ x2 → K x1 f) ∧ (¬ f a 10 ≤ x2 → vp_in x2 7 ∧ (vp_in x2 7 ∧ (((f (a + 8) x2.toNatClampNeg) + (2 * (f (a + 7) x2.toNatClampNeg)) ≤ 30 → jX8_why_56 P a L23 K x1 x2 x1 f) ∧ (¬ (f (a + 8) x2.toNatClampNeg) + (2 * (f (a + 7) x2.toNatClampNeg)) ≤ 30 → jX8_why_56 P a L23 K x1 x2 2 f))))
def vX8_why (P : Sk) (f : St) (a : Nat) (L23 : St → Int32 → Int32 → Prop) (K : Int32 → St → Prop) : Prop :=
  (f a 9 ≤ 24 → kX8_walks P f a (f a 9) (fun g16 => L23 g16 0 0)) ∧ (¬ f a 9 ≤ 24 → K 1 f)
set_option maxRecDepth 20000 in
set_option maxHeartbeats 4000000 in
theorem mX8_why (l : Launch) (G : Gl) (P : Sk) (f : St) (sz : Nat) (a : Nat) (ha : IsModel P a) (K : Int32 → St → Prop) (I23 : St → Int32 → Int32 → Prop) (μ23 : St → Int32 → Int32 → Nat) 
  (h : vX8_why P f a I23 K)
  (h23 : ∀ (g : St) (x1 : Int32) (x2 : Int32) , I23 g x1 x2 → bX8_why_23 P a (fun g' z0 z1 => I23 g' z0 z1 ∧ μ23 g' z0 z1 < μ23 g x1 x2) K g x1 x2) :
  Met l yX8_why (wU yX8_why cX8_why 3 (some .int)) rmX8_why (PcW G P f sz [.ref a]) (QcI G P sz K) 0 0 (frA P sz) := by
  refine v_met (own := RX8) [.ref a] (by decide +kernel) rfl (Nat.le_of_ble_eq_true rfl) (fun p e s m args below meth c hsz o hr hnm => ?_)
  refine v_lv (lv2 := [(0, .ref a)]) rfl ?_
  have main : ∀ n : Nat, (∀ (g : St) (x1 : Int32) (x2 : Int32) , I23 g x1 x2 → μ23 g x1 x2 < n → V p l e rmX8_why s m args below meth c 3 G (frA P sz) (MQ below (QcI G P sz K) args s 0 0 (frA P sz)) 0 0 P [(0, .ref a), (1, .int x1), (2, .int x2)] [] 23 g) := by
    intro n
    induction n with
    | zero => exact fun g x1 x2 hI hm => absurd hm (Nat.not_lt_zero _)
    | succ n ih =>
      intro g x1 x2 hI hm
      have h := h23 g x1 x2 hI
      clear hI
      have J56 : ∀ (x1_56 : Int32) (x2_56 : Int32) (y0_56 : Int32) (g56 : St), jX8_why_56 P a (fun g' z0 z1 => I23 g' z0 z1 ∧ μ23 g' z0 z1 < μ23 g x1 x2) K x1_56 x2_56 y0_56 g56 → V p l e rmX8_why s m args below meth c 3 G (frA P sz) (MQ below (QcI G P sz K) args s 0 0 (frA P sz)) 0 0 P [(0, .ref a), (1, .int x1_56), (2, .int x2_56)] [.int y0_56] 56 g56 := by
        intro x1_56 x2_56 y0_56 g56  h
        unfold jX8_why_56 at h
        refine v_istore_n o (lv' := [(1, .int y0_56), (0, .ref a), (2, .int x2_56)]) dX8_why_56 rfl (by decide) rfl ?_
        obtain ⟨x2_57, ex2_57⟩ : ∃ y : Int32, y = x2_56 + 1 := ⟨_, rfl⟩
        replace h := h x2_57 ex2_57
        refine v_iinc o (v := x2_57) (lv' := [(2, .int x2_57), (1, .int y0_56), (0, .ref a)]) 2 dX8_why_57 rfl (by rw [ex2_57]; rfl) (by decide) rfl ?_
        refine v_goto o (tgt := 23) dX8_why_60 (by decide) ?_
        refine v_sub [2, 1, 0] (lv2 := [(0, .ref a), (1, .int y0_56), (2, .int x2_57)]) rfl ?_
        exact ih g56 y0_56 x2_57  h.1 (by have := h.2; omega)
      unfold bX8_why_23 at h
      refine v_iload_n o 2 dX8_why_23 rfl ?_
      refine v_aload_n o 0 dX8_why_24 rfl ?_
      refine v_gfI o lkX8_55 (by decide) (wfModel_o ha) dX8_why_25 ?_
      refine v_icmp_ge o (tgt := 63) dX8_why_28 (by decide) (fun c28 => ?_) (fun c28 => ?_)
      · replace h := h.1 c28
        refine v_iload_n o 1 dX8_why_63 rfl ?_
        exact v_iret o rfl hr dX8_why_64 h
      · replace h := h.2 c28
        refine v_aload_n o 0 dX8_why_31 rfl ?_
        refine v_gfR o lkX8_31 (by decide) (wfModel_o ha) (wfModel_r13 ha) dX8_why_32 ?_
        refine v_iload_n o 2 dX8_why_35 rfl ?_
        refine v_iald o (wfModel_t13 ha) (wfModel_n13 ha) h.1 dX8_why_36 ?_
        replace h := h.2
        refine v_iconst o (v := 2) dX8_why_37 (by decide) ?_
        refine v_aload_n o 0 dX8_why_38 rfl ?_
        refine v_gfR o lkX8_28 (by decide) (wfModel_o ha) (wfModel_r12 ha) dX8_why_39 ?_
        refine v_iload_n o 2 dX8_why_42 rfl ?_
        refine v_iald o (wfModel_t12 ha) (wfModel_n12 ha) h.1 dX8_why_43 ?_
        replace h := h.2
        refine v_imul o dX8_why_44 ?_
        refine v_iadd o dX8_why_45 ?_
        refine v_bipush o (v := 30) dX8_why_46 (by decide) ?_
        refine v_icmp_le o (tgt := 55) dX8_why_48 (by decide) (fun c48 => ?_) (fun c48 => ?_)
        · replace h := h.1 c48
          refine v_iload_n o 1 dX8_why_55 rfl ?_
          refine v_sub [0, 1, 2] (lv2 := [(0, .ref a), (1, .int x1), (2, .int x2)]) rfl ?_
          exact J56 x1 x2 x1 g  h
        · replace h := h.2 c48
          refine v_iconst o (v := 2) dX8_why_51 (by decide) ?_
          refine v_goto o (tgt := 56) dX8_why_52 (by decide) ?_
          refine v_sub [0, 1, 2] (lv2 := [(0, .ref a), (1, .int x1), (2, .int x2)]) rfl ?_
          exact J56 x1 x2 2 g  h
  unfold vX8_why at h
  refine v_aload_n o 0 dX8_why_0 rfl ?_
  refine v_gfI o lkX8_58 (by decide) (wfModel_o ha) dX8_why_1 ?_
  refine v_bipush o (v := 24) dX8_why_4 (by decide) ?_
  refine v_icmp_le o (tgt := 11) dX8_why_6 (by decide) (fun c6 => ?_) (fun c6 => ?_)
  · replace h := h.1 c6
    refine v_aload_n o 0 dX8_why_11 rfl ?_
    refine v_aload_n o 0 dX8_why_12 rfl ?_
    refine v_gfI o lkX8_58 (by decide) (wfModel_o ha) dX8_why_13 ?_
    refine v_cVv o [.int (f a 9)] [] (fun sz => metX8_walks l G P f sz a ha (f a 9) _ h) (cwX8_89 o.1.2.2.2.2 (by decide)) ⟨_, _, rfl⟩ (by decide) (wfModel_o ha) rfl (Nat.le_of_ble_eq_true rfl) ⟨Nat.zero_le _, Nat.zero_le _⟩ dX8_why_16 rfl (fun g16 h => ?_)
    refine v_iconst o (v := 0) dX8_why_19 (by decide) ?_
    refine v_istore_n o (lv' := [(1, .int 0), (0, .ref a)]) dX8_why_20 rfl (by decide) rfl ?_
    refine v_iconst o (v := 0) dX8_why_21 (by decide) ?_
    refine v_istore_n o (lv' := [(2, .int 0), (1, .int 0), (0, .ref a)]) dX8_why_22 rfl (by decide) rfl ?_
    refine v_sub [2, 1, 0] (lv2 := [(0, .ref a), (1, .int 0), (2, .int 0)]) rfl ?_
    exact (main (μ23 g16 0 0 + 1)) g16 0 0  h (Nat.lt_succ_self _)
  · replace h := h.2 c6
    refine v_iconst o (v := 1) dX8_why_9 (by decide) ?_
    exact v_iret o rfl hr dX8_why_10 h
def kX8_why (P : Sk) (f : St) (a : Nat) (K : Int32 → St → Prop) : Prop := False
theorem metX8_why (l : Launch) (G : Gl) (P : Sk) (f : St) (sz : Nat) (a : Nat) (ha : IsModel P a) (K : Int32 → St → Prop) (h : kX8_why P f a K) : Met l yX8_why (wU yX8_why cX8_why 3 (some .int)) rmX8_why (PcW G P f sz [.ref a]) (QcI G P sz K) 0 0 (frA P sz) := sorry

def bX8_keepsOther_10 (P : Sk) (a : Nat) (L10 : St → Int32 → Prop) (K : St → Prop) (f : St) (x1 : Int32) : Prop :=
  (f a 9 ≤ x1 → K f) ∧ (¬ f a 9 ≤ x1 → vp_in x1 50 ∧ (vp_in x1 50 ∧ (∀ g29 : St, g29 = setf f (a + 9) x1.toNatClampNeg (f (a + 5) x1.toNatClampNeg) → ∀ x1_30 : Int32, x1_30 = x1 + 1 → L10 g29 x1_30)))
def vX8_keepsOther (P : Sk) (f : St) (a : Nat) (L10 : St → Int32 → Prop) (K : St → Prop) : Prop :=
  ∀ g5 : St, g5 = setf f a 17 (f a 9) → L10 g5 0
set_option maxRecDepth 20000 in
set_option maxHeartbeats 4000000 in
theorem mX8_keepsOther (l : Launch) (G : Gl) (P : Sk) (f : St) (sz : Nat) (a : Nat) (ha : IsModel P a) (K : St → Prop) (I10 : St → Int32 → Prop) (μ10 : St → Int32 → Nat) 
  (h : vX8_keepsOther P f a I10 K)
  (h10 : ∀ (g : St) (x1 : Int32) , I10 g x1 → bX8_keepsOther_10 P a (fun g' z0 => I10 g' z0 ∧ μ10 g' z0 < μ10 g x1) K g x1) :
  Met l yX8_keepsOther (wU yX8_keepsOther cX8_keepsOther 2 none) rmX8_keepsOther (PcW G P f sz [.ref a]) (QcV G P sz K) 0 0 (frA P sz) := by
  refine v_met (own := RX8) [.ref a] (by decide +kernel) rfl (Nat.le_of_ble_eq_true rfl) (fun p e s m args below meth c hsz o hr hnm => ?_)
  refine v_lv (lv2 := [(0, .ref a)]) rfl ?_
  have main : ∀ n : Nat, (∀ (g : St) (x1 : Int32) , I10 g x1 → μ10 g x1 < n → V p l e rmX8_keepsOther s m args below meth c 2 G (frA P sz) (MQ below (QcV G P sz K) args s 0 0 (frA P sz)) 0 0 P [(0, .ref a), (1, .int x1)] [] 10 g) := by
    intro n
    induction n with
    | zero => exact fun g x1 hI hm => absurd hm (Nat.not_lt_zero _)
    | succ n ih =>
      intro g x1 hI hm
      have h := h10 g x1 hI
      clear hI
      unfold bX8_keepsOther_10 at h
      refine v_iload_n o 1 dX8_keepsOther_10 rfl ?_
      refine v_aload_n o 0 dX8_keepsOther_11 rfl ?_
      refine v_gfI o lkX8_58 (by decide) (wfModel_o ha) dX8_keepsOther_12 ?_
      refine v_icmp_ge o (tgt := 36) dX8_keepsOther_15 (by decide) (fun c15 => ?_) (fun c15 => ?_)
      · replace h := h.1 c15
        exact v_vret o rfl hr dX8_keepsOther_36 h
      · replace h := h.2 c15
        refine v_aload_n o 0 dX8_keepsOther_18 rfl ?_
        refine v_gfR o lkX8_34 (by decide) (wfModel_o ha) (wfModel_r16 ha) dX8_keepsOther_19 ?_
        refine v_iload_n o 1 dX8_keepsOther_22 rfl ?_
        refine v_aload_n o 0 dX8_keepsOther_23 rfl ?_
        refine v_gfR o lkX8_22 (by decide) (wfModel_o ha) (wfModel_r8 ha) dX8_keepsOther_24 ?_
        refine v_iload_n o 1 dX8_keepsOther_27 rfl ?_
        refine v_iald o (wfModel_t8 ha) (wfModel_n8 ha) h.1 dX8_keepsOther_28 ?_
        replace h := h.2
        refine v_iast o (wfModel_t16 ha) (wfModel_n16 ha) h.1 dX8_keepsOther_29 ?_
        replace h := h.2
        refine v_nmf (fun g29 eg29 => ?_)
        replace h := h g29 eg29
        obtain ⟨x1_30, ex1_30⟩ : ∃ y : Int32, y = x1 + 1 := ⟨_, rfl⟩
        replace h := h x1_30 ex1_30
        refine v_iinc o (v := x1_30) (lv' := [(1, .int x1_30), (0, .ref a)]) 1 dX8_keepsOther_30 rfl (by rw [ex1_30]; rfl) (by decide) rfl ?_
        refine v_goto o (tgt := 10) dX8_keepsOther_33 (by decide) ?_
        refine v_sub [1, 0] (lv2 := [(0, .ref a), (1, .int x1_30)]) rfl ?_
        exact ih g29 x1_30  h.1 (by have := h.2; omega)
  unfold vX8_keepsOther at h
  refine v_aload_n o 0 dX8_keepsOther_0 rfl ?_
  refine v_aload_n o 0 dX8_keepsOther_1 rfl ?_
  refine v_gfI o lkX8_58 (by decide) (wfModel_o ha) dX8_keepsOther_2 ?_
  refine v_pf o lpX8_92 (wfModel_o ha) ⟨rfl, rfl⟩ dX8_keepsOther_5 ?_
  refine v_nmf (fun g5 eg5 => ?_)
  replace h := h g5 eg5
  refine v_iconst o (v := 0) dX8_keepsOther_8 (by decide) ?_
  refine v_istore_n o (lv' := [(1, .int 0), (0, .ref a)]) dX8_keepsOther_9 rfl (by decide) rfl ?_
  refine v_sub [1, 0] (lv2 := [(0, .ref a), (1, .int 0)]) rfl ?_
  exact (main (μ10 g5 0 + 1)) g5 0  h (Nat.lt_succ_self _)
def kX8_keepsOther (P : Sk) (f : St) (a : Nat) (K : St → Prop) : Prop := False
theorem metX8_keepsOther (l : Launch) (G : Gl) (P : Sk) (f : St) (sz : Nat) (a : Nat) (ha : IsModel P a) (K : St → Prop) (h : kX8_keepsOther P f a K) : Met l yX8_keepsOther (wU yX8_keepsOther cX8_keepsOther 2 none) rmX8_keepsOther (PcW G P f sz [.ref a]) (QcV G P sz K) 0 0 (frA P sz) := sorry

def jX8_isLikeOther_51 (P : Sk) (a : Nat) (L19 : St → Int32 → Int32 → Prop) (K : Int32 → St → Prop) (x1 : Int32) (x2 : Int32) (y0 : Int32) (f : St) : Prop :=
  ∀ x2_52 : Int32, x2_52 = x2 + 1 → L19 f y0 x2_52
def jX8_isLikeOther_16 (P : Sk) (a : Nat) (L19 : St → Int32 → Int32 → Prop) (K : Int32 → St → Prop) (y0 : Int32) (f : St) : Prop :=
  L19 f y0 0
def bX8_isLikeOther_19 (P : Sk) (a : Nat) (L19 : St → Int32 → Int32 → Prop) (K : Int32 → St → Prop) (f : St) (x1 : Int32) (x2 : Int32) : Prop :=
  (f a 9 ≤ x2 → (x1 = 0 ∨ x1 = 1) ∧ K x1 f) ∧ (¬ f a 9 ≤ x2 → (x1 = 0 → (x1 = 0 ∨ x1 = 1) ∧ K x1 f) ∧ (¬ x1 = 0 → vp_in x2 50 ∧ (vp_in x2 50 ∧ ((¬ f (a + 5) x2.toNatClampNeg = f (a + 9) x2.toNatClampNeg → jX8_isLikeOther_51 P a L19 K x1 x2 0 f) ∧ (f (a + 5) x2.toNatClampNeg = f (a + 9) x2.toNatClampNeg → jX8_isLikeOther_51 P a L19 K x1 x2 1 f)))))
def vX8_isLikeOther (P : Sk) (f : St) (a : Nat) (L19 : St → Int32 → Int32 → Prop) (K : Int32 → St → Prop) : Prop :=
  (¬ f a 9 = f a 17 → jX8_isLikeOther_16 P a L19 K 0 f) ∧ (f a 9 = f a 17 → jX8_isLikeOther_16 P a L19 K 1 f)
set_option maxRecDepth 20000 in
set_option maxHeartbeats 4000000 in
theorem mX8_isLikeOther (l : Launch) (G : Gl) (P : Sk) (f : St) (sz : Nat) (a : Nat) (ha : IsModel P a) (K : Int32 → St → Prop) (I19 : St → Int32 → Int32 → Prop) (μ19 : St → Int32 → Int32 → Nat) 
  (h : vX8_isLikeOther P f a I19 K)
  (h19 : ∀ (g : St) (x1 : Int32) (x2 : Int32) , I19 g x1 x2 → bX8_isLikeOther_19 P a (fun g' z0 z1 => I19 g' z0 z1 ∧ μ19 g' z0 z1 < μ19 g x1 x2) K g x1 x2) :
  Met l yX8_isLikeOther (wU yX8_isLikeOther cX8_isLikeOther 3 (some .boolean)) rmX8_isLikeOther (PcW G P f sz [.ref a]) (QcI G P sz K) 0 0 (frA P sz) := by
  refine v_met (own := RX8) [.ref a] (by decide +kernel) rfl (Nat.le_of_ble_eq_true rfl) (fun p e s m args below meth c hsz o hr hnm => ?_)
  refine v_lv (lv2 := [(0, .ref a)]) rfl ?_
  have main : ∀ n : Nat, (∀ (g : St) (x1 : Int32) (x2 : Int32) , I19 g x1 x2 → μ19 g x1 x2 < n → V p l e rmX8_isLikeOther s m args below meth c 3 G (frA P sz) (MQ below (QcI G P sz K) args s 0 0 (frA P sz)) 0 0 P [(0, .ref a), (1, .int x1), (2, .int x2)] [] 19 g) := by
    intro n
    induction n with
    | zero => exact fun g x1 x2 hI hm => absurd hm (Nat.not_lt_zero _)
    | succ n ih =>
      intro g x1 x2 hI hm
      have h := h19 g x1 x2 hI
      clear hI
      have J51 : ∀ (x1_51 : Int32) (x2_51 : Int32) (y0_51 : Int32) (g51 : St), jX8_isLikeOther_51 P a (fun g' z0 z1 => I19 g' z0 z1 ∧ μ19 g' z0 z1 < μ19 g x1 x2) K x1_51 x2_51 y0_51 g51 → V p l e rmX8_isLikeOther s m args below meth c 3 G (frA P sz) (MQ below (QcI G P sz K) args s 0 0 (frA P sz)) 0 0 P [(0, .ref a), (1, .int x1_51), (2, .int x2_51)] [.int y0_51] 51 g51 := by
        intro x1_51 x2_51 y0_51 g51  h
        unfold jX8_isLikeOther_51 at h
        refine v_istore_n o (lv' := [(1, .int y0_51), (0, .ref a), (2, .int x2_51)]) dX8_isLikeOther_51 rfl (by decide) rfl ?_
        obtain ⟨x2_52, ex2_52⟩ : ∃ y : Int32, y = x2_51 + 1 := ⟨_, rfl⟩
        replace h := h x2_52 ex2_52
        refine v_iinc o (v := x2_52) (lv' := [(2, .int x2_52), (1, .int y0_51), (0, .ref a)]) 2 dX8_isLikeOther_52 rfl (by rw [ex2_52]; rfl) (by decide) rfl ?_
        refine v_goto o (tgt := 19) dX8_isLikeOther_55 (by decide) ?_
        refine v_sub [2, 1, 0] (lv2 := [(0, .ref a), (1, .int y0_51), (2, .int x2_52)]) rfl ?_
        exact ih g51 y0_51 x2_52  h.1 (by have := h.2; omega)
      unfold bX8_isLikeOther_19 at h
      refine v_iload_n o 2 dX8_isLikeOther_19 rfl ?_
      refine v_aload_n o 0 dX8_isLikeOther_20 rfl ?_
      refine v_gfI o lkX8_58 (by decide) (wfModel_o ha) dX8_isLikeOther_21 ?_
      refine v_icmp_ge o (tgt := 58) dX8_isLikeOther_24 (by decide) (fun c24 => ?_) (fun c24 => ?_)
      · replace h := h.1 c24
        refine v_iload_n o 1 dX8_isLikeOther_58 rfl ?_
        exact v_zret o rfl hr (bzz h.1).1 dX8_isLikeOther_59 h.2
      · replace h := h.2 c24
        refine v_iload_n o 1 dX8_isLikeOther_27 rfl ?_
        refine v_if_eq o (tgt := 58) dX8_isLikeOther_28 (by decide) (fun c28 => ?_) (fun c28 => ?_)
        · replace h := h.1 c28
          refine v_iload_n o 1 dX8_isLikeOther_58 rfl ?_
          exact v_zret o rfl hr (bzz h.1).1 dX8_isLikeOther_59 h.2
        · replace h := h.2 c28
          refine v_aload_n o 0 dX8_isLikeOther_31 rfl ?_
          refine v_gfR o lkX8_22 (by decide) (wfModel_o ha) (wfModel_r8 ha) dX8_isLikeOther_32 ?_
          refine v_iload_n o 2 dX8_isLikeOther_35 rfl ?_
          refine v_iald o (wfModel_t8 ha) (wfModel_n8 ha) h.1 dX8_isLikeOther_36 ?_
          replace h := h.2
          refine v_aload_n o 0 dX8_isLikeOther_37 rfl ?_
          refine v_gfR o lkX8_34 (by decide) (wfModel_o ha) (wfModel_r16 ha) dX8_isLikeOther_38 ?_
          refine v_iload_n o 2 dX8_isLikeOther_41 rfl ?_
          refine v_iald o (wfModel_t16 ha) (wfModel_n16 ha) h.1 dX8_isLikeOther_42 ?_
          replace h := h.2
          refine v_icmp_ne o (tgt := 50) dX8_isLikeOther_43 (by decide) (fun c43 => ?_) (fun c43 => ?_)
          · replace h := h.1 c43
            refine v_iconst o (v := 0) dX8_isLikeOther_50 (by decide) ?_
            refine v_sub [0, 1, 2] (lv2 := [(0, .ref a), (1, .int x1), (2, .int x2)]) rfl ?_
            exact J51 x1 x2 0 g  h
          · replace h := h.2 c43
            refine v_iconst o (v := 1) dX8_isLikeOther_46 (by decide) ?_
            refine v_goto o (tgt := 51) dX8_isLikeOther_47 (by decide) ?_
            refine v_sub [0, 1, 2] (lv2 := [(0, .ref a), (1, .int x1), (2, .int x2)]) rfl ?_
            exact J51 x1 x2 1 g  h
  have J16 : ∀ (y0_16 : Int32) (g16 : St), jX8_isLikeOther_16 P a I19 K y0_16 g16 → V p l e rmX8_isLikeOther s m args below meth c 3 G (frA P sz) (MQ below (QcI G P sz K) args s 0 0 (frA P sz)) 0 0 P [(0, .ref a)] [.int y0_16] 16 g16 := by
    intro y0_16 g16  h
    unfold jX8_isLikeOther_16 at h
    refine v_istore_n o (lv' := [(1, .int y0_16), (0, .ref a)]) dX8_isLikeOther_16 rfl (by decide) rfl ?_
    refine v_iconst o (v := 0) dX8_isLikeOther_17 (by decide) ?_
    refine v_istore_n o (lv' := [(2, .int 0), (1, .int y0_16), (0, .ref a)]) dX8_isLikeOther_18 rfl (by decide) rfl ?_
    refine v_sub [2, 1, 0] (lv2 := [(0, .ref a), (1, .int y0_16), (2, .int 0)]) rfl ?_
    exact (main (μ19 g16 y0_16 0 + 1)) g16 y0_16 0  h (Nat.lt_succ_self _)
  unfold vX8_isLikeOther at h
  refine v_aload_n o 0 dX8_isLikeOther_0 rfl ?_
  refine v_gfI o lkX8_58 (by decide) (wfModel_o ha) dX8_isLikeOther_1 ?_
  refine v_aload_n o 0 dX8_isLikeOther_4 rfl ?_
  refine v_gfI o lkX8_92 (by decide) (wfModel_o ha) dX8_isLikeOther_5 ?_
  refine v_icmp_ne o (tgt := 15) dX8_isLikeOther_8 (by decide) (fun c8 => ?_) (fun c8 => ?_)
  · replace h := h.1 c8
    refine v_iconst o (v := 0) dX8_isLikeOther_15 (by decide) ?_
    refine v_sub [0] (lv2 := [(0, .ref a)]) rfl ?_
    exact J16 0 f  h
  · replace h := h.2 c8
    refine v_iconst o (v := 1) dX8_isLikeOther_11 (by decide) ?_
    refine v_goto o (tgt := 16) dX8_isLikeOther_12 (by decide) ?_
    refine v_sub [0] (lv2 := [(0, .ref a)]) rfl ?_
    exact J16 1 f  h
def kX8_isLikeOther (P : Sk) (f : St) (a : Nat) (K : Int32 → St → Prop) : Prop := False
theorem metX8_isLikeOther (l : Launch) (G : Gl) (P : Sk) (f : St) (sz : Nat) (a : Nat) (ha : IsModel P a) (K : Int32 → St → Prop) (h : kX8_isLikeOther P f a K) : Met l yX8_isLikeOther (wU yX8_isLikeOther cX8_isLikeOther 3 (some .boolean)) rmX8_isLikeOther (PcW G P f sz [.ref a]) (QcI G P sz K) 0 0 (frA P sz) := sorry

def jX8_changes_26 (P : Sk) (a : Nat) (p1 : Int32) (K : St → Prop) (f : St) : Prop :=
  (¬ p1 = 3 → K f) ∧ (p1 = 3 → kX8_loosens P f a (fun g32 => K g32))
def jX8_changes_17 (P : Sk) (a : Nat) (p1 : Int32) (K : St → Prop) (f : St) : Prop :=
  (¬ p1 = 2 → jX8_changes_26 P a p1 K  f) ∧ (p1 = 2 → kX8_reverses P f a (fun g23 => jX8_changes_26 P a p1 K  g23))
def jX8_changes_8 (P : Sk) (a : Nat) (p1 : Int32) (K : St → Prop) (f : St) : Prop :=
  (¬ p1 = 1 → jX8_changes_17 P a p1 K  f) ∧ (p1 = 1 → kX8_turns P f a (fun g14 => jX8_changes_17 P a p1 K  g14))
def vX8_changes (P : Sk) (f : St) (a : Nat) (p1 : Int32) (K : St → Prop) : Prop :=
  (¬ p1 = 0 → jX8_changes_8 P a p1 K  f) ∧ (p1 = 0 → kX8_mirrors P f a (fun g5 => jX8_changes_8 P a p1 K  g5))
set_option maxRecDepth 20000 in
set_option maxHeartbeats 4000000 in
theorem mX8_changes (l : Launch) (G : Gl) (P : Sk) (f : St) (sz : Nat) (a : Nat) (ha : IsModel P a) (p1 : Int32) (K : St → Prop) (h : vX8_changes P f a p1 K)  :
  Met l yX8_changes (wU yX8_changes cX8_changes 2 none) rmX8_changes (PcW G P f sz [.ref a, .int p1]) (QcV G P sz K) 0 0 (frA P sz) := by
  refine v_met (own := RX8) [.ref a, .int p1] (by decide +kernel) rfl (Nat.le_of_ble_eq_true rfl) (fun p e s m args below meth c hsz o hr hnm => ?_)
  refine v_lv (lv2 := [(0, .ref a), (1, .int p1)]) rfl ?_
  have J26 : ∀ (g26 : St), jX8_changes_26 P a p1 K  g26 → V p l e rmX8_changes s m args below meth c 2 G (frA P sz) (MQ below (QcV G P sz K) args s 0 0 (frA P sz)) 0 0 P [(0, .ref a), (1, .int p1)] [] 26 g26 := by
    intro  g26  h
    unfold jX8_changes_26 at h
    refine v_iload_n o 1 dX8_changes_26 rfl ?_
    refine v_iconst o (v := 3) dX8_changes_27 (by decide) ?_
    refine v_icmp_ne o (tgt := 35) dX8_changes_28 (by decide) (fun c28 => ?_) (fun c28 => ?_)
    · replace h := h.1 c28
      exact v_vret o rfl hr dX8_changes_35 h
    · replace h := h.2 c28
      refine v_aload_n o 0 dX8_changes_31 rfl ?_
      refine v_cVv o [] [] (fun sz => metX8_loosens l G P g26 sz a ha _ h) (cwX8_101 o.1.2.2.2.2 (by decide)) ⟨_, _, rfl⟩ (by decide) (wfModel_o ha) rfl (Nat.le_of_ble_eq_true rfl) ⟨Nat.zero_le _, Nat.zero_le _⟩ dX8_changes_32 rfl (fun g32 h => ?_)
      exact v_vret o rfl hr dX8_changes_35 h
  have J17 : ∀ (g17 : St), jX8_changes_17 P a p1 K  g17 → V p l e rmX8_changes s m args below meth c 2 G (frA P sz) (MQ below (QcV G P sz K) args s 0 0 (frA P sz)) 0 0 P [(0, .ref a), (1, .int p1)] [] 17 g17 := by
    intro  g17  h
    unfold jX8_changes_17 at h
    refine v_iload_n o 1 dX8_changes_17 rfl ?_
    refine v_iconst o (v := 2) dX8_changes_18 (by decide) ?_
    refine v_icmp_ne o (tgt := 26) dX8_changes_19 (by decide) (fun c19 => ?_) (fun c19 => ?_)
    · replace h := h.1 c19
      refine v_sub [0, 1] (lv2 := [(0, .ref a), (1, .int p1)]) rfl ?_
      exact J26  g17  h
    · replace h := h.2 c19
      refine v_aload_n o 0 dX8_changes_22 rfl ?_
      refine v_cVv o [] [] (fun sz => metX8_reverses l G P g17 sz a ha _ h) (cwX8_98 o.1.2.2.2.2 (by decide)) ⟨_, _, rfl⟩ (by decide) (wfModel_o ha) rfl (Nat.le_of_ble_eq_true rfl) ⟨Nat.zero_le _, Nat.zero_le _⟩ dX8_changes_23 rfl (fun g23 h => ?_)
      refine v_sub [0, 1] (lv2 := [(0, .ref a), (1, .int p1)]) rfl ?_
      exact J26  g23  h
  have J8 : ∀ (g8 : St), jX8_changes_8 P a p1 K  g8 → V p l e rmX8_changes s m args below meth c 2 G (frA P sz) (MQ below (QcV G P sz K) args s 0 0 (frA P sz)) 0 0 P [(0, .ref a), (1, .int p1)] [] 8 g8 := by
    intro  g8  h
    unfold jX8_changes_8 at h
    refine v_iload_n o 1 dX8_changes_8 rfl ?_
    refine v_iconst o (v := 1) dX8_changes_9 (by decide) ?_
    refine v_icmp_ne o (tgt := 17) dX8_changes_10 (by decide) (fun c10 => ?_) (fun c10 => ?_)
    · replace h := h.1 c10
      refine v_sub [0, 1] (lv2 := [(0, .ref a), (1, .int p1)]) rfl ?_
      exact J17  g8  h
    · replace h := h.2 c10
      refine v_aload_n o 0 dX8_changes_13 rfl ?_
      refine v_cVv o [] [] (fun sz => metX8_turns l G P g8 sz a ha _ h) (cwX8_95 o.1.2.2.2.2 (by decide)) ⟨_, _, rfl⟩ (by decide) (wfModel_o ha) rfl (Nat.le_of_ble_eq_true rfl) ⟨Nat.zero_le _, Nat.zero_le _⟩ dX8_changes_14 rfl (fun g14 h => ?_)
      refine v_sub [0, 1] (lv2 := [(0, .ref a), (1, .int p1)]) rfl ?_
      exact J17  g14  h
  unfold vX8_changes at h
  refine v_iload_n o 1 dX8_changes_0 rfl ?_
  refine v_if_ne o (tgt := 8) dX8_changes_1 (by decide) (fun c1 => ?_) (fun c1 => ?_)
  · replace h := h.1 c1
    refine v_sub [0, 1] (lv2 := [(0, .ref a), (1, .int p1)]) rfl ?_
    exact J8  f  h
  · replace h := h.2 c1
    refine v_aload_n o 0 dX8_changes_4 rfl ?_
    refine v_cVv o [] [] (fun sz => metX8_mirrors l G P f sz a ha _ h) (cwX8_65 o.1.2.2.2.2 (by decide)) ⟨_, _, rfl⟩ (by decide) (wfModel_o ha) rfl (Nat.le_of_ble_eq_true rfl) ⟨Nat.zero_le _, Nat.zero_le _⟩ dX8_changes_5 rfl (fun g5 h => ?_)
    refine v_sub [0, 1] (lv2 := [(0, .ref a), (1, .int p1)]) rfl ?_
    exact J8  g5  h
abbrev kX8_changes := @vX8_changes
abbrev metX8_changes := @mX8_changes

def vX8_refusesCross (P : Sk) (f : St) (a : Nat) (p1 : Int32) (p2 : Int32) (p3 : Int32) (K : Int32 → St → Prop) : Prop :=
  kX8_isLoaf P f a p1 (fun r2 g2 => (¬ r2 = 0 → kX8_of P g2 a p1 0 (fun r15 g15 => kX8_in P g15 p2 0 (r15 - 2) (fun r20 g20 => (¬ r20 = 0 → kX8_takes P g20 a p1 (fun g30 => vp_in (g30 a 9) 50 ∧ (∀ g46 : St, g46 = setf g30 (a + 5) (g30 a 9).toNatClampNeg ((2 * p2) + p3) → ∀ g54 : St, g54 = setf g46 a 9 ((g46 a 9) + 1) → kX8_why P g54 a (fun r58 g58 => K r58 g58)))) ∧ (r20 = 0 → K 4 g20)))) ∧ (r2 = 0 → K 3 g2))
set_option maxRecDepth 20000 in
set_option maxHeartbeats 4000000 in
theorem mX8_refusesCross (l : Launch) (G : Gl) (P : Sk) (f : St) (sz : Nat) (a : Nat) (ha : IsModel P a) (p1 : Int32) (p2 : Int32) (p3 : Int32) (K : Int32 → St → Prop) (h : vX8_refusesCross P f a p1 p2 p3 K)  :
  Met l yX8_refusesCross (wU yX8_refusesCross cX8_refusesCross 4 (some .int)) rmX8_refusesCross (PcW G P f sz [.ref a, .int p1, .int p2, .int p3]) (QcI G P sz K) 0 0 (frA P sz) := by
  refine v_met (own := RX8) [.ref a, .int p1, .int p2, .int p3] (by decide +kernel) rfl (Nat.le_of_ble_eq_true rfl) (fun p e s m args below meth c hsz o hr hnm => ?_)
  refine v_lv (lv2 := [(0, .ref a), (1, .int p1), (2, .int p2), (3, .int p3)]) rfl ?_
  unfold vX8_refusesCross at h
  refine v_aload_n o 0 dX8_refusesCross_0 rfl ?_
  refine v_iload_n o 1 dX8_refusesCross_1 rfl ?_
  refine v_cVi o [.int p1] [] (fun sz => metX8_isLoaf l G P f sz a ha p1 _ h) (cwX8_104 o.1.2.2.2.2 (by decide)) ⟨_, _, rfl⟩ (by decide) (wfModel_o ha) rfl (Nat.le_of_ble_eq_true rfl) ⟨Nat.zero_le _, Nat.zero_le _⟩ dX8_refusesCross_2 rfl (fun r2 g2 h => ?_)
  refine v_if_ne o (tgt := 10) dX8_refusesCross_5 (by decide) (fun c5 => ?_) (fun c5 => ?_)
  · replace h := h.1 c5
    refine v_iload_n o 2 dX8_refusesCross_10 rfl ?_
    refine v_iconst o (v := 0) dX8_refusesCross_11 (by decide) ?_
    refine v_aload_n o 0 dX8_refusesCross_12 rfl ?_
    refine v_iload_n o 1 dX8_refusesCross_13 rfl ?_
    refine v_iconst o (v := 0) dX8_refusesCross_14 (by decide) ?_
    refine v_cVi o [.int p1, .int 0] [.int 0, .int p2] (fun sz => metX8_of l G P g2 sz a ha p1 0 _ h) (cwX8_51 o.1.2.2.2.2 (by decide)) ⟨_, _, rfl⟩ (by decide) (wfModel_o ha) rfl (Nat.le_of_ble_eq_true rfl) ⟨Nat.zero_le _, Nat.zero_le _⟩ dX8_refusesCross_15 rfl (fun r15 g15 h => ?_)
    refine v_iconst o (v := 2) dX8_refusesCross_18 (by decide) ?_
    refine v_isub o dX8_refusesCross_19 ?_
    refine v_cSi o [.int p2, .int 0, .int (r15 - 2)] [] (fun sz => metX8_in l G P g15 sz p2 0 (r15 - 2) _ h) (cwX8_44 o.1.2.2.2.2 (by decide)) rfl (Nat.le_of_ble_eq_true rfl) ⟨Nat.zero_le _, Nat.zero_le _⟩ dX8_refusesCross_20 rfl (fun r20 g20 h => ?_)
    refine v_if_ne o (tgt := 28) dX8_refusesCross_23 (by decide) (fun c23 => ?_) (fun c23 => ?_)
    · replace h := h.1 c23
      refine v_aload_n o 0 dX8_refusesCross_28 rfl ?_
      refine v_iload_n o 1 dX8_refusesCross_29 rfl ?_
      refine v_cVv o [.int p1] [] (fun sz => metX8_takes l G P g20 sz a ha p1 _ h) (cwX8_107 o.1.2.2.2.2 (by decide)) ⟨_, _, rfl⟩ (by decide) (wfModel_o ha) rfl (Nat.le_of_ble_eq_true rfl) ⟨Nat.zero_le _, Nat.zero_le _⟩ dX8_refusesCross_30 rfl (fun g30 h => ?_)
      refine v_aload_n o 0 dX8_refusesCross_33 rfl ?_
      refine v_gfR o lkX8_22 (by decide) (wfModel_o ha) (wfModel_r8 ha) dX8_refusesCross_34 ?_
      refine v_aload_n o 0 dX8_refusesCross_37 rfl ?_
      refine v_gfI o lkX8_58 (by decide) (wfModel_o ha) dX8_refusesCross_38 ?_
      refine v_iconst o (v := 2) dX8_refusesCross_41 (by decide) ?_
      refine v_iload_n o 2 dX8_refusesCross_42 rfl ?_
      refine v_imul o dX8_refusesCross_43 ?_
      refine v_iload_n o 3 dX8_refusesCross_44 rfl ?_
      refine v_iadd o dX8_refusesCross_45 ?_
      refine v_iast o (wfModel_t8 ha) (wfModel_n8 ha) h.1 dX8_refusesCross_46 ?_
      replace h := h.2
      refine v_nmf (fun g46 eg46 => ?_)
      replace h := h g46 eg46
      refine v_aload_n o 0 dX8_refusesCross_47 rfl ?_
      refine v_dup o dX8_refusesCross_48 rfl ?_
      refine v_gfI o lkX8_58 (by decide) (wfModel_o ha) dX8_refusesCross_49 ?_
      refine v_iconst o (v := 1) dX8_refusesCross_52 (by decide) ?_
      refine v_iadd o dX8_refusesCross_53 ?_
      refine v_pf o lpX8_58 (wfModel_o ha) ⟨rfl, rfl⟩ dX8_refusesCross_54 ?_
      refine v_nmf (fun g54 eg54 => ?_)
      replace h := h g54 eg54
      refine v_aload_n o 0 dX8_refusesCross_57 rfl ?_
      refine v_cVi o [] [] (fun sz => metX8_why l G P g54 sz a ha _ h) (cwX8_110 o.1.2.2.2.2 (by decide)) ⟨_, _, rfl⟩ (by decide) (wfModel_o ha) rfl (Nat.le_of_ble_eq_true rfl) ⟨Nat.zero_le _, Nat.zero_le _⟩ dX8_refusesCross_58 rfl (fun r58 g58 h => ?_)
      exact v_iret o rfl hr dX8_refusesCross_61 h
    · replace h := h.2 c23
      refine v_iconst o (v := 4) dX8_refusesCross_26 (by decide) ?_
      exact v_iret o rfl hr dX8_refusesCross_27 h
  · replace h := h.2 c5
    refine v_iconst o (v := 3) dX8_refusesCross_8 (by decide) ?_
    exact v_iret o rfl hr dX8_refusesCross_9 h
abbrev kX8_refusesCross := @vX8_refusesCross
abbrev metX8_refusesCross := @mX8_refusesCross

def vX8_refusesChange (P : Sk) (f : St) (a : Nat) (p1 : Int32) (p2 : Int32) (K : Int32 → St → Prop) : Prop :=
  kX8_isLoaf P f a p1 (fun r2 g2 => (¬ r2 = 0 → kX8_takes P g2 a p1 (fun g12 => kX8_changes P g12 a p2 (fun g17 => kX8_why P g17 a (fun r21 g21 => K r21 g21)))) ∧ (r2 = 0 → K 3 g2))
set_option maxRecDepth 20000 in
set_option maxHeartbeats 4000000 in
theorem mX8_refusesChange (l : Launch) (G : Gl) (P : Sk) (f : St) (sz : Nat) (a : Nat) (ha : IsModel P a) (p1 : Int32) (p2 : Int32) (K : Int32 → St → Prop) (h : vX8_refusesChange P f a p1 p2 K)  :
  Met l yX8_refusesChange (wU yX8_refusesChange cX8_refusesChange 3 (some .int)) rmX8_refusesChange (PcW G P f sz [.ref a, .int p1, .int p2]) (QcI G P sz K) 0 0 (frA P sz) := by
  refine v_met (own := RX8) [.ref a, .int p1, .int p2] (by decide +kernel) rfl (Nat.le_of_ble_eq_true rfl) (fun p e s m args below meth c hsz o hr hnm => ?_)
  refine v_lv (lv2 := [(0, .ref a), (1, .int p1), (2, .int p2)]) rfl ?_
  unfold vX8_refusesChange at h
  refine v_aload_n o 0 dX8_refusesChange_0 rfl ?_
  refine v_iload_n o 1 dX8_refusesChange_1 rfl ?_
  refine v_cVi o [.int p1] [] (fun sz => metX8_isLoaf l G P f sz a ha p1 _ h) (cwX8_104 o.1.2.2.2.2 (by decide)) ⟨_, _, rfl⟩ (by decide) (wfModel_o ha) rfl (Nat.le_of_ble_eq_true rfl) ⟨Nat.zero_le _, Nat.zero_le _⟩ dX8_refusesChange_2 rfl (fun r2 g2 h => ?_)
  refine v_if_ne o (tgt := 10) dX8_refusesChange_5 (by decide) (fun c5 => ?_) (fun c5 => ?_)
  · replace h := h.1 c5
    refine v_aload_n o 0 dX8_refusesChange_10 rfl ?_
    refine v_iload_n o 1 dX8_refusesChange_11 rfl ?_
    refine v_cVv o [.int p1] [] (fun sz => metX8_takes l G P g2 sz a ha p1 _ h) (cwX8_107 o.1.2.2.2.2 (by decide)) ⟨_, _, rfl⟩ (by decide) (wfModel_o ha) rfl (Nat.le_of_ble_eq_true rfl) ⟨Nat.zero_le _, Nat.zero_le _⟩ dX8_refusesChange_12 rfl (fun g12 h => ?_)
    refine v_aload_n o 0 dX8_refusesChange_15 rfl ?_
    refine v_iload_n o 2 dX8_refusesChange_16 rfl ?_
    refine v_cVv o [.int p2] [] (fun sz => metX8_changes l G P g12 sz a ha p2 _ h) (cwX8_113 o.1.2.2.2.2 (by decide)) ⟨_, _, rfl⟩ (by decide) (wfModel_o ha) rfl (Nat.le_of_ble_eq_true rfl) ⟨Nat.zero_le _, Nat.zero_le _⟩ dX8_refusesChange_17 rfl (fun g17 h => ?_)
    refine v_aload_n o 0 dX8_refusesChange_20 rfl ?_
    refine v_cVi o [] [] (fun sz => metX8_why l G P g17 sz a ha _ h) (cwX8_110 o.1.2.2.2.2 (by decide)) ⟨_, _, rfl⟩ (by decide) (wfModel_o ha) rfl (Nat.le_of_ble_eq_true rfl) ⟨Nat.zero_le _, Nat.zero_le _⟩ dX8_refusesChange_21 rfl (fun r21 g21 h => ?_)
    exact v_iret o rfl hr dX8_refusesChange_24 h
  · replace h := h.2 c5
    refine v_iconst o (v := 3) dX8_refusesChange_8 (by decide) ?_
    exact v_iret o rfl hr dX8_refusesChange_9 h
abbrev kX8_refusesChange := @vX8_refusesChange
abbrev metX8_refusesChange := @mX8_refusesChange

def vX8_refusesJoin (P : Sk) (f : St) (a : Nat) (p1 : Int32) (p2 : Int32) (K : Int32 → St → Prop) : Prop :=
  kX8_isLoaf P f a p1 (fun r2 g2 => (r2 = 0 → K 3 g2) ∧ (¬ r2 = 0 → kX8_isLoaf P g2 a p2 (fun r10 g10 => (¬ r10 = 0 → kX8_of P g10 a p1 0 (fun r21 g21 => kX8_of P g21 a p2 0 (fun r27 g27 => (r21 = r27 → kX8_takes P g27 a p1 (fun g37 => kX8_takesMore P g37 a p2 (fun g42 => kX8_why P g42 a (fun r46 g46 => K r46 g46)))) ∧ (¬ r21 = r27 → K 5 g27)))) ∧ (r10 = 0 → K 3 g10))))
set_option maxRecDepth 20000 in
set_option maxHeartbeats 4000000 in
theorem mX8_refusesJoin (l : Launch) (G : Gl) (P : Sk) (f : St) (sz : Nat) (a : Nat) (ha : IsModel P a) (p1 : Int32) (p2 : Int32) (K : Int32 → St → Prop) (h : vX8_refusesJoin P f a p1 p2 K)  :
  Met l yX8_refusesJoin (wU yX8_refusesJoin cX8_refusesJoin 3 (some .int)) rmX8_refusesJoin (PcW G P f sz [.ref a, .int p1, .int p2]) (QcI G P sz K) 0 0 (frA P sz) := by
  refine v_met (own := RX8) [.ref a, .int p1, .int p2] (by decide +kernel) rfl (Nat.le_of_ble_eq_true rfl) (fun p e s m args below meth c hsz o hr hnm => ?_)
  refine v_lv (lv2 := [(0, .ref a), (1, .int p1), (2, .int p2)]) rfl ?_
  unfold vX8_refusesJoin at h
  refine v_aload_n o 0 dX8_refusesJoin_0 rfl ?_
  refine v_iload_n o 1 dX8_refusesJoin_1 rfl ?_
  refine v_cVi o [.int p1] [] (fun sz => metX8_isLoaf l G P f sz a ha p1 _ h) (cwX8_104 o.1.2.2.2.2 (by decide)) ⟨_, _, rfl⟩ (by decide) (wfModel_o ha) rfl (Nat.le_of_ble_eq_true rfl) ⟨Nat.zero_le _, Nat.zero_le _⟩ dX8_refusesJoin_2 rfl (fun r2 g2 h => ?_)
  refine v_if_eq o (tgt := 16) dX8_refusesJoin_5 (by decide) (fun c5 => ?_) (fun c5 => ?_)
  · replace h := h.1 c5
    refine v_iconst o (v := 3) dX8_refusesJoin_16 (by decide) ?_
    exact v_iret o rfl hr dX8_refusesJoin_17 h
  · replace h := h.2 c5
    refine v_aload_n o 0 dX8_refusesJoin_8 rfl ?_
    refine v_iload_n o 2 dX8_refusesJoin_9 rfl ?_
    refine v_cVi o [.int p2] [] (fun sz => metX8_isLoaf l G P g2 sz a ha p2 _ h) (cwX8_104 o.1.2.2.2.2 (by decide)) ⟨_, _, rfl⟩ (by decide) (wfModel_o ha) rfl (Nat.le_of_ble_eq_true rfl) ⟨Nat.zero_le _, Nat.zero_le _⟩ dX8_refusesJoin_10 rfl (fun r10 g10 h => ?_)
    refine v_if_ne o (tgt := 18) dX8_refusesJoin_13 (by decide) (fun c13 => ?_) (fun c13 => ?_)
    · replace h := h.1 c13
      refine v_aload_n o 0 dX8_refusesJoin_18 rfl ?_
      refine v_iload_n o 1 dX8_refusesJoin_19 rfl ?_
      refine v_iconst o (v := 0) dX8_refusesJoin_20 (by decide) ?_
      refine v_cVi o [.int p1, .int 0] [] (fun sz => metX8_of l G P g10 sz a ha p1 0 _ h) (cwX8_51 o.1.2.2.2.2 (by decide)) ⟨_, _, rfl⟩ (by decide) (wfModel_o ha) rfl (Nat.le_of_ble_eq_true rfl) ⟨Nat.zero_le _, Nat.zero_le _⟩ dX8_refusesJoin_21 rfl (fun r21 g21 h => ?_)
      refine v_aload_n o 0 dX8_refusesJoin_24 rfl ?_
      refine v_iload_n o 2 dX8_refusesJoin_25 rfl ?_
      refine v_iconst o (v := 0) dX8_refusesJoin_26 (by decide) ?_
      refine v_cVi o [.int p2, .int 0] [.int r21] (fun sz => metX8_of l G P g21 sz a ha p2 0 _ h) (cwX8_51 o.1.2.2.2.2 (by decide)) ⟨_, _, rfl⟩ (by decide) (wfModel_o ha) rfl (Nat.le_of_ble_eq_true rfl) ⟨Nat.zero_le _, Nat.zero_le _⟩ dX8_refusesJoin_27 rfl (fun r27 g27 h => ?_)
      refine v_icmp_eq o (tgt := 35) dX8_refusesJoin_30 (by decide) (fun c30 => ?_) (fun c30 => ?_)
      · replace h := h.1 c30
        refine v_aload_n o 0 dX8_refusesJoin_35 rfl ?_
        refine v_iload_n o 1 dX8_refusesJoin_36 rfl ?_
        refine v_cVv o [.int p1] [] (fun sz => metX8_takes l G P g27 sz a ha p1 _ h) (cwX8_107 o.1.2.2.2.2 (by decide)) ⟨_, _, rfl⟩ (by decide) (wfModel_o ha) rfl (Nat.le_of_ble_eq_true rfl) ⟨Nat.zero_le _, Nat.zero_le _⟩ dX8_refusesJoin_37 rfl (fun g37 h => ?_)
        refine v_aload_n o 0 dX8_refusesJoin_40 rfl ?_
        refine v_iload_n o 2 dX8_refusesJoin_41 rfl ?_
        refine v_cVv o [.int p2] [] (fun sz => metX8_takesMore l G P g37 sz a ha p2 _ h) (cwX8_116 o.1.2.2.2.2 (by decide)) ⟨_, _, rfl⟩ (by decide) (wfModel_o ha) rfl (Nat.le_of_ble_eq_true rfl) ⟨Nat.zero_le _, Nat.zero_le _⟩ dX8_refusesJoin_42 rfl (fun g42 h => ?_)
        refine v_aload_n o 0 dX8_refusesJoin_45 rfl ?_
        refine v_cVi o [] [] (fun sz => metX8_why l G P g42 sz a ha _ h) (cwX8_110 o.1.2.2.2.2 (by decide)) ⟨_, _, rfl⟩ (by decide) (wfModel_o ha) rfl (Nat.le_of_ble_eq_true rfl) ⟨Nat.zero_le _, Nat.zero_le _⟩ dX8_refusesJoin_46 rfl (fun r46 g46 h => ?_)
        exact v_iret o rfl hr dX8_refusesJoin_49 h
      · replace h := h.2 c30
        refine v_iconst o (v := 5) dX8_refusesJoin_33 (by decide) ?_
        exact v_iret o rfl hr dX8_refusesJoin_34 h
    · replace h := h.2 c13
      refine v_iconst o (v := 3) dX8_refusesJoin_16 (by decide) ?_
      exact v_iret o rfl hr dX8_refusesJoin_17 h
abbrev kX8_refusesJoin := @vX8_refusesJoin
abbrev metX8_refusesJoin := @mX8_refusesJoin

def vX8_refusesBack (P : Sk) (f : St) (a : Nat) (p1 : Int32) (K : Int32 → St → Prop) : Prop :=
  kX8_isLoaf P f a p1 (fun r2 g2 => (¬ r2 = 0 → kX8_of P g2 a p1 1 (fun r15 g15 => (¬ r15 = 0 → K 0 g15) ∧ (r15 = 0 → K 6 g15))) ∧ (r2 = 0 → K 3 g2))
set_option maxRecDepth 20000 in
set_option maxHeartbeats 4000000 in
theorem mX8_refusesBack (l : Launch) (G : Gl) (P : Sk) (f : St) (sz : Nat) (a : Nat) (ha : IsModel P a) (p1 : Int32) (K : Int32 → St → Prop) (h : vX8_refusesBack P f a p1 K)  :
  Met l yX8_refusesBack (wU yX8_refusesBack cX8_refusesBack 2 (some .int)) rmX8_refusesBack (PcW G P f sz [.ref a, .int p1]) (QcI G P sz K) 0 0 (frA P sz) := by
  refine v_met (own := RX8) [.ref a, .int p1] (by decide +kernel) rfl (Nat.le_of_ble_eq_true rfl) (fun p e s m args below meth c hsz o hr hnm => ?_)
  refine v_lv (lv2 := [(0, .ref a), (1, .int p1)]) rfl ?_
  unfold vX8_refusesBack at h
  refine v_aload_n o 0 dX8_refusesBack_0 rfl ?_
  refine v_iload_n o 1 dX8_refusesBack_1 rfl ?_
  refine v_cVi o [.int p1] [] (fun sz => metX8_isLoaf l G P f sz a ha p1 _ h) (cwX8_104 o.1.2.2.2.2 (by decide)) ⟨_, _, rfl⟩ (by decide) (wfModel_o ha) rfl (Nat.le_of_ble_eq_true rfl) ⟨Nat.zero_le _, Nat.zero_le _⟩ dX8_refusesBack_2 rfl (fun r2 g2 h => ?_)
  refine v_if_ne o (tgt := 12) dX8_refusesBack_5 (by decide) (fun c5 => ?_) (fun c5 => ?_)
  · replace h := h.1 c5
    refine v_aload_n o 0 dX8_refusesBack_12 rfl ?_
    refine v_iload_n o 1 dX8_refusesBack_13 rfl ?_
    refine v_iconst o (v := 1) dX8_refusesBack_14 (by decide) ?_
    refine v_cVi o [.int p1, .int 1] [] (fun sz => metX8_of l G P g2 sz a ha p1 1 _ h) (cwX8_51 o.1.2.2.2.2 (by decide)) ⟨_, _, rfl⟩ (by decide) (wfModel_o ha) rfl (Nat.le_of_ble_eq_true rfl) ⟨Nat.zero_le _, Nat.zero_le _⟩ dX8_refusesBack_15 rfl (fun r15 g15 h => ?_)
    refine v_if_ne o (tgt := 26) dX8_refusesBack_18 (by decide) (fun c18 => ?_) (fun c18 => ?_)
    · replace h := h.1 c18
      refine v_iconst o (v := 0) dX8_refusesBack_26 (by decide) ?_
      exact v_iret o rfl hr dX8_refusesBack_27 h
    · replace h := h.2 c18
      refine v_bipush o (v := 6) dX8_refusesBack_21 (by decide) ?_
      refine v_goto o (tgt := 27) dX8_refusesBack_23 (by decide) ?_
      exact v_iret o rfl hr dX8_refusesBack_27 h
  · replace h := h.2 c5
    refine v_iconst o (v := 3) dX8_refusesBack_8 (by decide) ?_
    refine v_goto o (tgt := 27) dX8_refusesBack_9 (by decide) ?_
    exact v_iret o rfl hr dX8_refusesBack_27 h
abbrev kX8_refusesBack := @vX8_refusesBack
abbrev metX8_refusesBack := @mX8_refusesBack

def vX8_sign (P : Sk) (f : St) (a : Nat) (K : Int32 → St → Prop) : Prop :=
  (f a 7 ≤ f a 18 → K 0 f) ∧ (¬ f a 7 ≤ f a 18 → vp_in (f a 18) 60 ∧ (K (f (a + 4) (f a 18).toNatClampNeg) f))
set_option maxRecDepth 20000 in
set_option maxHeartbeats 4000000 in
theorem mX8_sign (l : Launch) (G : Gl) (P : Sk) (f : St) (sz : Nat) (a : Nat) (ha : IsModel P a) (K : Int32 → St → Prop) (h : vX8_sign P f a K)  :
  Met l yX8_sign (wU yX8_sign cX8_sign 1 (some .int)) rmX8_sign (PcW G P f sz [.ref a]) (QcI G P sz K) 0 0 (frA P sz) := by
  refine v_met (own := RX8) [.ref a] (by decide +kernel) rfl (Nat.le_of_ble_eq_true rfl) (fun p e s m args below meth c hsz o hr hnm => ?_)
  refine v_lv (lv2 := [(0, .ref a)]) rfl ?_
  unfold vX8_sign at h
  refine v_aload_n o 0 dX8_sign_0 rfl ?_
  refine v_gfI o lkX8_152 (by decide) (wfModel_o ha) dX8_sign_1 ?_
  refine v_aload_n o 0 dX8_sign_4 rfl ?_
  refine v_gfI o lkX8_133 (by decide) (wfModel_o ha) dX8_sign_5 ?_
  refine v_icmp_ge o (tgt := 23) dX8_sign_8 (by decide) (fun c8 => ?_) (fun c8 => ?_)
  · replace h := h.1 c8
    refine v_iconst o (v := 0) dX8_sign_23 (by decide) ?_
    exact v_iret o rfl hr dX8_sign_24 h
  · replace h := h.2 c8
    refine v_aload_n o 0 dX8_sign_11 rfl ?_
    refine v_gfR o lkX8_19 (by decide) (wfModel_o ha) (wfModel_r6 ha) dX8_sign_12 ?_
    refine v_aload_n o 0 dX8_sign_15 rfl ?_
    refine v_gfI o lkX8_152 (by decide) (wfModel_o ha) dX8_sign_16 ?_
    refine v_iald o (wfModel_t6 ha) (wfModel_n6 ha) h.1 dX8_sign_19 ?_
    replace h := h.2
    refine v_goto o (tgt := 24) dX8_sign_20 (by decide) ?_
    exact v_iret o rfl hr dX8_sign_24 h
abbrev kX8_sign := @vX8_sign
abbrev metX8_sign := @mX8_sign

def jX8_reads_52 (P : Sk) (a : Nat) (p1 : Int32) (p2 : Int32) (K : Int32 → St → Prop) (x3 : Int32) (y1 : Int32) (y2 : Int32) (f : St) : Prop :=
  ∀ g53 : St, g53 = setf f a 18 (y1 + y2) → K x3 g53
def jX8_reads_25 (P : Sk) (a : Nat) (p1 : Int32) (p2 : Int32) (K : Int32 → St → Prop) (y1 : Int32) (f : St) : Prop :=
  (y1 = 0 ∨ y1 = 1) ∧ (∀ g25 : St, g25 = setf f a 19 y1 → kX8_sign P g25 a (fun r29 g29 => ∀ x3_34 : Int32, x3_34 = r29 - p1 → (g29 a 19 = 0 → jX8_reads_52 P a p1 p2 K x3_34 (g29 a 18) 0 g29) ∧ (¬ g29 a 19 = 0 → jX8_reads_52 P a p1 p2 K x3_34 (g29 a 18) 1 g29)))
def jX8_reads_24 (P : Sk) (a : Nat) (p1 : Int32) (p2 : Int32) (K : Int32 → St → Prop) (f : St) : Prop :=
  jX8_reads_25 P a p1 p2 K 0 f
def vX8_reads (P : Sk) (f : St) (a : Nat) (p1 : Int32) (p2 : Int32) (K : Int32 → St → Prop) : Prop :=
  (f a 19 = 0 → jX8_reads_24 P a p1 p2 K  f) ∧ (¬ f a 19 = 0 → kX8_sign P f a (fun r9 g9 => kX8_in P g9 r9 p1 p2 (fun r14 g14 => (r14 = 0 → jX8_reads_24 P a p1 p2 K  g14) ∧ (¬ r14 = 0 → jX8_reads_25 P a p1 p2 K 1 g14))))
set_option maxRecDepth 20000 in
set_option maxHeartbeats 4000000 in
theorem mX8_reads (l : Launch) (G : Gl) (P : Sk) (f : St) (sz : Nat) (a : Nat) (ha : IsModel P a) (p1 : Int32) (p2 : Int32) (K : Int32 → St → Prop) (h : vX8_reads P f a p1 p2 K)  :
  Met l yX8_reads (wU yX8_reads cX8_reads 4 (some .int)) rmX8_reads (PcW G P f sz [.ref a, .int p1, .int p2]) (QcI G P sz K) 0 0 (frA P sz) := by
  refine v_met (own := RX8) [.ref a, .int p1, .int p2] (by decide +kernel) rfl (Nat.le_of_ble_eq_true rfl) (fun p e s m args below meth c hsz o hr hnm => ?_)
  refine v_lv (lv2 := [(0, .ref a), (1, .int p1), (2, .int p2)]) rfl ?_
  have J52 : ∀ (x3_52 : Int32) (y1_52 : Int32) (y2_52 : Int32) (g52 : St), jX8_reads_52 P a p1 p2 K x3_52 y1_52 y2_52 g52 → V p l e rmX8_reads s m args below meth c 4 G (frA P sz) (MQ below (QcI G P sz K) args s 0 0 (frA P sz)) 0 0 P [(0, .ref a), (1, .int p1), (2, .int p2), (3, .int x3_52)] [.int y2_52, .int y1_52, .ref a] 52 g52 := by
    intro x3_52 y1_52 y2_52 g52  h
    unfold jX8_reads_52 at h
    refine v_iadd o dX8_reads_52 ?_
    refine v_pf o lpX8_152 (wfModel_o ha) ⟨rfl, rfl⟩ dX8_reads_53 ?_
    refine v_nmf (fun g53 eg53 => ?_)
    replace h := h g53 eg53
    refine v_iload_n o 3 dX8_reads_56 rfl ?_
    exact v_iret o rfl hr dX8_reads_57 h
  have J25 : ∀ (y1_25 : Int32) (g25 : St), jX8_reads_25 P a p1 p2 K y1_25 g25 → V p l e rmX8_reads s m args below meth c 4 G (frA P sz) (MQ below (QcI G P sz K) args s 0 0 (frA P sz)) 0 0 P [(0, .ref a), (1, .int p1), (2, .int p2)] [.int y1_25, .ref a] 25 g25 := by
    intro y1_25 g25  h
    unfold jX8_reads_25 at h
    refine v_pf o lpX8_155 (wfModel_o ha) (bzz h.1) dX8_reads_25 ?_
    replace h := h.2
    refine v_nmf (fun g25 eg25 => ?_)
    replace h := h g25 eg25
    refine v_aload_n o 0 dX8_reads_28 rfl ?_
    refine v_cVi o [] [] (fun sz => metX8_sign l G P g25 sz a ha _ h) (cwX8_159 o.1.2.2.2.2 (by decide)) ⟨_, _, rfl⟩ (by decide) (wfModel_o ha) rfl (Nat.le_of_ble_eq_true rfl) ⟨Nat.zero_le _, Nat.zero_le _⟩ dX8_reads_29 rfl (fun r29 g29 h => ?_)
    refine v_iload_n o 1 dX8_reads_32 rfl ?_
    refine v_isub o dX8_reads_33 ?_
    refine v_topi (fun x3_34 ex3_34 => ?_)
    replace h := h x3_34 ex3_34
    refine v_istore_n o (lv' := [(3, .int x3_34), (0, .ref a), (1, .int p1), (2, .int p2)]) dX8_reads_34 rfl (by decide) rfl ?_
    refine v_aload_n o 1 dX8_reads_35 rfl ?_
    refine v_dup o dX8_reads_36 rfl ?_
    refine v_gfI o lkX8_152 (by decide) (wfModel_o ha) dX8_reads_37 ?_
    refine v_aload_n o 1 dX8_reads_40 rfl ?_
    refine v_gfI o lkX8_155 (by decide) (wfModel_o ha) dX8_reads_41 ?_
    refine v_if_eq o (tgt := 51) dX8_reads_44 (by decide) (fun c44 => ?_) (fun c44 => ?_)
    · replace h := h.1 c44
      refine v_iconst o (v := 0) dX8_reads_51 (by decide) ?_
      refine v_sub [1, 2, 3, 0] (lv2 := [(0, .ref a), (1, .int p1), (2, .int p2), (3, .int x3_34)]) rfl ?_
      exact J52 x3_34 (g29 a 18) 0 g29  h
    · replace h := h.2 c44
      refine v_iconst o (v := 1) dX8_reads_47 (by decide) ?_
      refine v_goto o (tgt := 52) dX8_reads_48 (by decide) ?_
      refine v_sub [1, 2, 3, 0] (lv2 := [(0, .ref a), (1, .int p1), (2, .int p2), (3, .int x3_34)]) rfl ?_
      exact J52 x3_34 (g29 a 18) 1 g29  h
  have J24 : ∀ (g24 : St), jX8_reads_24 P a p1 p2 K  g24 → V p l e rmX8_reads s m args below meth c 4 G (frA P sz) (MQ below (QcI G P sz K) args s 0 0 (frA P sz)) 0 0 P [(0, .ref a), (1, .int p1), (2, .int p2)] [.ref a] 24 g24 := by
    intro  g24  h
    unfold jX8_reads_24 at h
    refine v_iconst o (v := 0) dX8_reads_24 (by decide) ?_
    refine v_sub [0, 1, 2] (lv2 := [(0, .ref a), (1, .int p1), (2, .int p2)]) rfl ?_
    exact J25 0 g24  h
  unfold vX8_reads at h
  refine v_aload_n o 0 dX8_reads_0 rfl ?_
  refine v_aload_n o 0 dX8_reads_1 rfl ?_
  refine v_gfI o lkX8_155 (by decide) (wfModel_o ha) dX8_reads_2 ?_
  refine v_if_eq o (tgt := 24) dX8_reads_5 (by decide) (fun c5 => ?_) (fun c5 => ?_)
  · replace h := h.1 c5
    refine v_sub [0, 1, 2] (lv2 := [(0, .ref a), (1, .int p1), (2, .int p2)]) rfl ?_
    exact J24  f  h
  · replace h := h.2 c5
    refine v_aload_n o 0 dX8_reads_8 rfl ?_
    refine v_cVi o [] [.ref a] (fun sz => metX8_sign l G P f sz a ha _ h) (cwX8_159 o.1.2.2.2.2 (by decide)) ⟨_, _, rfl⟩ (by decide) (wfModel_o ha) rfl (Nat.le_of_ble_eq_true rfl) ⟨Nat.zero_le _, Nat.zero_le _⟩ dX8_reads_9 rfl (fun r9 g9 h => ?_)
    refine v_iload_n o 1 dX8_reads_12 rfl ?_
    refine v_iload_n o 2 dX8_reads_13 rfl ?_
    refine v_cSi o [.int r9, .int p1, .int p2] [.ref a] (fun sz => metX8_in l G P g9 sz r9 p1 p2 _ h) (cwX8_44 o.1.2.2.2.2 (by decide)) rfl (Nat.le_of_ble_eq_true rfl) ⟨Nat.zero_le _, Nat.zero_le _⟩ dX8_reads_14 rfl (fun r14 g14 h => ?_)
    refine v_if_eq o (tgt := 24) dX8_reads_17 (by decide) (fun c17 => ?_) (fun c17 => ?_)
    · replace h := h.1 c17
      refine v_sub [0, 1, 2] (lv2 := [(0, .ref a), (1, .int p1), (2, .int p2)]) rfl ?_
      exact J24  g14  h
    · replace h := h.2 c17
      refine v_iconst o (v := 1) dX8_reads_20 (by decide) ?_
      refine v_goto o (tgt := 25) dX8_reads_21 (by decide) ?_
      refine v_sub [0, 1, 2] (lv2 := [(0, .ref a), (1, .int p1), (2, .int p2)]) rfl ?_
      exact J25 1 g14  h
abbrev kX8_reads := @vX8_reads
abbrev metX8_reads := @mX8_reads

def jX8_readsSide_66 (P : Sk) (a : Nat) (K : Int32 → St → Prop) (x1 : Int32) (y1 : Int32) (y2 : Int32) (f : St) : Prop :=
  ∀ g67 : St, g67 = setf f a 18 (y1 + y2) → K x1 g67
def jX8_readsSide_46 (P : Sk) (a : Nat) (K : Int32 → St → Prop) (x1 : Int32) (y1 : Int32) (f : St) : Prop :=
  (y1 = 0 ∨ y1 = 1) ∧ (∀ g46 : St, g46 = setf f a 19 y1 → (g46 a 19 = 0 → jX8_readsSide_66 P a K x1 (g46 a 18) 0 g46) ∧ (¬ g46 a 19 = 0 → jX8_readsSide_66 P a K x1 (g46 a 18) 1 g46))
def jX8_readsSide_45 (P : Sk) (a : Nat) (K : Int32 → St → Prop) (x1 : Int32) (f : St) : Prop :=
  jX8_readsSide_46 P a K x1 0 f
def jX8_readsSide_41 (P : Sk) (a : Nat) (K : Int32 → St → Prop) (x1 : Int32) (f : St) : Prop :=
  jX8_readsSide_46 P a K x1 1 f
def jX8_readsSide_14 (P : Sk) (a : Nat) (K : Int32 → St → Prop) (y0 : Int32) (f : St) : Prop :=
  (f a 19 = 0 → jX8_readsSide_45 P a K y0 f) ∧ (¬ f a 19 = 0 → kX8_sign P f a (fun r24 g24 => (r24 = 43 → jX8_readsSide_41 P a K y0 g24) ∧ (¬ r24 = 43 → kX8_sign P g24 a (fun r33 g33 => (¬ r33 = 45 → jX8_readsSide_45 P a K y0 g33) ∧ (r33 = 45 → jX8_readsSide_41 P a K y0 g33)))))
def vX8_readsSide (P : Sk) (f : St) (a : Nat) (K : Int32 → St → Prop) : Prop :=
  kX8_sign P f a (fun r1 g1 => (¬ r1 = 43 → jX8_readsSide_14 P a K 0 g1) ∧ (r1 = 43 → jX8_readsSide_14 P a K 1 g1))
set_option maxRecDepth 20000 in
set_option maxHeartbeats 4000000 in
theorem mX8_readsSide (l : Launch) (G : Gl) (P : Sk) (f : St) (sz : Nat) (a : Nat) (ha : IsModel P a) (K : Int32 → St → Prop) (h : vX8_readsSide P f a K)  :
  Met l yX8_readsSide (wU yX8_readsSide cX8_readsSide 2 (some .int)) rmX8_readsSide (PcW G P f sz [.ref a]) (QcI G P sz K) 0 0 (frA P sz) := by
  refine v_met (own := RX8) [.ref a] (by decide +kernel) rfl (Nat.le_of_ble_eq_true rfl) (fun p e s m args below meth c hsz o hr hnm => ?_)
  refine v_lv (lv2 := [(0, .ref a)]) rfl ?_
  have J66 : ∀ (x1_66 : Int32) (y1_66 : Int32) (y2_66 : Int32) (g66 : St), jX8_readsSide_66 P a K x1_66 y1_66 y2_66 g66 → V p l e rmX8_readsSide s m args below meth c 2 G (frA P sz) (MQ below (QcI G P sz K) args s 0 0 (frA P sz)) 0 0 P [(0, .ref a), (1, .int x1_66)] [.int y2_66, .int y1_66, .ref a] 66 g66 := by
    intro x1_66 y1_66 y2_66 g66  h
    unfold jX8_readsSide_66 at h
    refine v_iadd o dX8_readsSide_66 ?_
    refine v_pf o lpX8_152 (wfModel_o ha) ⟨rfl, rfl⟩ dX8_readsSide_67 ?_
    refine v_nmf (fun g67 eg67 => ?_)
    replace h := h g67 eg67
    refine v_iload_n o 1 dX8_readsSide_70 rfl ?_
    exact v_iret o rfl hr dX8_readsSide_71 h
  have J46 : ∀ (x1_46 : Int32) (y1_46 : Int32) (g46 : St), jX8_readsSide_46 P a K x1_46 y1_46 g46 → V p l e rmX8_readsSide s m args below meth c 2 G (frA P sz) (MQ below (QcI G P sz K) args s 0 0 (frA P sz)) 0 0 P [(0, .ref a), (1, .int x1_46)] [.int y1_46, .ref a] 46 g46 := by
    intro x1_46 y1_46 g46  h
    unfold jX8_readsSide_46 at h
    refine v_pf o lpX8_155 (wfModel_o ha) (bzz h.1) dX8_readsSide_46 ?_
    replace h := h.2
    refine v_nmf (fun g46 eg46 => ?_)
    replace h := h g46 eg46
    refine v_aload_n o 0 dX8_readsSide_49 rfl ?_
    refine v_dup o dX8_readsSide_50 rfl ?_
    refine v_gfI o lkX8_152 (by decide) (wfModel_o ha) dX8_readsSide_51 ?_
    refine v_aload_n o 0 dX8_readsSide_54 rfl ?_
    refine v_gfI o lkX8_155 (by decide) (wfModel_o ha) dX8_readsSide_55 ?_
    refine v_if_eq o (tgt := 65) dX8_readsSide_58 (by decide) (fun c58 => ?_) (fun c58 => ?_)
    · replace h := h.1 c58
      refine v_iconst o (v := 0) dX8_readsSide_65 (by decide) ?_
      refine v_sub [0, 1] (lv2 := [(0, .ref a), (1, .int x1_46)]) rfl ?_
      exact J66 x1_46 (g46 a 18) 0 g46  h
    · replace h := h.2 c58
      refine v_iconst o (v := 1) dX8_readsSide_61 (by decide) ?_
      refine v_goto o (tgt := 66) dX8_readsSide_62 (by decide) ?_
      refine v_sub [0, 1] (lv2 := [(0, .ref a), (1, .int x1_46)]) rfl ?_
      exact J66 x1_46 (g46 a 18) 1 g46  h
  have J45 : ∀ (x1_45 : Int32) (g45 : St), jX8_readsSide_45 P a K x1_45 g45 → V p l e rmX8_readsSide s m args below meth c 2 G (frA P sz) (MQ below (QcI G P sz K) args s 0 0 (frA P sz)) 0 0 P [(0, .ref a), (1, .int x1_45)] [.ref a] 45 g45 := by
    intro x1_45 g45  h
    unfold jX8_readsSide_45 at h
    refine v_iconst o (v := 0) dX8_readsSide_45 (by decide) ?_
    refine v_sub [0, 1] (lv2 := [(0, .ref a), (1, .int x1_45)]) rfl ?_
    exact J46 x1_45 0 g45  h
  have J41 : ∀ (x1_41 : Int32) (g41 : St), jX8_readsSide_41 P a K x1_41 g41 → V p l e rmX8_readsSide s m args below meth c 2 G (frA P sz) (MQ below (QcI G P sz K) args s 0 0 (frA P sz)) 0 0 P [(0, .ref a), (1, .int x1_41)] [.ref a] 41 g41 := by
    intro x1_41 g41  h
    unfold jX8_readsSide_41 at h
    refine v_iconst o (v := 1) dX8_readsSide_41 (by decide) ?_
    refine v_goto o (tgt := 46) dX8_readsSide_42 (by decide) ?_
    refine v_sub [0, 1] (lv2 := [(0, .ref a), (1, .int x1_41)]) rfl ?_
    exact J46 x1_41 1 g41  h
  have J14 : ∀ (y0_14 : Int32) (g14 : St), jX8_readsSide_14 P a K y0_14 g14 → V p l e rmX8_readsSide s m args below meth c 2 G (frA P sz) (MQ below (QcI G P sz K) args s 0 0 (frA P sz)) 0 0 P [(0, .ref a)] [.int y0_14] 14 g14 := by
    intro y0_14 g14  h
    unfold jX8_readsSide_14 at h
    refine v_istore_n o (lv' := [(1, .int y0_14), (0, .ref a)]) dX8_readsSide_14 rfl (by decide) rfl ?_
    refine v_aload_n o 1 dX8_readsSide_15 rfl ?_
    refine v_aload_n o 1 dX8_readsSide_16 rfl ?_
    refine v_gfI o lkX8_155 (by decide) (wfModel_o ha) dX8_readsSide_17 ?_
    refine v_if_eq o (tgt := 45) dX8_readsSide_20 (by decide) (fun c20 => ?_) (fun c20 => ?_)
    · replace h := h.1 c20
      refine v_sub [1, 0] (lv2 := [(0, .ref a), (1, .int y0_14)]) rfl ?_
      exact J45 y0_14 g14  h
    · replace h := h.2 c20
      refine v_aload_n o 1 dX8_readsSide_23 rfl ?_
      refine v_cVi o [] [.ref a] (fun sz => metX8_sign l G P g14 sz a ha _ h) (cwX8_159 o.1.2.2.2.2 (by decide)) ⟨_, _, rfl⟩ (by decide) (wfModel_o ha) rfl (Nat.le_of_ble_eq_true rfl) ⟨Nat.zero_le _, Nat.zero_le _⟩ dX8_readsSide_24 rfl (fun r24 g24 h => ?_)
      refine v_bipush o (v := 43) dX8_readsSide_27 (by decide) ?_
      refine v_icmp_eq o (tgt := 41) dX8_readsSide_29 (by decide) (fun c29 => ?_) (fun c29 => ?_)
      · replace h := h.1 c29
        refine v_sub [1, 0] (lv2 := [(0, .ref a), (1, .int y0_14)]) rfl ?_
        exact J41 y0_14 g24  h
      · replace h := h.2 c29
        refine v_aload_n o 1 dX8_readsSide_32 rfl ?_
        refine v_cVi o [] [.ref a] (fun sz => metX8_sign l G P g24 sz a ha _ h) (cwX8_159 o.1.2.2.2.2 (by decide)) ⟨_, _, rfl⟩ (by decide) (wfModel_o ha) rfl (Nat.le_of_ble_eq_true rfl) ⟨Nat.zero_le _, Nat.zero_le _⟩ dX8_readsSide_33 rfl (fun r33 g33 h => ?_)
        refine v_bipush o (v := 45) dX8_readsSide_36 (by decide) ?_
        refine v_icmp_ne o (tgt := 45) dX8_readsSide_38 (by decide) (fun c38 => ?_) (fun c38 => ?_)
        · replace h := h.1 c38
          refine v_sub [1, 0] (lv2 := [(0, .ref a), (1, .int y0_14)]) rfl ?_
          exact J45 y0_14 g33  h
        · replace h := h.2 c38
          refine v_sub [1, 0] (lv2 := [(0, .ref a), (1, .int y0_14)]) rfl ?_
          exact J41 y0_14 g33  h
  unfold vX8_readsSide at h
  refine v_aload_n o 0 dX8_readsSide_0 rfl ?_
  refine v_cVi o [] [] (fun sz => metX8_sign l G P f sz a ha _ h) (cwX8_159 o.1.2.2.2.2 (by decide)) ⟨_, _, rfl⟩ (by decide) (wfModel_o ha) rfl (Nat.le_of_ble_eq_true rfl) ⟨Nat.zero_le _, Nat.zero_le _⟩ dX8_readsSide_1 rfl (fun r1 g1 h => ?_)
  refine v_bipush o (v := 43) dX8_readsSide_4 (by decide) ?_
  refine v_icmp_ne o (tgt := 13) dX8_readsSide_6 (by decide) (fun c6 => ?_) (fun c6 => ?_)
  · replace h := h.1 c6
    refine v_iconst o (v := 0) dX8_readsSide_13 (by decide) ?_
    refine v_sub [0] (lv2 := [(0, .ref a)]) rfl ?_
    exact J14 0 g1  h
  · replace h := h.2 c6
    refine v_iconst o (v := 1) dX8_readsSide_9 (by decide) ?_
    refine v_goto o (tgt := 14) dX8_readsSide_10 (by decide) ?_
    refine v_sub [0] (lv2 := [(0, .ref a)]) rfl ?_
    exact J14 1 g1  h
abbrev kX8_readsSide := @vX8_readsSide
abbrev metX8_readsSide := @mX8_readsSide

def jX8_readsLoaf_129 (P : Sk) (a : Nat) (L38 : St → Prop) (K : Int32 → St → Prop) (f : St) : Prop :=
  (f a 19 = 0 ∨ f a 19 = 1) ∧ K (f a 19) f
def jX8_readsLoaf_126 (P : Sk) (a : Nat) (L38 : St → Prop) (K : Int32 → St → Prop) (x1 : Int32) (x2 : Int32) (f : St) : Prop :=
  L38 f
def jX8_readsLoaf_71 (P : Sk) (a : Nat) (L38 : St → Prop) (K : Int32 → St → Prop) (y1 : Int32) (f : St) : Prop :=
  (y1 = 0 ∨ y1 = 1) ∧ (∀ g71 : St, g71 = setf f a 19 y1 → kX8_reads P g71 a 97 ((97 + (g71 a 10)) - 2) (fun r86 g86 => kX8_readsSide P g86 a (fun r91 g91 => (g91 a 19 = 0 → jX8_readsLoaf_126 P a L38 K r86 r91 g91) ∧ (¬ g91 a 19 = 0 → vp_in (g91 a 9) 50 ∧ (∀ g115 : St, g115 = setf g91 (a + 5) (g91 a 9).toNatClampNeg ((2 * r86) + r91) → ∀ g123 : St, g123 = setf g115 a 9 ((g115 a 9) + 1) → jX8_readsLoaf_126 P a L38 K r86 r91 g123)))))
def bX8_readsLoaf_38 (P : Sk) (a : Nat) (L38 : St → Prop) (K : Int32 → St → Prop) (f : St) : Prop :=
  (f a 19 = 0 → jX8_readsLoaf_129 P a L38 K  f) ∧ (¬ f a 19 = 0 → (f a 7 ≤ f a 18 → jX8_readsLoaf_129 P a L38 K  f) ∧ (¬ f a 7 ≤ f a 18 → (24 ≤ f a 9 → jX8_readsLoaf_71 P a L38 K 0 f) ∧ (¬ 24 ≤ f a 9 → jX8_readsLoaf_71 P a L38 K 1 f)))
def vX8_readsLoaf (P : Sk) (f : St) (a : Nat) (L38 : St → Prop) (K : Int32 → St → Prop) : Prop :=
  ∀ g2 : St, g2 = setf f a 18 0 → ∀ g7 : St, g7 = setf g2 a 19 1 → kX8_reads P g7 a 50 55 (fun r17 g17 => ∀ g21 : St, g21 = setf g17 a 10 (2 + r17) → kX8_reads P g21 a 58 58 (fun r29 g29 => ∀ g35 : St, g35 = setf g29 a 9 0 → L38 g35))
set_option maxRecDepth 20000 in
set_option maxHeartbeats 4000000 in
theorem mX8_readsLoaf (l : Launch) (G : Gl) (P : Sk) (f : St) (sz : Nat) (a : Nat) (ha : IsModel P a) (K : Int32 → St → Prop) (I38 : St → Prop) (μ38 : St → Nat) 
  (h : vX8_readsLoaf P f a I38 K)
  (h38 : ∀ (g : St) , I38 g  → bX8_readsLoaf_38 P a (fun g'  => I38 g'  ∧ μ38 g'  < μ38 g ) K g ) :
  Met l yX8_readsLoaf (wU yX8_readsLoaf cX8_readsLoaf 3 (some .boolean)) rmX8_readsLoaf (PcW G P f sz [.ref a]) (QcI G P sz K) 0 0 (frA P sz) := by
  refine v_met (own := RX8) [.ref a] (by decide +kernel) rfl (Nat.le_of_ble_eq_true rfl) (fun p e s m args below meth c hsz o hr hnm => ?_)
  refine v_lv (lv2 := [(0, .ref a)]) rfl ?_
  have main : ∀ n : Nat, (∀ (g : St) , I38 g  → μ38 g  < n → V p l e rmX8_readsLoaf s m args below meth c 3 G (frA P sz) (MQ below (QcI G P sz K) args s 0 0 (frA P sz)) 0 0 P [(0, .ref a)] [] 38 g) := by
    intro n
    induction n with
    | zero => exact fun g  hI hm => absurd hm (Nat.not_lt_zero _)
    | succ n ih =>
      intro g  hI hm
      have h := h38 g  hI
      clear hI
      have J129 : ∀ (g129 : St), jX8_readsLoaf_129 P a (fun g'  => I38 g'  ∧ μ38 g'  < μ38 g ) K  g129 → V p l e rmX8_readsLoaf s m args below meth c 3 G (frA P sz) (MQ below (QcI G P sz K) args s 0 0 (frA P sz)) 0 0 P [(0, .ref a)] [] 129 g129 := by
        intro  g129  h
        unfold jX8_readsLoaf_129 at h
        refine v_aload_n o 0 dX8_readsLoaf_129 rfl ?_
        refine v_gfI o lkX8_155 (by decide) (wfModel_o ha) dX8_readsLoaf_130 ?_
        exact v_zret o rfl hr (bzz h.1).1 dX8_readsLoaf_133 h.2
      have J126 : ∀ (x1_126 : Int32) (x2_126 : Int32) (g126 : St), jX8_readsLoaf_126 P a (fun g'  => I38 g'  ∧ μ38 g'  < μ38 g ) K x1_126 x2_126 g126 → V p l e rmX8_readsLoaf s m args below meth c 3 G (frA P sz) (MQ below (QcI G P sz K) args s 0 0 (frA P sz)) 0 0 P [(0, .ref a), (1, .int x1_126), (2, .int x2_126)] [] 126 g126 := by
        intro x1_126 x2_126 g126  h
        unfold jX8_readsLoaf_126 at h
        refine v_goto o (tgt := 38) dX8_readsLoaf_126 (by decide) ?_
        refine v_sub [0] (lv2 := [(0, .ref a)]) rfl ?_
        exact ih g126   h.1 (by have := h.2; omega)
      have J71 : ∀ (y1_71 : Int32) (g71 : St), jX8_readsLoaf_71 P a (fun g'  => I38 g'  ∧ μ38 g'  < μ38 g ) K y1_71 g71 → V p l e rmX8_readsLoaf s m args below meth c 3 G (frA P sz) (MQ below (QcI G P sz K) args s 0 0 (frA P sz)) 0 0 P [(0, .ref a)] [.int y1_71, .ref a] 71 g71 := by
        intro y1_71 g71  h
        unfold jX8_readsLoaf_71 at h
        refine v_pf o lpX8_155 (wfModel_o ha) (bzz h.1) dX8_readsLoaf_71 ?_
        replace h := h.2
        refine v_nmf (fun g71 eg71 => ?_)
        replace h := h g71 eg71
        refine v_aload_n o 0 dX8_readsLoaf_74 rfl ?_
        refine v_bipush o (v := 97) dX8_readsLoaf_75 (by decide) ?_
        refine v_bipush o (v := 97) dX8_readsLoaf_77 (by decide) ?_
        refine v_aload_n o 0 dX8_readsLoaf_79 rfl ?_
        refine v_gfI o lkX8_55 (by decide) (wfModel_o ha) dX8_readsLoaf_80 ?_
        refine v_iadd o dX8_readsLoaf_83 ?_
        refine v_iconst o (v := 2) dX8_readsLoaf_84 (by decide) ?_
        refine v_isub o dX8_readsLoaf_85 ?_
        refine v_cVi o [.int 97, .int ((97 + (g71 a 10)) - 2)] [] (fun sz => metX8_reads l G P g71 sz a ha 97 ((97 + (g71 a 10)) - 2) _ h) (cwX8_162 o.1.2.2.2.2 (by decide)) ⟨_, _, rfl⟩ (by decide) (wfModel_o ha) rfl (Nat.le_of_ble_eq_true rfl) ⟨Nat.zero_le _, Nat.zero_le _⟩ dX8_readsLoaf_86 rfl (fun r86 g86 h => ?_)
        refine v_istore_n o (lv' := [(1, .int r86), (0, .ref a)]) dX8_readsLoaf_89 rfl (by decide) rfl ?_
        refine v_aload_n o 1 dX8_readsLoaf_90 rfl ?_
        refine v_cVi o [] [] (fun sz => metX8_readsSide l G P g86 sz a ha _ h) (cwX8_165 o.1.2.2.2.2 (by decide)) ⟨_, _, rfl⟩ (by decide) (wfModel_o ha) rfl (Nat.le_of_ble_eq_true rfl) ⟨Nat.zero_le _, Nat.zero_le _⟩ dX8_readsLoaf_91 rfl (fun r91 g91 h => ?_)
        refine v_istore_n o (lv' := [(2, .int r91), (1, .int r86), (0, .ref a)]) dX8_readsLoaf_94 rfl (by decide) rfl ?_
        refine v_aload_n o 2 dX8_readsLoaf_95 rfl ?_
        refine v_gfI o lkX8_155 (by decide) (wfModel_o ha) dX8_readsLoaf_96 ?_
        refine v_if_eq o (tgt := 126) dX8_readsLoaf_99 (by decide) (fun c99 => ?_) (fun c99 => ?_)
        · replace h := h.1 c99
          refine v_sub [2, 1, 0] (lv2 := [(0, .ref a), (1, .int r86), (2, .int r91)]) rfl ?_
          exact J126 r86 r91 g91  h
        · replace h := h.2 c99
          refine v_aload_n o 2 dX8_readsLoaf_102 rfl ?_
          refine v_gfR o lkX8_22 (by decide) (wfModel_o ha) (wfModel_r8 ha) dX8_readsLoaf_103 ?_
          refine v_aload_n o 2 dX8_readsLoaf_106 rfl ?_
          refine v_gfI o lkX8_58 (by decide) (wfModel_o ha) dX8_readsLoaf_107 ?_
          refine v_iconst o (v := 2) dX8_readsLoaf_110 (by decide) ?_
          refine v_iload_n o 1 dX8_readsLoaf_111 rfl ?_
          refine v_imul o dX8_readsLoaf_112 ?_
          refine v_iload_n o 0 dX8_readsLoaf_113 rfl ?_
          refine v_iadd o dX8_readsLoaf_114 ?_
          refine v_iast o (wfModel_t8 ha) (wfModel_n8 ha) h.1 dX8_readsLoaf_115 ?_
          replace h := h.2
          refine v_nmf (fun g115 eg115 => ?_)
          replace h := h g115 eg115
          refine v_aload_n o 2 dX8_readsLoaf_116 rfl ?_
          refine v_dup o dX8_readsLoaf_117 rfl ?_
          refine v_gfI o lkX8_58 (by decide) (wfModel_o ha) dX8_readsLoaf_118 ?_
          refine v_iconst o (v := 1) dX8_readsLoaf_121 (by decide) ?_
          refine v_iadd o dX8_readsLoaf_122 ?_
          refine v_pf o lpX8_58 (wfModel_o ha) ⟨rfl, rfl⟩ dX8_readsLoaf_123 ?_
          refine v_nmf (fun g123 eg123 => ?_)
          replace h := h g123 eg123
          refine v_sub [2, 1, 0] (lv2 := [(0, .ref a), (1, .int r86), (2, .int r91)]) rfl ?_
          exact J126 r86 r91 g123  h
      unfold bX8_readsLoaf_38 at h
      refine v_aload_n o 0 dX8_readsLoaf_38 rfl ?_
      refine v_gfI o lkX8_155 (by decide) (wfModel_o ha) dX8_readsLoaf_39 ?_
      refine v_if_eq o (tgt := 129) dX8_readsLoaf_42 (by decide) (fun c42 => ?_) (fun c42 => ?_)
      · replace h := h.1 c42
        refine v_sub [0] (lv2 := [(0, .ref a)]) rfl ?_
        exact J129  g  h
      · replace h := h.2 c42
        refine v_aload_n o 0 dX8_readsLoaf_45 rfl ?_
        refine v_gfI o lkX8_152 (by decide) (wfModel_o ha) dX8_readsLoaf_46 ?_
        refine v_aload_n o 0 dX8_readsLoaf_49 rfl ?_
        refine v_gfI o lkX8_133 (by decide) (wfModel_o ha) dX8_readsLoaf_50 ?_
        refine v_icmp_ge o (tgt := 129) dX8_readsLoaf_53 (by decide) (fun c53 => ?_) (fun c53 => ?_)
        · replace h := h.1 c53
          refine v_sub [0] (lv2 := [(0, .ref a)]) rfl ?_
          exact J129  g  h
        · replace h := h.2 c53
          refine v_aload_n o 0 dX8_readsLoaf_56 rfl ?_
          refine v_aload_n o 0 dX8_readsLoaf_57 rfl ?_
          refine v_gfI o lkX8_58 (by decide) (wfModel_o ha) dX8_readsLoaf_58 ?_
          refine v_bipush o (v := 24) dX8_readsLoaf_61 (by decide) ?_
          refine v_icmp_ge o (tgt := 70) dX8_readsLoaf_63 (by decide) (fun c63 => ?_) (fun c63 => ?_)
          · replace h := h.1 c63
            refine v_iconst o (v := 0) dX8_readsLoaf_70 (by decide) ?_
            refine v_sub [0] (lv2 := [(0, .ref a)]) rfl ?_
            exact J71 0 g  h
          · replace h := h.2 c63
            refine v_iconst o (v := 1) dX8_readsLoaf_66 (by decide) ?_
            refine v_goto o (tgt := 71) dX8_readsLoaf_67 (by decide) ?_
            refine v_sub [0] (lv2 := [(0, .ref a)]) rfl ?_
            exact J71 1 g  h
  unfold vX8_readsLoaf at h
  refine v_aload_n o 0 dX8_readsLoaf_0 rfl ?_
  refine v_iconst o (v := 0) dX8_readsLoaf_1 (by decide) ?_
  refine v_pf o lpX8_152 (wfModel_o ha) ⟨rfl, rfl⟩ dX8_readsLoaf_2 ?_
  refine v_nmf (fun g2 eg2 => ?_)
  replace h := h g2 eg2
  refine v_aload_n o 0 dX8_readsLoaf_5 rfl ?_
  refine v_iconst o (v := 1) dX8_readsLoaf_6 (by decide) ?_
  refine v_pf o lpX8_155 (wfModel_o ha) bz1 dX8_readsLoaf_7 ?_
  refine v_nmf (fun g7 eg7 => ?_)
  replace h := h g7 eg7
  refine v_aload_n o 0 dX8_readsLoaf_10 rfl ?_
  refine v_iconst o (v := 2) dX8_readsLoaf_11 (by decide) ?_
  refine v_aload_n o 0 dX8_readsLoaf_12 rfl ?_
  refine v_bipush o (v := 50) dX8_readsLoaf_13 (by decide) ?_
  refine v_bipush o (v := 55) dX8_readsLoaf_15 (by decide) ?_
  refine v_cVi o [.int 50, .int 55] [.int 2, .ref a] (fun sz => metX8_reads l G P g7 sz a ha 50 55 _ h) (cwX8_162 o.1.2.2.2.2 (by decide)) ⟨_, _, rfl⟩ (by decide) (wfModel_o ha) rfl (Nat.le_of_ble_eq_true rfl) ⟨Nat.zero_le _, Nat.zero_le _⟩ dX8_readsLoaf_17 rfl (fun r17 g17 h => ?_)
  refine v_iadd o dX8_readsLoaf_20 ?_
  refine v_pf o lpX8_55 (wfModel_o ha) ⟨rfl, rfl⟩ dX8_readsLoaf_21 ?_
  refine v_nmf (fun g21 eg21 => ?_)
  replace h := h g21 eg21
  refine v_aload_n o 0 dX8_readsLoaf_24 rfl ?_
  refine v_bipush o (v := 58) dX8_readsLoaf_25 (by decide) ?_
  refine v_bipush o (v := 58) dX8_readsLoaf_27 (by decide) ?_
  refine v_cVi o [.int 58, .int 58] [] (fun sz => metX8_reads l G P g21 sz a ha 58 58 _ h) (cwX8_162 o.1.2.2.2.2 (by decide)) ⟨_, _, rfl⟩ (by decide) (wfModel_o ha) rfl (Nat.le_of_ble_eq_true rfl) ⟨Nat.zero_le _, Nat.zero_le _⟩ dX8_readsLoaf_29 rfl (fun r29 g29 h => ?_)
  refine v_pop o dX8_readsLoaf_32 rfl ?_
  refine v_aload_n o 0 dX8_readsLoaf_33 rfl ?_
  refine v_iconst o (v := 0) dX8_readsLoaf_34 (by decide) ?_
  refine v_pf o lpX8_58 (wfModel_o ha) ⟨rfl, rfl⟩ dX8_readsLoaf_35 ?_
  refine v_nmf (fun g35 eg35 => ?_)
  replace h := h g35 eg35
  refine v_sub [0] (lv2 := [(0, .ref a)]) rfl ?_
  exact (main (μ38 g35  + 1)) g35   h (Nat.lt_succ_self _)
def kX8_readsLoaf (P : Sk) (f : St) (a : Nat) (K : Int32 → St → Prop) : Prop := False
theorem metX8_readsLoaf (l : Launch) (G : Gl) (P : Sk) (f : St) (sz : Nat) (a : Nat) (ha : IsModel P a) (K : Int32 → St → Prop) (h : kX8_readsLoaf P f a K) : Met l yX8_readsLoaf (wU yX8_readsLoaf cX8_readsLoaf 3 (some .boolean)) rmX8_readsLoaf (PcW G P f sz [.ref a]) (QcI G P sz K) 0 0 (frA P sz) := sorry

def jX8_lay_36 (P : Sk) (a : Nat) (K : Int32 → St → Prop) (f : St) : Prop :=
  kX8_fails P f a 2 (fun r38 g38 => K r38 g38)
def vX8_lay (P : Sk) (f : St) (a : Nat) (K : Int32 → St → Prop) : Prop :=
  ∀ g2 : St, g2 = setf f a 0 0 → kX8_readsLoaf P g2 a (fun r6 g6 => (¬ r6 = 0 → vp_in 0 160 ∧ ((g6 (a + 1) ((0 : Int32)).toNatClampNeg = 6 → jX8_lay_36 P a K  g6) ∧ (¬ g6 (a + 1) ((0 : Int32)).toNatClampNeg = 6 → kX8_why P g6 a (fun r30 g30 => (r30 = 0 → kX8_records P g30 a (fun g43 => vp_in 0 160 ∧ (kX8_puts P g43 a (g43 (a + 1) ((0 : Int32)).toNatClampNeg) (fun g53 => vp_in 0 160 ∧ (vp_in 0 160 ∧ (∀ g65 : St, g65 = setf g53 (a + 1) ((0 : Int32)).toNatClampNeg ((g53 (a + 1) ((0 : Int32)).toNatClampNeg) + 1) → ∀ g68 : St, g68 = setf g65 a 7 0 → vp_in 0 160 ∧ (K ((g68 (a + 1) ((0 : Int32)).toNatClampNeg) - 1) g68))))))) ∧ (¬ r30 = 0 → jX8_lay_36 P a K  g30))))) ∧ (r6 = 0 → kX8_fails P g6 a 1 (fun r14 g14 => K r14 g14)))
set_option maxRecDepth 20000 in
set_option maxHeartbeats 4000000 in
theorem mX8_lay (l : Launch) (G : Gl) (P : Sk) (f : St) (sz : Nat) (a : Nat) (ha : IsModel P a) (K : Int32 → St → Prop) (h : vX8_lay P f a K)  :
  Met l yX8_lay (wU yX8_lay cX8_lay 1 (some .int)) rmX8_lay (PcW G P f sz [.ref a]) (QcI G P sz K) 0 0 (frA P sz) := by
  refine v_met (own := RX8) [.ref a] (by decide +kernel) rfl (Nat.le_of_ble_eq_true rfl) (fun p e s m args below meth c hsz o hr hnm => ?_)
  refine v_lv (lv2 := [(0, .ref a)]) rfl ?_
  have J36 : ∀ (g36 : St), jX8_lay_36 P a K  g36 → V p l e rmX8_lay s m args below meth c 1 G (frA P sz) (MQ below (QcI G P sz K) args s 0 0 (frA P sz)) 0 0 P [(0, .ref a)] [] 36 g36 := by
    intro  g36  h
    unfold jX8_lay_36 at h
    refine v_aload_n o 0 dX8_lay_36 rfl ?_
    refine v_iconst o (v := 2) dX8_lay_37 (by decide) ?_
    refine v_cVi o [.int 2] [] (fun sz => metX8_fails l G P g36 sz a ha 2 _ h) (cwX8_123 o.1.2.2.2.2 (by decide)) ⟨_, _, rfl⟩ (by decide) (wfModel_o ha) rfl (Nat.le_of_ble_eq_true rfl) ⟨Nat.zero_le _, Nat.zero_le _⟩ dX8_lay_38 rfl (fun r38 g38 h => ?_)
    exact v_iret o rfl hr dX8_lay_41 h
  unfold vX8_lay at h
  refine v_aload_n o 0 dX8_lay_0 rfl ?_
  refine v_iconst o (v := 0) dX8_lay_1 (by decide) ?_
  refine v_pf o lpX8_40 (wfModel_o ha) ⟨rfl, rfl⟩ dX8_lay_2 ?_
  refine v_nmf (fun g2 eg2 => ?_)
  replace h := h g2 eg2
  refine v_aload_n o 0 dX8_lay_5 rfl ?_
  refine v_cVi o [] [] (fun sz => metX8_readsLoaf l G P g2 sz a ha _ h) (cwX8_119 o.1.2.2.2.2 (by decide)) ⟨_, _, rfl⟩ (by decide) (wfModel_o ha) rfl (Nat.le_of_ble_eq_true rfl) ⟨Nat.zero_le _, Nat.zero_le _⟩ dX8_lay_6 rfl (fun r6 g6 h => ?_)
  refine v_if_ne o (tgt := 18) dX8_lay_9 (by decide) (fun c9 => ?_) (fun c9 => ?_)
  · replace h := h.1 c9
    refine v_aload_n o 0 dX8_lay_18 rfl ?_
    refine v_gfR o lkX8_7 (by decide) (wfModel_o ha) (wfModel_r1 ha) dX8_lay_19 ?_
    refine v_iconst o (v := 0) dX8_lay_22 (by decide) ?_
    refine v_iald o (wfModel_t1 ha) (wfModel_n1 ha) h.1 dX8_lay_23 ?_
    replace h := h.2
    refine v_bipush o (v := 6) dX8_lay_24 (by decide) ?_
    refine v_icmp_eq o (tgt := 36) dX8_lay_26 (by decide) (fun c26 => ?_) (fun c26 => ?_)
    · replace h := h.1 c26
      refine v_sub [0] (lv2 := [(0, .ref a)]) rfl ?_
      exact J36  g6  h
    · replace h := h.2 c26
      refine v_aload_n o 0 dX8_lay_29 rfl ?_
      refine v_cVi o [] [] (fun sz => metX8_why l G P g6 sz a ha _ h) (cwX8_110 o.1.2.2.2.2 (by decide)) ⟨_, _, rfl⟩ (by decide) (wfModel_o ha) rfl (Nat.le_of_ble_eq_true rfl) ⟨Nat.zero_le _, Nat.zero_le _⟩ dX8_lay_30 rfl (fun r30 g30 h => ?_)
      refine v_if_eq o (tgt := 42) dX8_lay_33 (by decide) (fun c33 => ?_) (fun c33 => ?_)
      · replace h := h.1 c33
        refine v_aload_n o 0 dX8_lay_42 rfl ?_
        refine v_cVv o [] [] (fun sz => metX8_records l G P g30 sz a ha _ h) (cwX8_127 o.1.2.2.2.2 (by decide)) ⟨_, _, rfl⟩ (by decide) (wfModel_o ha) rfl (Nat.le_of_ble_eq_true rfl) ⟨Nat.zero_le _, Nat.zero_le _⟩ dX8_lay_43 rfl (fun g43 h => ?_)
        refine v_aload_n o 0 dX8_lay_46 rfl ?_
        refine v_aload_n o 0 dX8_lay_47 rfl ?_
        refine v_gfR o lkX8_7 (by decide) (wfModel_o ha) (wfModel_r1 ha) dX8_lay_48 ?_
        refine v_iconst o (v := 0) dX8_lay_51 (by decide) ?_
        refine v_iald o (wfModel_t1 ha) (wfModel_n1 ha) h.1 dX8_lay_52 ?_
        replace h := h.2
        refine v_cVv o [.int (g43 (a + 1) ((0 : Int32)).toNatClampNeg)] [] (fun sz => metX8_puts l G P g43 sz a ha (g43 (a + 1) ((0 : Int32)).toNatClampNeg) _ h) (cwX8_130 o.1.2.2.2.2 (by decide)) ⟨_, _, rfl⟩ (by decide) (wfModel_o ha) rfl (Nat.le_of_ble_eq_true rfl) ⟨Nat.zero_le _, Nat.zero_le _⟩ dX8_lay_53 rfl (fun g53 h => ?_)
        refine v_aload_n o 0 dX8_lay_56 rfl ?_
        refine v_gfR o lkX8_7 (by decide) (wfModel_o ha) (wfModel_r1 ha) dX8_lay_57 ?_
        refine v_iconst o (v := 0) dX8_lay_60 (by decide) ?_
        refine v_dup2 o dX8_lay_61 rfl rfl ?_
        refine v_iald o (wfModel_t1 ha) (wfModel_n1 ha) h.1 dX8_lay_62 ?_
        replace h := h.2
        refine v_iconst o (v := 1) dX8_lay_63 (by decide) ?_
        refine v_iadd o dX8_lay_64 ?_
        refine v_iast o (wfModel_t1 ha) (wfModel_n1 ha) h.1 dX8_lay_65 ?_
        replace h := h.2
        refine v_nmf (fun g65 eg65 => ?_)
        replace h := h g65 eg65
        refine v_aload_n o 0 dX8_lay_66 rfl ?_
        refine v_iconst o (v := 0) dX8_lay_67 (by decide) ?_
        refine v_pf o lpX8_133 (wfModel_o ha) ⟨rfl, rfl⟩ dX8_lay_68 ?_
        refine v_nmf (fun g68 eg68 => ?_)
        replace h := h g68 eg68
        refine v_aload_n o 0 dX8_lay_71 rfl ?_
        refine v_gfR o lkX8_7 (by decide) (wfModel_o ha) (wfModel_r1 ha) dX8_lay_72 ?_
        refine v_iconst o (v := 0) dX8_lay_75 (by decide) ?_
        refine v_iald o (wfModel_t1 ha) (wfModel_n1 ha) h.1 dX8_lay_76 ?_
        replace h := h.2
        refine v_iconst o (v := 1) dX8_lay_77 (by decide) ?_
        refine v_isub o dX8_lay_78 ?_
        exact v_iret o rfl hr dX8_lay_79 h
      · replace h := h.2 c33
        refine v_sub [0] (lv2 := [(0, .ref a)]) rfl ?_
        exact J36  g30  h
  · replace h := h.2 c9
    refine v_aload_n o 0 dX8_lay_12 rfl ?_
    refine v_iconst o (v := 1) dX8_lay_13 (by decide) ?_
    refine v_cVi o [.int 1] [] (fun sz => metX8_fails l G P g6 sz a ha 1 _ h) (cwX8_123 o.1.2.2.2.2 (by decide)) ⟨_, _, rfl⟩ (by decide) (wfModel_o ha) rfl (Nat.le_of_ble_eq_true rfl) ⟨Nat.zero_le _, Nat.zero_le _⟩ dX8_lay_14 rfl (fun r14 g14 h => ?_)
    exact v_iret o rfl hr dX8_lay_17 h
abbrev kX8_lay := @vX8_lay
abbrev metX8_lay := @mX8_lay

def bX8_bake_42 (P : Sk) (a : Nat) (p1 : Int32) (L42 : St → Int32 → Int32 → Prop) (L72 : St → Int32 → Int32 → Prop) (K : Int32 → St → Prop) (f : St) (x2 : Int32) (x3 : Int32) : Prop :=
  vp_in 0 160 ∧ ((f (a + 1) ((0 : Int32)).toNatClampNeg ≤ x3 → L72 f x2 0) ∧ (¬ f (a + 1) ((0 : Int32)).toNatClampNeg ≤ x3 → kX8_takes P f a (x3 + 1) (fun g56 => kX8_puts P g56 a x3 (fun g61 => ∀ x3_64 : Int32, x3_64 = x3 + 1 → L42 g61 x2 x3_64))))
def bX8_bake_72 (P : Sk) (a : Nat) (p1 : Int32) (L42 : St → Int32 → Int32 → Prop) (L72 : St → Int32 → Int32 → Prop) (K : Int32 → St → Prop) (f : St) (x2 : Int32) (x3 : Int32) : Prop :=
  (26 ≤ x3 → K x2 f) ∧ (¬ 26 ≤ x3 → vp_in 0 160 ∧ (kX8_store P f a (f (a + 1) ((0 : Int32)).toNatClampNeg) x3 0 (fun g87 => ∀ x3_90 : Int32, x3_90 = x3 + 1 → L72 g87 x2 x3_90)))
def vX8_bake (P : Sk) (f : St) (a : Nat) (p1 : Int32) (L42 : St → Int32 → Int32 → Prop) (L72 : St → Int32 → Int32 → Prop) (K : Int32 → St → Prop) : Prop :=
  ∀ g2 : St, g2 = setf f a 0 0 → kX8_isLoaf P g2 a p1 (fun r7 g7 => (¬ r7 = 0 → kX8_records P g7 a (fun g20 => kX8_of P g20 a p1 1 (fun r26 g26 => vp_in 0 160 ∧ (vp_in 0 160 ∧ (∀ g39 : St, g39 = setf g26 (a + 1) ((0 : Int32)).toNatClampNeg ((g26 (a + 1) ((0 : Int32)).toNatClampNeg) - 1) → L42 g39 r26 p1))))) ∧ (r7 = 0 → kX8_fails P g7 a 1 (fun r15 g15 => K r15 g15)))
set_option maxRecDepth 20000 in
set_option maxHeartbeats 4000000 in
theorem mX8_bake (l : Launch) (G : Gl) (P : Sk) (f : St) (sz : Nat) (a : Nat) (ha : IsModel P a) (p1 : Int32) (K : Int32 → St → Prop) (I42 : St → Int32 → Int32 → Prop) (μ42 : St → Int32 → Int32 → Nat) (I72 : St → Int32 → Int32 → Prop) (μ72 : St → Int32 → Int32 → Nat) 
  (h : vX8_bake P f a p1 I42 I72 K)
  (h42 : ∀ (g : St) (x2 : Int32) (x3 : Int32) , I42 g x2 x3 → bX8_bake_42 P a p1 (fun g' z0 z1 => I42 g' z0 z1 ∧ μ42 g' z0 z1 < μ42 g x2 x3) (fun g' z0 z1 => I72 g' z0 z1 ∧ μ72 g' z0 z1 < μ42 g x2 x3) K g x2 x3)
  (h72 : ∀ (g : St) (x2 : Int32) (x3 : Int32) , I72 g x2 x3 → bX8_bake_72 P a p1 (fun g' z0 z1 => I42 g' z0 z1 ∧ μ42 g' z0 z1 < μ72 g x2 x3) (fun g' z0 z1 => I72 g' z0 z1 ∧ μ72 g' z0 z1 < μ72 g x2 x3) K g x2 x3) :
  Met l yX8_bake (wU yX8_bake cX8_bake 4 (some .int)) rmX8_bake (PcW G P f sz [.ref a, .int p1]) (QcI G P sz K) 0 0 (frA P sz) := by
  refine v_met (own := RX8) [.ref a, .int p1] (by decide +kernel) rfl (Nat.le_of_ble_eq_true rfl) (fun p e s m args below meth c hsz o hr hnm => ?_)
  refine v_lv (lv2 := [(0, .ref a), (1, .int p1)]) rfl ?_
  have main : ∀ n : Nat, (∀ (g : St) (x2 : Int32) (x3 : Int32) , I42 g x2 x3 → μ42 g x2 x3 < n → V p l e rmX8_bake s m args below meth c 4 G (frA P sz) (MQ below (QcI G P sz K) args s 0 0 (frA P sz)) 0 0 P [(0, .ref a), (1, .int p1), (2, .int x2), (3, .int x3)] [] 42 g) ∧ (∀ (g : St) (x2 : Int32) (x3 : Int32) , I72 g x2 x3 → μ72 g x2 x3 < n → V p l e rmX8_bake s m args below meth c 4 G (frA P sz) (MQ below (QcI G P sz K) args s 0 0 (frA P sz)) 0 0 P [(0, .ref a), (1, .int p1), (2, .int x2), (3, .int x3)] [] 72 g) := by
    intro n
    induction n with
    | zero => exact ⟨fun g x2 x3 hI hm => absurd hm (Nat.not_lt_zero _), fun g x2 x3 hI hm => absurd hm (Nat.not_lt_zero _)⟩
    | succ n ih =>
      refine ⟨?_, ?_⟩
      · intro g x2 x3 hI hm
        have h := h42 g x2 x3 hI
        clear hI
        unfold bX8_bake_42 at h
        refine v_iload_n o 3 dX8_bake_42 rfl ?_
        refine v_aload_n o 0 dX8_bake_43 rfl ?_
        refine v_gfR o lkX8_7 (by decide) (wfModel_o ha) (wfModel_r1 ha) dX8_bake_44 ?_
        refine v_iconst o (v := 0) dX8_bake_47 (by decide) ?_
        refine v_iald o (wfModel_t1 ha) (wfModel_n1 ha) h.1 dX8_bake_48 ?_
        replace h := h.2
        refine v_icmp_ge o (tgt := 70) dX8_bake_49 (by decide) (fun c49 => ?_) (fun c49 => ?_)
        · replace h := h.1 c49
          refine v_iconst o (v := 0) dX8_bake_70 (by decide) ?_
          refine v_istore_n o (lv' := [(3, .int 0), (0, .ref a), (1, .int p1), (2, .int x2)]) dX8_bake_71 rfl (by decide) rfl ?_
          refine v_sub [1, 2, 3, 0] (lv2 := [(0, .ref a), (1, .int p1), (2, .int x2), (3, .int 0)]) rfl ?_
          exact ih.2 g x2 0  h.1 (by have := h.2; omega)
        · replace h := h.2 c49
          refine v_aload_n o 0 dX8_bake_52 rfl ?_
          refine v_iload_n o 3 dX8_bake_53 rfl ?_
          refine v_iconst o (v := 1) dX8_bake_54 (by decide) ?_
          refine v_iadd o dX8_bake_55 ?_
          refine v_cVv o [.int (x3 + 1)] [] (fun sz => metX8_takes l G P g sz a ha (x3 + 1) _ h) (cwX8_107 o.1.2.2.2.2 (by decide)) ⟨_, _, rfl⟩ (by decide) (wfModel_o ha) rfl (Nat.le_of_ble_eq_true rfl) ⟨Nat.zero_le _, Nat.zero_le _⟩ dX8_bake_56 rfl (fun g56 h => ?_)
          refine v_aload_n o 0 dX8_bake_59 rfl ?_
          refine v_iload_n o 3 dX8_bake_60 rfl ?_
          refine v_cVv o [.int x3] [] (fun sz => metX8_puts l G P g56 sz a ha x3 _ h) (cwX8_130 o.1.2.2.2.2 (by decide)) ⟨_, _, rfl⟩ (by decide) (wfModel_o ha) rfl (Nat.le_of_ble_eq_true rfl) ⟨Nat.zero_le _, Nat.zero_le _⟩ dX8_bake_61 rfl (fun g61 h => ?_)
          obtain ⟨x3_64, ex3_64⟩ : ∃ y : Int32, y = x3 + 1 := ⟨_, rfl⟩
          replace h := h x3_64 ex3_64
          refine v_iinc o (v := x3_64) (lv' := [(3, .int x3_64), (0, .ref a), (1, .int p1), (2, .int x2)]) 3 dX8_bake_64 rfl (by rw [ex3_64]; rfl) (by decide) rfl ?_
          refine v_goto o (tgt := 42) dX8_bake_67 (by decide) ?_
          refine v_sub [1, 2, 3, 0] (lv2 := [(0, .ref a), (1, .int p1), (2, .int x2), (3, .int x3_64)]) rfl ?_
          exact ih.1 g61 x2 x3_64  h.1 (by have := h.2; omega)
      · intro g x2 x3 hI hm
        have h := h72 g x2 x3 hI
        clear hI
        unfold bX8_bake_72 at h
        refine v_iload_n o 3 dX8_bake_72 rfl ?_
        refine v_bipush o (v := 26) dX8_bake_73 (by decide) ?_
        refine v_icmp_ge o (tgt := 96) dX8_bake_75 (by decide) (fun c75 => ?_) (fun c75 => ?_)
        · replace h := h.1 c75
          refine v_iload_n o 2 dX8_bake_96 rfl ?_
          exact v_iret o rfl hr dX8_bake_97 h
        · replace h := h.2 c75
          refine v_aload_n o 0 dX8_bake_78 rfl ?_
          refine v_aload_n o 0 dX8_bake_79 rfl ?_
          refine v_gfR o lkX8_7 (by decide) (wfModel_o ha) (wfModel_r1 ha) dX8_bake_80 ?_
          refine v_iconst o (v := 0) dX8_bake_83 (by decide) ?_
          refine v_iald o (wfModel_t1 ha) (wfModel_n1 ha) h.1 dX8_bake_84 ?_
          replace h := h.2
          refine v_iload_n o 3 dX8_bake_85 rfl ?_
          refine v_iconst o (v := 0) dX8_bake_86 (by decide) ?_
          refine v_cVv o [.int (g (a + 1) ((0 : Int32)).toNatClampNeg), .int x3, .int 0] [] (fun sz => metX8_store l G P g sz a ha (g (a + 1) ((0 : Int32)).toNatClampNeg) x3 0 _ h) (cwX8_61 o.1.2.2.2.2 (by decide)) ⟨_, _, rfl⟩ (by decide) (wfModel_o ha) rfl (Nat.le_of_ble_eq_true rfl) ⟨Nat.zero_le _, Nat.zero_le _⟩ dX8_bake_87 rfl (fun g87 h => ?_)
          obtain ⟨x3_90, ex3_90⟩ : ∃ y : Int32, y = x3 + 1 := ⟨_, rfl⟩
          replace h := h x3_90 ex3_90
          refine v_iinc o (v := x3_90) (lv' := [(3, .int x3_90), (0, .ref a), (1, .int p1), (2, .int x2)]) 3 dX8_bake_90 rfl (by rw [ex3_90]; rfl) (by decide) rfl ?_
          refine v_goto o (tgt := 72) dX8_bake_93 (by decide) ?_
          refine v_sub [1, 2, 3, 0] (lv2 := [(0, .ref a), (1, .int p1), (2, .int x2), (3, .int x3_90)]) rfl ?_
          exact ih.2 g87 x2 x3_90  h.1 (by have := h.2; omega)
  unfold vX8_bake at h
  refine v_aload_n o 0 dX8_bake_0 rfl ?_
  refine v_iconst o (v := 0) dX8_bake_1 (by decide) ?_
  refine v_pf o lpX8_40 (wfModel_o ha) ⟨rfl, rfl⟩ dX8_bake_2 ?_
  refine v_nmf (fun g2 eg2 => ?_)
  replace h := h g2 eg2
  refine v_aload_n o 0 dX8_bake_5 rfl ?_
  refine v_iload_n o 1 dX8_bake_6 rfl ?_
  refine v_cVi o [.int p1] [] (fun sz => metX8_isLoaf l G P g2 sz a ha p1 _ h) (cwX8_104 o.1.2.2.2.2 (by decide)) ⟨_, _, rfl⟩ (by decide) (wfModel_o ha) rfl (Nat.le_of_ble_eq_true rfl) ⟨Nat.zero_le _, Nat.zero_le _⟩ dX8_bake_7 rfl (fun r7 g7 h => ?_)
  refine v_if_ne o (tgt := 19) dX8_bake_10 (by decide) (fun c10 => ?_) (fun c10 => ?_)
  · replace h := h.1 c10
    refine v_aload_n o 0 dX8_bake_19 rfl ?_
    refine v_cVv o [] [] (fun sz => metX8_records l G P g7 sz a ha _ h) (cwX8_127 o.1.2.2.2.2 (by decide)) ⟨_, _, rfl⟩ (by decide) (wfModel_o ha) rfl (Nat.le_of_ble_eq_true rfl) ⟨Nat.zero_le _, Nat.zero_le _⟩ dX8_bake_20 rfl (fun g20 h => ?_)
    refine v_aload_n o 0 dX8_bake_23 rfl ?_
    refine v_iload_n o 1 dX8_bake_24 rfl ?_
    refine v_iconst o (v := 1) dX8_bake_25 (by decide) ?_
    refine v_cVi o [.int p1, .int 1] [] (fun sz => metX8_of l G P g20 sz a ha p1 1 _ h) (cwX8_51 o.1.2.2.2.2 (by decide)) ⟨_, _, rfl⟩ (by decide) (wfModel_o ha) rfl (Nat.le_of_ble_eq_true rfl) ⟨Nat.zero_le _, Nat.zero_le _⟩ dX8_bake_26 rfl (fun r26 g26 h => ?_)
    refine v_istore_n o (lv' := [(2, .int r26), (0, .ref a), (1, .int p1)]) dX8_bake_29 rfl (by decide) rfl ?_
    refine v_aload_n o 1 dX8_bake_30 rfl ?_
    refine v_gfR o lkX8_7 (by decide) (wfModel_o ha) (wfModel_r1 ha) dX8_bake_31 ?_
    refine v_iconst o (v := 0) dX8_bake_34 (by decide) ?_
    refine v_dup2 o dX8_bake_35 rfl rfl ?_
    refine v_iald o (wfModel_t1 ha) (wfModel_n1 ha) h.1 dX8_bake_36 ?_
    replace h := h.2
    refine v_iconst o (v := 1) dX8_bake_37 (by decide) ?_
    refine v_isub o dX8_bake_38 ?_
    refine v_iast o (wfModel_t1 ha) (wfModel_n1 ha) h.1 dX8_bake_39 ?_
    replace h := h.2
    refine v_nmf (fun g39 eg39 => ?_)
    replace h := h g39 eg39
    refine v_iload_n o 2 dX8_bake_40 rfl ?_
    refine v_istore_n o (lv' := [(3, .int p1), (2, .int r26), (0, .ref a), (1, .int p1)]) dX8_bake_41 rfl (by decide) rfl ?_
    refine v_sub [2, 3, 1, 0] (lv2 := [(0, .ref a), (1, .int p1), (2, .int r26), (3, .int p1)]) rfl ?_
    exact (main (μ42 g39 r26 p1 + 1)).1 g39 r26 p1  h (Nat.lt_succ_self _)
  · replace h := h.2 c10
    refine v_aload_n o 0 dX8_bake_13 rfl ?_
    refine v_iconst o (v := 1) dX8_bake_14 (by decide) ?_
    refine v_cVi o [.int 1] [] (fun sz => metX8_fails l G P g7 sz a ha 1 _ h) (cwX8_123 o.1.2.2.2.2 (by decide)) ⟨_, _, rfl⟩ (by decide) (wfModel_o ha) rfl (Nat.le_of_ble_eq_true rfl) ⟨Nat.zero_le _, Nat.zero_le _⟩ dX8_bake_15 rfl (fun r15 g15 h => ?_)
    exact v_iret o rfl hr dX8_bake_18 h
def kX8_bake (P : Sk) (f : St) (a : Nat) (p1 : Int32) (K : Int32 → St → Prop) : Prop := False
theorem metX8_bake (l : Launch) (G : Gl) (P : Sk) (f : St) (sz : Nat) (a : Nat) (ha : IsModel P a) (p1 : Int32) (K : Int32 → St → Prop) (h : kX8_bake P f a p1 K) : Met l yX8_bake (wU yX8_bake cX8_bake 4 (some .int)) rmX8_bake (PcW G P f sz [.ref a, .int p1]) (QcI G P sz K) 0 0 (frA P sz) := sorry

def jX8_cross_39 (P : Sk) (a : Nat) (p1 : Int32) (p2 : Int32) (p3 : Int32) (K : Int32 → St → Prop) (x4 : Int32) (y1 : Int32) (f : St) : Prop :=
  kX8_fails P f a y1 (fun r39 g39 => K r39 g39)
def jX8_cross_17 (P : Sk) (a : Nat) (p1 : Int32) (p2 : Int32) (p3 : Int32) (K : Int32 → St → Prop) (y3 : Int32) (f : St) : Prop :=
  kX8_refusesCross P f a p1 p2 y3 (fun r17 g17 => (r17 = 0 → kX8_records P g17 a (fun g44 => kX8_puts P g44 a p1 (fun g49 => K (g49 a 14) g49))) ∧ (¬ r17 = 0 → (3 ≤ r17 → jX8_cross_39 P a p1 p2 p3 K r17 1 g17) ∧ (¬ 3 ≤ r17 → jX8_cross_39 P a p1 p2 p3 K r17 2 g17)))
def vX8_cross (P : Sk) (f : St) (a : Nat) (p1 : Int32) (p2 : Int32) (p3 : Int32) (K : Int32 → St → Prop) : Prop :=
  ∀ g2 : St, g2 = setf f a 0 0 → (p3 = 0 → jX8_cross_17 P a p1 p2 p3 K 0 g2) ∧ (¬ p3 = 0 → jX8_cross_17 P a p1 p2 p3 K 1 g2)
set_option maxRecDepth 20000 in
set_option maxHeartbeats 4000000 in
theorem mX8_cross (l : Launch) (G : Gl) (P : Sk) (f : St) (sz : Nat) (a : Nat) (ha : IsModel P a) (p1 : Int32) (p2 : Int32) (p3 : Int32) (K : Int32 → St → Prop) (h : vX8_cross P f a p1 p2 p3 K)  :
  Met l yX8_cross (wU yX8_cross cX8_cross 5 (some .int)) rmX8_cross (PcW G P f sz [.ref a, .int p1, .int p2, .int p3]) (QcI G P sz K) 0 0 (frA P sz) := by
  refine v_met (own := RX8) [.ref a, .int p1, .int p2, .int p3] (by decide +kernel) rfl (Nat.le_of_ble_eq_true rfl) (fun p e s m args below meth c hsz o hr hnm => ?_)
  refine v_lv (lv2 := [(0, .ref a), (1, .int p1), (2, .int p2), (3, .int p3)]) rfl ?_
  have J39 : ∀ (x4_39 : Int32) (y1_39 : Int32) (g39 : St), jX8_cross_39 P a p1 p2 p3 K x4_39 y1_39 g39 → V p l e rmX8_cross s m args below meth c 5 G (frA P sz) (MQ below (QcI G P sz K) args s 0 0 (frA P sz)) 0 0 P [(0, .ref a), (1, .int p1), (2, .int p2), (3, .int p3), (4, .int x4_39)] [.int y1_39, .ref a] 39 g39 := by
    intro x4_39 y1_39 g39  h
    unfold jX8_cross_39 at h
    refine v_cVi o [.int y1_39] [] (fun sz => metX8_fails l G P g39 sz a ha y1_39 _ h) (cwX8_123 o.1.2.2.2.2 (by decide)) ⟨_, _, rfl⟩ (by decide) (wfModel_o ha) rfl (Nat.le_of_ble_eq_true rfl) ⟨Nat.zero_le _, Nat.zero_le _⟩ dX8_cross_39 rfl (fun r39 g39 h => ?_)
    exact v_iret o rfl hr dX8_cross_42 h
  have J17 : ∀ (y3_17 : Int32) (g17 : St), jX8_cross_17 P a p1 p2 p3 K y3_17 g17 → V p l e rmX8_cross s m args below meth c 5 G (frA P sz) (MQ below (QcI G P sz K) args s 0 0 (frA P sz)) 0 0 P [(0, .ref a), (1, .int p1), (2, .int p2), (3, .int p3)] [.int y3_17, .int p2, .int p1, .ref a] 17 g17 := by
    intro y3_17 g17  h
    unfold jX8_cross_17 at h
    refine v_cVi o [.int p1, .int p2, .int y3_17] [] (fun sz => metX8_refusesCross l G P g17 sz a ha p1 p2 y3_17 _ h) (cwX8_136 o.1.2.2.2.2 (by decide)) ⟨_, _, rfl⟩ (by decide) (wfModel_o ha) rfl (Nat.le_of_ble_eq_true rfl) ⟨Nat.zero_le _, Nat.zero_le _⟩ dX8_cross_17 rfl (fun r17 g17 h => ?_)
    refine v_istore o (lv' := [(4, .int r17), (0, .ref a), (1, .int p1), (2, .int p2), (3, .int p3)]) dX8_cross_20 (by decide) rfl ?_
    refine v_iload o 0 dX8_cross_22 rfl ?_
    refine v_if_eq o (tgt := 43) dX8_cross_24 (by decide) (fun c24 => ?_) (fun c24 => ?_)
    · replace h := h.1 c24
      refine v_aload_n o 1 dX8_cross_43 rfl ?_
      refine v_cVv o [] [] (fun sz => metX8_records l G P g17 sz a ha _ h) (cwX8_127 o.1.2.2.2.2 (by decide)) ⟨_, _, rfl⟩ (by decide) (wfModel_o ha) rfl (Nat.le_of_ble_eq_true rfl) ⟨Nat.zero_le _, Nat.zero_le _⟩ dX8_cross_44 rfl (fun g44 h => ?_)
      refine v_aload_n o 1 dX8_cross_47 rfl ?_
      refine v_iload_n o 2 dX8_cross_48 rfl ?_
      refine v_cVv o [.int p1] [] (fun sz => metX8_puts l G P g44 sz a ha p1 _ h) (cwX8_130 o.1.2.2.2.2 (by decide)) ⟨_, _, rfl⟩ (by decide) (wfModel_o ha) rfl (Nat.le_of_ble_eq_true rfl) ⟨Nat.zero_le _, Nat.zero_le _⟩ dX8_cross_49 rfl (fun g49 h => ?_)
      refine v_aload_n o 1 dX8_cross_52 rfl ?_
      refine v_gfI o lkX8_86 (by decide) (wfModel_o ha) dX8_cross_53 ?_
      exact v_iret o rfl hr dX8_cross_56 h
    · replace h := h.2 c24
      refine v_aload_n o 1 dX8_cross_27 rfl ?_
      refine v_iload o 0 dX8_cross_28 rfl ?_
      refine v_iconst o (v := 3) dX8_cross_30 (by decide) ?_
      refine v_icmp_ge o (tgt := 38) dX8_cross_31 (by decide) (fun c31 => ?_) (fun c31 => ?_)
      · replace h := h.1 c31
        refine v_iconst o (v := 1) dX8_cross_38 (by decide) ?_
        refine v_sub [1, 2, 3, 4, 0] (lv2 := [(0, .ref a), (1, .int p1), (2, .int p2), (3, .int p3), (4, .int r17)]) rfl ?_
        exact J39 r17 1 g17  h
      · replace h := h.2 c31
        refine v_iconst o (v := 2) dX8_cross_34 (by decide) ?_
        refine v_goto o (tgt := 39) dX8_cross_35 (by decide) ?_
        refine v_sub [1, 2, 3, 4, 0] (lv2 := [(0, .ref a), (1, .int p1), (2, .int p2), (3, .int p3), (4, .int r17)]) rfl ?_
        exact J39 r17 2 g17  h
  unfold vX8_cross at h
  refine v_aload_n o 0 dX8_cross_0 rfl ?_
  refine v_iconst o (v := 0) dX8_cross_1 (by decide) ?_
  refine v_pf o lpX8_40 (wfModel_o ha) ⟨rfl, rfl⟩ dX8_cross_2 ?_
  refine v_nmf (fun g2 eg2 => ?_)
  replace h := h g2 eg2
  refine v_aload_n o 0 dX8_cross_5 rfl ?_
  refine v_iload_n o 1 dX8_cross_6 rfl ?_
  refine v_iload_n o 2 dX8_cross_7 rfl ?_
  refine v_iload_n o 3 dX8_cross_8 rfl ?_
  refine v_if_eq o (tgt := 16) dX8_cross_9 (by decide) (fun c9 => ?_) (fun c9 => ?_)
  · replace h := h.1 c9
    refine v_iconst o (v := 0) dX8_cross_16 (by decide) ?_
    refine v_sub [0, 1, 2, 3] (lv2 := [(0, .ref a), (1, .int p1), (2, .int p2), (3, .int p3)]) rfl ?_
    exact J17 0 g2  h
  · replace h := h.2 c9
    refine v_iconst o (v := 1) dX8_cross_12 (by decide) ?_
    refine v_goto o (tgt := 17) dX8_cross_13 (by decide) ?_
    refine v_sub [0, 1, 2, 3] (lv2 := [(0, .ref a), (1, .int p1), (2, .int p2), (3, .int p3)]) rfl ?_
    exact J17 1 g2  h
abbrev kX8_cross := @vX8_cross
abbrev metX8_cross := @mX8_cross

def vX8_takesBack (P : Sk) (f : St) (a : Nat) (p1 : Int32) (K : St → Prop) : Prop :=
  kX8_takes P f a p1 (fun g2 => ∀ g12 : St, g12 = setf g2 a 9 ((g2 a 9) - 1) → kX8_puts P g12 a p1 (fun g17 => K g17))
set_option maxRecDepth 20000 in
set_option maxHeartbeats 4000000 in
theorem mX8_takesBack (l : Launch) (G : Gl) (P : Sk) (f : St) (sz : Nat) (a : Nat) (ha : IsModel P a) (p1 : Int32) (K : St → Prop) (h : vX8_takesBack P f a p1 K)  :
  Met l yX8_takesBack (wU yX8_takesBack cX8_takesBack 2 none) rmX8_takesBack (PcW G P f sz [.ref a, .int p1]) (QcV G P sz K) 0 0 (frA P sz) := by
  refine v_met (own := RX8) [.ref a, .int p1] (by decide +kernel) rfl (Nat.le_of_ble_eq_true rfl) (fun p e s m args below meth c hsz o hr hnm => ?_)
  refine v_lv (lv2 := [(0, .ref a), (1, .int p1)]) rfl ?_
  unfold vX8_takesBack at h
  refine v_aload_n o 0 dX8_takesBack_0 rfl ?_
  refine v_iload_n o 1 dX8_takesBack_1 rfl ?_
  refine v_cVv o [.int p1] [] (fun sz => metX8_takes l G P f sz a ha p1 _ h) (cwX8_107 o.1.2.2.2.2 (by decide)) ⟨_, _, rfl⟩ (by decide) (wfModel_o ha) rfl (Nat.le_of_ble_eq_true rfl) ⟨Nat.zero_le _, Nat.zero_le _⟩ dX8_takesBack_2 rfl (fun g2 h => ?_)
  refine v_aload_n o 0 dX8_takesBack_5 rfl ?_
  refine v_dup o dX8_takesBack_6 rfl ?_
  refine v_gfI o lkX8_58 (by decide) (wfModel_o ha) dX8_takesBack_7 ?_
  refine v_iconst o (v := 1) dX8_takesBack_10 (by decide) ?_
  refine v_isub o dX8_takesBack_11 ?_
  refine v_pf o lpX8_58 (wfModel_o ha) ⟨rfl, rfl⟩ dX8_takesBack_12 ?_
  refine v_nmf (fun g12 eg12 => ?_)
  replace h := h g12 eg12
  refine v_aload_n o 0 dX8_takesBack_15 rfl ?_
  refine v_iload_n o 1 dX8_takesBack_16 rfl ?_
  refine v_cVv o [.int p1] [] (fun sz => metX8_puts l G P g12 sz a ha p1 _ h) (cwX8_130 o.1.2.2.2.2 (by decide)) ⟨_, _, rfl⟩ (by decide) (wfModel_o ha) rfl (Nat.le_of_ble_eq_true rfl) ⟨Nat.zero_le _, Nat.zero_le _⟩ dX8_takesBack_17 rfl (fun g17 h => ?_)
  exact v_vret o rfl hr dX8_takesBack_20 h
abbrev kX8_takesBack := @vX8_takesBack
abbrev metX8_takesBack := @mX8_takesBack

def jX8_back_26 (P : Sk) (a : Nat) (p1 : Int32) (K : Int32 → St → Prop) (x2 : Int32) (y1 : Int32) (f : St) : Prop :=
  kX8_fails P f a y1 (fun r26 g26 => K r26 g26)
def vX8_back (P : Sk) (f : St) (a : Nat) (p1 : Int32) (K : Int32 → St → Prop) : Prop :=
  ∀ g2 : St, g2 = setf f a 0 0 → kX8_refusesBack P g2 a p1 (fun r7 g7 => (r7 = 0 → kX8_records P g7 a (fun g31 => kX8_takesBack P g31 a p1 (fun g36 => kX8_of P g36 a p1 1 (fun r42 g42 => K r42 g42)))) ∧ (¬ r7 = 0 → (¬ r7 = 3 → jX8_back_26 P a p1 K r7 2 g7) ∧ (r7 = 3 → jX8_back_26 P a p1 K r7 1 g7)))
set_option maxRecDepth 20000 in
set_option maxHeartbeats 4000000 in
theorem mX8_back (l : Launch) (G : Gl) (P : Sk) (f : St) (sz : Nat) (a : Nat) (ha : IsModel P a) (p1 : Int32) (K : Int32 → St → Prop) (h : vX8_back P f a p1 K)  :
  Met l yX8_back (wU yX8_back cX8_back 3 (some .int)) rmX8_back (PcW G P f sz [.ref a, .int p1]) (QcI G P sz K) 0 0 (frA P sz) := by
  refine v_met (own := RX8) [.ref a, .int p1] (by decide +kernel) rfl (Nat.le_of_ble_eq_true rfl) (fun p e s m args below meth c hsz o hr hnm => ?_)
  refine v_lv (lv2 := [(0, .ref a), (1, .int p1)]) rfl ?_
  have J26 : ∀ (x2_26 : Int32) (y1_26 : Int32) (g26 : St), jX8_back_26 P a p1 K x2_26 y1_26 g26 → V p l e rmX8_back s m args below meth c 3 G (frA P sz) (MQ below (QcI G P sz K) args s 0 0 (frA P sz)) 0 0 P [(0, .ref a), (1, .int p1), (2, .int x2_26)] [.int y1_26, .ref a] 26 g26 := by
    intro x2_26 y1_26 g26  h
    unfold jX8_back_26 at h
    refine v_cVi o [.int y1_26] [] (fun sz => metX8_fails l G P g26 sz a ha y1_26 _ h) (cwX8_123 o.1.2.2.2.2 (by decide)) ⟨_, _, rfl⟩ (by decide) (wfModel_o ha) rfl (Nat.le_of_ble_eq_true rfl) ⟨Nat.zero_le _, Nat.zero_le _⟩ dX8_back_26 rfl (fun r26 g26 h => ?_)
    exact v_iret o rfl hr dX8_back_29 h
  unfold vX8_back at h
  refine v_aload_n o 0 dX8_back_0 rfl ?_
  refine v_iconst o (v := 0) dX8_back_1 (by decide) ?_
  refine v_pf o lpX8_40 (wfModel_o ha) ⟨rfl, rfl⟩ dX8_back_2 ?_
  refine v_nmf (fun g2 eg2 => ?_)
  replace h := h g2 eg2
  refine v_aload_n o 0 dX8_back_5 rfl ?_
  refine v_iload_n o 1 dX8_back_6 rfl ?_
  refine v_cVi o [.int p1] [] (fun sz => metX8_refusesBack l G P g2 sz a ha p1 _ h) (cwX8_140 o.1.2.2.2.2 (by decide)) ⟨_, _, rfl⟩ (by decide) (wfModel_o ha) rfl (Nat.le_of_ble_eq_true rfl) ⟨Nat.zero_le _, Nat.zero_le _⟩ dX8_back_7 rfl (fun r7 g7 h => ?_)
  refine v_istore_n o (lv' := [(2, .int r7), (0, .ref a), (1, .int p1)]) dX8_back_10 rfl (by decide) rfl ?_
  refine v_iload_n o 0 dX8_back_11 rfl ?_
  refine v_if_eq o (tgt := 30) dX8_back_12 (by decide) (fun c12 => ?_) (fun c12 => ?_)
  · replace h := h.1 c12
    refine v_aload_n o 1 dX8_back_30 rfl ?_
    refine v_cVv o [] [] (fun sz => metX8_records l G P g7 sz a ha _ h) (cwX8_127 o.1.2.2.2.2 (by decide)) ⟨_, _, rfl⟩ (by decide) (wfModel_o ha) rfl (Nat.le_of_ble_eq_true rfl) ⟨Nat.zero_le _, Nat.zero_le _⟩ dX8_back_31 rfl (fun g31 h => ?_)
    refine v_aload_n o 1 dX8_back_34 rfl ?_
    refine v_iload_n o 2 dX8_back_35 rfl ?_
    refine v_cVv o [.int p1] [] (fun sz => metX8_takesBack l G P g31 sz a ha p1 _ h) (cwX8_143 o.1.2.2.2.2 (by decide)) ⟨_, _, rfl⟩ (by decide) (wfModel_o ha) rfl (Nat.le_of_ble_eq_true rfl) ⟨Nat.zero_le _, Nat.zero_le _⟩ dX8_back_36 rfl (fun g36 h => ?_)
    refine v_aload_n o 1 dX8_back_39 rfl ?_
    refine v_iload_n o 2 dX8_back_40 rfl ?_
    refine v_iconst o (v := 1) dX8_back_41 (by decide) ?_
    refine v_cVi o [.int p1, .int 1] [] (fun sz => metX8_of l G P g36 sz a ha p1 1 _ h) (cwX8_51 o.1.2.2.2.2 (by decide)) ⟨_, _, rfl⟩ (by decide) (wfModel_o ha) rfl (Nat.le_of_ble_eq_true rfl) ⟨Nat.zero_le _, Nat.zero_le _⟩ dX8_back_42 rfl (fun r42 g42 h => ?_)
    exact v_iret o rfl hr dX8_back_45 h
  · replace h := h.2 c12
    refine v_aload_n o 1 dX8_back_15 rfl ?_
    refine v_iload_n o 0 dX8_back_16 rfl ?_
    refine v_iconst o (v := 3) dX8_back_17 (by decide) ?_
    refine v_icmp_ne o (tgt := 25) dX8_back_18 (by decide) (fun c18 => ?_) (fun c18 => ?_)
    · replace h := h.1 c18
      refine v_iconst o (v := 2) dX8_back_25 (by decide) ?_
      refine v_sub [1, 2, 0] (lv2 := [(0, .ref a), (1, .int p1), (2, .int r7)]) rfl ?_
      exact J26 r7 2 g7  h
    · replace h := h.2 c18
      refine v_iconst o (v := 1) dX8_back_21 (by decide) ?_
      refine v_goto o (tgt := 26) dX8_back_22 (by decide) ?_
      refine v_sub [1, 2, 0] (lv2 := [(0, .ref a), (1, .int p1), (2, .int r7)]) rfl ?_
      exact J26 r7 1 g7  h
abbrev kX8_back := @vX8_back
abbrev metX8_back := @mX8_back

def vX8_change (P : Sk) (f : St) (a : Nat) (p1 : Int32) (p2 : Int32) (K : Int32 → St → Prop) : Prop :=
  ∀ g2 : St, g2 = setf f a 0 0 → kX8_isLoaf P g2 a p1 (fun r7 g7 => (¬ r7 = 0 → kX8_in P g7 p2 0 3 (fun r22 g22 => (¬ r22 = 0 → kX8_refusesChange P g22 a p1 p2 (fun r37 g37 => (r37 = 0 → kX8_records P g37 a (fun g50 => kX8_puts P g50 a p1 (fun g55 => vp_in 1 160 ∧ (vp_in 1 160 ∧ (∀ g67 : St, g67 = setf g55 (a + 1) ((1 : Int32)).toNatClampNeg ((g55 (a + 1) ((1 : Int32)).toNatClampNeg) + 1) → kX8_of P g67 a p1 1 (fun r71 g71 => K r71 g71)))))) ∧ (¬ r37 = 0 → kX8_fails P g37 a 3 (fun r45 g45 => K r45 g45)))) ∧ (r22 = 0 → kX8_fails P g22 a 2 (fun r30 g30 => K r30 g30)))) ∧ (r7 = 0 → kX8_fails P g7 a 1 (fun r15 g15 => K r15 g15)))
set_option maxRecDepth 20000 in
set_option maxHeartbeats 4000000 in
theorem mX8_change (l : Launch) (G : Gl) (P : Sk) (f : St) (sz : Nat) (a : Nat) (ha : IsModel P a) (p1 : Int32) (p2 : Int32) (K : Int32 → St → Prop) (h : vX8_change P f a p1 p2 K)  :
  Met l yX8_change (wU yX8_change cX8_change 3 (some .int)) rmX8_change (PcW G P f sz [.ref a, .int p1, .int p2]) (QcI G P sz K) 0 0 (frA P sz) := by
  refine v_met (own := RX8) [.ref a, .int p1, .int p2] (by decide +kernel) rfl (Nat.le_of_ble_eq_true rfl) (fun p e s m args below meth c hsz o hr hnm => ?_)
  refine v_lv (lv2 := [(0, .ref a), (1, .int p1), (2, .int p2)]) rfl ?_
  unfold vX8_change at h
  refine v_aload_n o 0 dX8_change_0 rfl ?_
  refine v_iconst o (v := 0) dX8_change_1 (by decide) ?_
  refine v_pf o lpX8_40 (wfModel_o ha) ⟨rfl, rfl⟩ dX8_change_2 ?_
  refine v_nmf (fun g2 eg2 => ?_)
  replace h := h g2 eg2
  refine v_aload_n o 0 dX8_change_5 rfl ?_
  refine v_iload_n o 1 dX8_change_6 rfl ?_
  refine v_cVi o [.int p1] [] (fun sz => metX8_isLoaf l G P g2 sz a ha p1 _ h) (cwX8_104 o.1.2.2.2.2 (by decide)) ⟨_, _, rfl⟩ (by decide) (wfModel_o ha) rfl (Nat.le_of_ble_eq_true rfl) ⟨Nat.zero_le _, Nat.zero_le _⟩ dX8_change_7 rfl (fun r7 g7 h => ?_)
  refine v_if_ne o (tgt := 19) dX8_change_10 (by decide) (fun c10 => ?_) (fun c10 => ?_)
  · replace h := h.1 c10
    refine v_iload_n o 2 dX8_change_19 rfl ?_
    refine v_iconst o (v := 0) dX8_change_20 (by decide) ?_
    refine v_iconst o (v := 3) dX8_change_21 (by decide) ?_
    refine v_cSi o [.int p2, .int 0, .int 3] [] (fun sz => metX8_in l G P g7 sz p2 0 3 _ h) (cwX8_44 o.1.2.2.2.2 (by decide)) rfl (Nat.le_of_ble_eq_true rfl) ⟨Nat.zero_le _, Nat.zero_le _⟩ dX8_change_22 rfl (fun r22 g22 h => ?_)
    refine v_if_ne o (tgt := 34) dX8_change_25 (by decide) (fun c25 => ?_) (fun c25 => ?_)
    · replace h := h.1 c25
      refine v_aload_n o 0 dX8_change_34 rfl ?_
      refine v_iload_n o 1 dX8_change_35 rfl ?_
      refine v_iload_n o 2 dX8_change_36 rfl ?_
      refine v_cVi o [.int p1, .int p2] [] (fun sz => metX8_refusesChange l G P g22 sz a ha p1 p2 _ h) (cwX8_146 o.1.2.2.2.2 (by decide)) ⟨_, _, rfl⟩ (by decide) (wfModel_o ha) rfl (Nat.le_of_ble_eq_true rfl) ⟨Nat.zero_le _, Nat.zero_le _⟩ dX8_change_37 rfl (fun r37 g37 h => ?_)
      refine v_if_eq o (tgt := 49) dX8_change_40 (by decide) (fun c40 => ?_) (fun c40 => ?_)
      · replace h := h.1 c40
        refine v_aload_n o 0 dX8_change_49 rfl ?_
        refine v_cVv o [] [] (fun sz => metX8_records l G P g37 sz a ha _ h) (cwX8_127 o.1.2.2.2.2 (by decide)) ⟨_, _, rfl⟩ (by decide) (wfModel_o ha) rfl (Nat.le_of_ble_eq_true rfl) ⟨Nat.zero_le _, Nat.zero_le _⟩ dX8_change_50 rfl (fun g50 h => ?_)
        refine v_aload_n o 0 dX8_change_53 rfl ?_
        refine v_iload_n o 1 dX8_change_54 rfl ?_
        refine v_cVv o [.int p1] [] (fun sz => metX8_puts l G P g50 sz a ha p1 _ h) (cwX8_130 o.1.2.2.2.2 (by decide)) ⟨_, _, rfl⟩ (by decide) (wfModel_o ha) rfl (Nat.le_of_ble_eq_true rfl) ⟨Nat.zero_le _, Nat.zero_le _⟩ dX8_change_55 rfl (fun g55 h => ?_)
        refine v_aload_n o 0 dX8_change_58 rfl ?_
        refine v_gfR o lkX8_7 (by decide) (wfModel_o ha) (wfModel_r1 ha) dX8_change_59 ?_
        refine v_iconst o (v := 1) dX8_change_62 (by decide) ?_
        refine v_dup2 o dX8_change_63 rfl rfl ?_
        refine v_iald o (wfModel_t1 ha) (wfModel_n1 ha) h.1 dX8_change_64 ?_
        replace h := h.2
        refine v_iconst o (v := 1) dX8_change_65 (by decide) ?_
        refine v_iadd o dX8_change_66 ?_
        refine v_iast o (wfModel_t1 ha) (wfModel_n1 ha) h.1 dX8_change_67 ?_
        replace h := h.2
        refine v_nmf (fun g67 eg67 => ?_)
        replace h := h g67 eg67
        refine v_aload_n o 0 dX8_change_68 rfl ?_
        refine v_iload_n o 1 dX8_change_69 rfl ?_
        refine v_iconst o (v := 1) dX8_change_70 (by decide) ?_
        refine v_cVi o [.int p1, .int 1] [] (fun sz => metX8_of l G P g67 sz a ha p1 1 _ h) (cwX8_51 o.1.2.2.2.2 (by decide)) ⟨_, _, rfl⟩ (by decide) (wfModel_o ha) rfl (Nat.le_of_ble_eq_true rfl) ⟨Nat.zero_le _, Nat.zero_le _⟩ dX8_change_71 rfl (fun r71 g71 h => ?_)
        exact v_iret o rfl hr dX8_change_74 h
      · replace h := h.2 c40
        refine v_aload_n o 0 dX8_change_43 rfl ?_
        refine v_iconst o (v := 3) dX8_change_44 (by decide) ?_
        refine v_cVi o [.int 3] [] (fun sz => metX8_fails l G P g37 sz a ha 3 _ h) (cwX8_123 o.1.2.2.2.2 (by decide)) ⟨_, _, rfl⟩ (by decide) (wfModel_o ha) rfl (Nat.le_of_ble_eq_true rfl) ⟨Nat.zero_le _, Nat.zero_le _⟩ dX8_change_45 rfl (fun r45 g45 h => ?_)
        exact v_iret o rfl hr dX8_change_48 h
    · replace h := h.2 c25
      refine v_aload_n o 0 dX8_change_28 rfl ?_
      refine v_iconst o (v := 2) dX8_change_29 (by decide) ?_
      refine v_cVi o [.int 2] [] (fun sz => metX8_fails l G P g22 sz a ha 2 _ h) (cwX8_123 o.1.2.2.2.2 (by decide)) ⟨_, _, rfl⟩ (by decide) (wfModel_o ha) rfl (Nat.le_of_ble_eq_true rfl) ⟨Nat.zero_le _, Nat.zero_le _⟩ dX8_change_30 rfl (fun r30 g30 h => ?_)
      exact v_iret o rfl hr dX8_change_33 h
  · replace h := h.2 c10
    refine v_aload_n o 0 dX8_change_13 rfl ?_
    refine v_iconst o (v := 1) dX8_change_14 (by decide) ?_
    refine v_cVi o [.int 1] [] (fun sz => metX8_fails l G P g7 sz a ha 1 _ h) (cwX8_123 o.1.2.2.2.2 (by decide)) ⟨_, _, rfl⟩ (by decide) (wfModel_o ha) rfl (Nat.le_of_ble_eq_true rfl) ⟨Nat.zero_le _, Nat.zero_le _⟩ dX8_change_15 rfl (fun r15 g15 h => ?_)
    exact v_iret o rfl hr dX8_change_18 h
abbrev kX8_change := @vX8_change
abbrev metX8_change := @mX8_change

def jX8_join_27 (P : Sk) (a : Nat) (p1 : Int32) (p2 : Int32) (K : Int32 → St → Prop) (x3 : Int32) (y1 : Int32) (f : St) : Prop :=
  kX8_fails P f a y1 (fun r27 g27 => K r27 g27)
def vX8_join (P : Sk) (f : St) (a : Nat) (p1 : Int32) (p2 : Int32) (K : Int32 → St → Prop) : Prop :=
  ∀ g2 : St, g2 = setf f a 0 0 → kX8_refusesJoin P g2 a p1 p2 (fun r8 g8 => (r8 = 0 → kX8_records P g8 a (fun g32 => kX8_puts P g32 a p1 (fun g37 => kX8_of P g37 a p1 1 (fun r43 g43 => K r43 g43)))) ∧ (¬ r8 = 0 → (¬ r8 = 3 → jX8_join_27 P a p1 p2 K r8 2 g8) ∧ (r8 = 3 → jX8_join_27 P a p1 p2 K r8 1 g8)))
set_option maxRecDepth 20000 in
set_option maxHeartbeats 4000000 in
theorem mX8_join (l : Launch) (G : Gl) (P : Sk) (f : St) (sz : Nat) (a : Nat) (ha : IsModel P a) (p1 : Int32) (p2 : Int32) (K : Int32 → St → Prop) (h : vX8_join P f a p1 p2 K)  :
  Met l yX8_join (wU yX8_join cX8_join 4 (some .int)) rmX8_join (PcW G P f sz [.ref a, .int p1, .int p2]) (QcI G P sz K) 0 0 (frA P sz) := by
  refine v_met (own := RX8) [.ref a, .int p1, .int p2] (by decide +kernel) rfl (Nat.le_of_ble_eq_true rfl) (fun p e s m args below meth c hsz o hr hnm => ?_)
  refine v_lv (lv2 := [(0, .ref a), (1, .int p1), (2, .int p2)]) rfl ?_
  have J27 : ∀ (x3_27 : Int32) (y1_27 : Int32) (g27 : St), jX8_join_27 P a p1 p2 K x3_27 y1_27 g27 → V p l e rmX8_join s m args below meth c 4 G (frA P sz) (MQ below (QcI G P sz K) args s 0 0 (frA P sz)) 0 0 P [(0, .ref a), (1, .int p1), (2, .int p2), (3, .int x3_27)] [.int y1_27, .ref a] 27 g27 := by
    intro x3_27 y1_27 g27  h
    unfold jX8_join_27 at h
    refine v_cVi o [.int y1_27] [] (fun sz => metX8_fails l G P g27 sz a ha y1_27 _ h) (cwX8_123 o.1.2.2.2.2 (by decide)) ⟨_, _, rfl⟩ (by decide) (wfModel_o ha) rfl (Nat.le_of_ble_eq_true rfl) ⟨Nat.zero_le _, Nat.zero_le _⟩ dX8_join_27 rfl (fun r27 g27 h => ?_)
    exact v_iret o rfl hr dX8_join_30 h
  unfold vX8_join at h
  refine v_aload_n o 0 dX8_join_0 rfl ?_
  refine v_iconst o (v := 0) dX8_join_1 (by decide) ?_
  refine v_pf o lpX8_40 (wfModel_o ha) ⟨rfl, rfl⟩ dX8_join_2 ?_
  refine v_nmf (fun g2 eg2 => ?_)
  replace h := h g2 eg2
  refine v_aload_n o 0 dX8_join_5 rfl ?_
  refine v_iload_n o 1 dX8_join_6 rfl ?_
  refine v_iload_n o 2 dX8_join_7 rfl ?_
  refine v_cVi o [.int p1, .int p2] [] (fun sz => metX8_refusesJoin l G P g2 sz a ha p1 p2 _ h) (cwX8_149 o.1.2.2.2.2 (by decide)) ⟨_, _, rfl⟩ (by decide) (wfModel_o ha) rfl (Nat.le_of_ble_eq_true rfl) ⟨Nat.zero_le _, Nat.zero_le _⟩ dX8_join_8 rfl (fun r8 g8 h => ?_)
  refine v_istore_n o (lv' := [(3, .int r8), (0, .ref a), (1, .int p1), (2, .int p2)]) dX8_join_11 rfl (by decide) rfl ?_
  refine v_iload_n o 0 dX8_join_12 rfl ?_
  refine v_if_eq o (tgt := 31) dX8_join_13 (by decide) (fun c13 => ?_) (fun c13 => ?_)
  · replace h := h.1 c13
    refine v_aload_n o 1 dX8_join_31 rfl ?_
    refine v_cVv o [] [] (fun sz => metX8_records l G P g8 sz a ha _ h) (cwX8_127 o.1.2.2.2.2 (by decide)) ⟨_, _, rfl⟩ (by decide) (wfModel_o ha) rfl (Nat.le_of_ble_eq_true rfl) ⟨Nat.zero_le _, Nat.zero_le _⟩ dX8_join_32 rfl (fun g32 h => ?_)
    refine v_aload_n o 1 dX8_join_35 rfl ?_
    refine v_iload_n o 2 dX8_join_36 rfl ?_
    refine v_cVv o [.int p1] [] (fun sz => metX8_puts l G P g32 sz a ha p1 _ h) (cwX8_130 o.1.2.2.2.2 (by decide)) ⟨_, _, rfl⟩ (by decide) (wfModel_o ha) rfl (Nat.le_of_ble_eq_true rfl) ⟨Nat.zero_le _, Nat.zero_le _⟩ dX8_join_37 rfl (fun g37 h => ?_)
    refine v_aload_n o 1 dX8_join_40 rfl ?_
    refine v_iload_n o 2 dX8_join_41 rfl ?_
    refine v_iconst o (v := 1) dX8_join_42 (by decide) ?_
    refine v_cVi o [.int p1, .int 1] [] (fun sz => metX8_of l G P g37 sz a ha p1 1 _ h) (cwX8_51 o.1.2.2.2.2 (by decide)) ⟨_, _, rfl⟩ (by decide) (wfModel_o ha) rfl (Nat.le_of_ble_eq_true rfl) ⟨Nat.zero_le _, Nat.zero_le _⟩ dX8_join_43 rfl (fun r43 g43 h => ?_)
    exact v_iret o rfl hr dX8_join_46 h
  · replace h := h.2 c13
    refine v_aload_n o 1 dX8_join_16 rfl ?_
    refine v_iload_n o 0 dX8_join_17 rfl ?_
    refine v_iconst o (v := 3) dX8_join_18 (by decide) ?_
    refine v_icmp_ne o (tgt := 26) dX8_join_19 (by decide) (fun c19 => ?_) (fun c19 => ?_)
    · replace h := h.1 c19
      refine v_iconst o (v := 2) dX8_join_26 (by decide) ?_
      refine v_sub [1, 2, 3, 0] (lv2 := [(0, .ref a), (1, .int p1), (2, .int p2), (3, .int r8)]) rfl ?_
      exact J27 r8 2 g8  h
    · replace h := h.2 c19
      refine v_iconst o (v := 1) dX8_join_22 (by decide) ?_
      refine v_goto o (tgt := 27) dX8_join_23 (by decide) ?_
      refine v_sub [1, 2, 3, 0] (lv2 := [(0, .ref a), (1, .int p1), (2, .int p2), (3, .int r8)]) rfl ?_
      exact J27 r8 1 g8  h
abbrev kX8_join := @vX8_join
abbrev metX8_join := @mX8_join

def vX8_append (P : Sk) (f : St) (a : Nat) (p1 : Int32) (K : Int32 → St → Prop) : Prop :=
  ∀ g2 : St, g2 = setf f a 0 0 → kX8_in P g2 p1 33 126 (fun r10 g10 => (¬ r10 = 0 → (¬ g10 a 7 = 60 → vp_in (g10 a 7) 60 ∧ (∀ g46 : St, g46 = setf g10 (a + 4) (g10 a 7).toNatClampNeg p1 → ∀ g54 : St, g54 = setf g46 a 7 ((g46 a 7) + 1) → K (g54 a 7) g54)) ∧ (g10 a 7 = 60 → kX8_fails P g10 a 2 (fun r33 g33 => K r33 g33))) ∧ (r10 = 0 → kX8_fails P g10 a 1 (fun r18 g18 => K r18 g18)))
set_option maxRecDepth 20000 in
set_option maxHeartbeats 4000000 in
theorem mX8_append (l : Launch) (G : Gl) (P : Sk) (f : St) (sz : Nat) (a : Nat) (ha : IsModel P a) (p1 : Int32) (K : Int32 → St → Prop) (h : vX8_append P f a p1 K)  :
  Met l yX8_append (wU yX8_append cX8_append 2 (some .int)) rmX8_append (PcW G P f sz [.ref a, .int p1]) (QcI G P sz K) 0 0 (frA P sz) := by
  refine v_met (own := RX8) [.ref a, .int p1] (by decide +kernel) rfl (Nat.le_of_ble_eq_true rfl) (fun p e s m args below meth c hsz o hr hnm => ?_)
  refine v_lv (lv2 := [(0, .ref a), (1, .int p1)]) rfl ?_
  unfold vX8_append at h
  refine v_aload_n o 0 dX8_append_0 rfl ?_
  refine v_iconst o (v := 0) dX8_append_1 (by decide) ?_
  refine v_pf o lpX8_40 (wfModel_o ha) ⟨rfl, rfl⟩ dX8_append_2 ?_
  refine v_nmf (fun g2 eg2 => ?_)
  replace h := h g2 eg2
  refine v_iload_n o 1 dX8_append_5 rfl ?_
  refine v_bipush o (v := 33) dX8_append_6 (by decide) ?_
  refine v_bipush o (v := 126) dX8_append_8 (by decide) ?_
  refine v_cSi o [.int p1, .int 33, .int 126] [] (fun sz => metX8_in l G P g2 sz p1 33 126 _ h) (cwX8_44 o.1.2.2.2.2 (by decide)) rfl (Nat.le_of_ble_eq_true rfl) ⟨Nat.zero_le _, Nat.zero_le _⟩ dX8_append_10 rfl (fun r10 g10 h => ?_)
  refine v_if_ne o (tgt := 22) dX8_append_13 (by decide) (fun c13 => ?_) (fun c13 => ?_)
  · replace h := h.1 c13
    refine v_aload_n o 0 dX8_append_22 rfl ?_
    refine v_gfI o lkX8_133 (by decide) (wfModel_o ha) dX8_append_23 ?_
    refine v_bipush o (v := 60) dX8_append_26 (by decide) ?_
    refine v_icmp_ne o (tgt := 37) dX8_append_28 (by decide) (fun c28 => ?_) (fun c28 => ?_)
    · replace h := h.1 c28
      refine v_aload_n o 0 dX8_append_37 rfl ?_
      refine v_gfR o lkX8_19 (by decide) (wfModel_o ha) (wfModel_r6 ha) dX8_append_38 ?_
      refine v_aload_n o 0 dX8_append_41 rfl ?_
      refine v_gfI o lkX8_133 (by decide) (wfModel_o ha) dX8_append_42 ?_
      refine v_iload_n o 1 dX8_append_45 rfl ?_
      refine v_iast o (wfModel_t6 ha) (wfModel_n6 ha) h.1 dX8_append_46 ?_
      replace h := h.2
      refine v_nmf (fun g46 eg46 => ?_)
      replace h := h g46 eg46
      refine v_aload_n o 0 dX8_append_47 rfl ?_
      refine v_dup o dX8_append_48 rfl ?_
      refine v_gfI o lkX8_133 (by decide) (wfModel_o ha) dX8_append_49 ?_
      refine v_iconst o (v := 1) dX8_append_52 (by decide) ?_
      refine v_iadd o dX8_append_53 ?_
      refine v_pf o lpX8_133 (wfModel_o ha) ⟨rfl, rfl⟩ dX8_append_54 ?_
      refine v_nmf (fun g54 eg54 => ?_)
      replace h := h g54 eg54
      refine v_aload_n o 0 dX8_append_57 rfl ?_
      refine v_gfI o lkX8_133 (by decide) (wfModel_o ha) dX8_append_58 ?_
      exact v_iret o rfl hr dX8_append_61 h
    · replace h := h.2 c28
      refine v_aload_n o 0 dX8_append_31 rfl ?_
      refine v_iconst o (v := 2) dX8_append_32 (by decide) ?_
      refine v_cVi o [.int 2] [] (fun sz => metX8_fails l G P g10 sz a ha 2 _ h) (cwX8_123 o.1.2.2.2.2 (by decide)) ⟨_, _, rfl⟩ (by decide) (wfModel_o ha) rfl (Nat.le_of_ble_eq_true rfl) ⟨Nat.zero_le _, Nat.zero_le _⟩ dX8_append_33 rfl (fun r33 g33 h => ?_)
      exact v_iret o rfl hr dX8_append_36 h
  · replace h := h.2 c13
    refine v_aload_n o 0 dX8_append_16 rfl ?_
    refine v_iconst o (v := 1) dX8_append_17 (by decide) ?_
    refine v_cVi o [.int 1] [] (fun sz => metX8_fails l G P g10 sz a ha 1 _ h) (cwX8_123 o.1.2.2.2.2 (by decide)) ⟨_, _, rfl⟩ (by decide) (wfModel_o ha) rfl (Nat.le_of_ble_eq_true rfl) ⟨Nat.zero_le _, Nat.zero_le _⟩ dX8_append_18 rfl (fun r18 g18 h => ?_)
    exact v_iret o rfl hr dX8_append_21 h
abbrev kX8_append := @vX8_append
abbrev metX8_append := @mX8_append

def vX8_clearBuffer (P : Sk) (f : St) (a : Nat) (K : Int32 → St → Prop) : Prop :=
  ∀ g2 : St, g2 = setf f a 0 0 → ∀ x1_9 : Int32, x1_9 = g2 a 7 → ∀ g12 : St, g12 = setf g2 a 7 0 → K x1_9 g12
set_option maxRecDepth 20000 in
set_option maxHeartbeats 4000000 in
theorem mX8_clearBuffer (l : Launch) (G : Gl) (P : Sk) (f : St) (sz : Nat) (a : Nat) (ha : IsModel P a) (K : Int32 → St → Prop) (h : vX8_clearBuffer P f a K)  :
  Met l yX8_clearBuffer (wU yX8_clearBuffer cX8_clearBuffer 2 (some .int)) rmX8_clearBuffer (PcW G P f sz [.ref a]) (QcI G P sz K) 0 0 (frA P sz) := by
  refine v_met (own := RX8) [.ref a] (by decide +kernel) rfl (Nat.le_of_ble_eq_true rfl) (fun p e s m args below meth c hsz o hr hnm => ?_)
  refine v_lv (lv2 := [(0, .ref a)]) rfl ?_
  unfold vX8_clearBuffer at h
  refine v_aload_n o 0 dX8_clearBuffer_0 rfl ?_
  refine v_iconst o (v := 0) dX8_clearBuffer_1 (by decide) ?_
  refine v_pf o lpX8_40 (wfModel_o ha) ⟨rfl, rfl⟩ dX8_clearBuffer_2 ?_
  refine v_nmf (fun g2 eg2 => ?_)
  replace h := h g2 eg2
  refine v_aload_n o 0 dX8_clearBuffer_5 rfl ?_
  refine v_gfI o lkX8_133 (by decide) (wfModel_o ha) dX8_clearBuffer_6 ?_
  refine v_topi (fun x1_9 ex1_9 => ?_)
  replace h := h x1_9 ex1_9
  refine v_istore_n o (lv' := [(1, .int x1_9), (0, .ref a)]) dX8_clearBuffer_9 rfl (by decide) rfl ?_
  refine v_aload_n o 1 dX8_clearBuffer_10 rfl ?_
  refine v_iconst o (v := 0) dX8_clearBuffer_11 (by decide) ?_
  refine v_pf o lpX8_133 (wfModel_o ha) ⟨rfl, rfl⟩ dX8_clearBuffer_12 ?_
  refine v_nmf (fun g12 eg12 => ?_)
  replace h := h g12 eg12
  refine v_iload_n o 0 dX8_clearBuffer_15 rfl ?_
  exact v_iret o rfl hr dX8_clearBuffer_16 h
abbrev kX8_clearBuffer := @vX8_clearBuffer
abbrev metX8_clearBuffer := @mX8_clearBuffer

def jX8_readsPart_189 (P : Sk) (a : Nat) (K : St → Prop) (x1 : Int32) (x2 : Int32) (y1 : Int32) (y2 : Int32) (f : St) : Prop :=
  ∀ g190 : St, g190 = setf f a 21 (y1 + y2) → K g190
def jX8_readsPart_172 (P : Sk) (a : Nat) (K : St → Prop) (x1 : Int32) (x2 : Int32) (f : St) : Prop :=
  (f a 19 = 0 → jX8_readsPart_189 P a K x1 x2 (f a 21) 0 f) ∧ (¬ f a 19 = 0 → jX8_readsPart_189 P a K x1 x2 (f a 21) 1 f)
def jX8_readsPart_141 (P : Sk) (a : Nat) (K : St → Prop) (x1 : Int32) (x2 : Int32) (f : St) : Prop :=
  (¬ x2 = 106 → jX8_readsPart_172 P a K x1 x2 f) ∧ (x2 = 106 → kX8_reads P f a 47 47 (fun r152 g152 => kX8_reads P g152 a 48 53 (fun r168 g168 => vp_in (x1 + 2) 132 ∧ (∀ g171 : St, g171 = setf g168 (a + 10) (x1 + 2).toNatClampNeg r168 → jX8_readsPart_172 P a K x1 x2 g171))))
def jX8_readsPart_80 (P : Sk) (a : Nat) (K : St → Prop) (x1 : Int32) (x2 : Int32) (y1 : Int32) (y2 : Int32) (f : St) : Prop :=
  ∀ g81 : St, g81 = setf f a 18 (y1 + y2) → vp_in x1 132 ∧ (∀ g90 : St, g90 = setf g81 (a + 10) x1.toNatClampNeg x2 → kX8_reads P g90 a 48 53 (fun r103 g103 => vp_in (x1 + 1) 132 ∧ (∀ g106 : St, g106 = setf g103 (a + 10) (x1 + 1).toNatClampNeg r103 → (¬ x2 = 120 → jX8_readsPart_141 P a K x1 x2 g106) ∧ (x2 = 120 → kX8_reads P g106 a 97 102 (fun r125 g125 => vp_in (x1 + 2) 132 ∧ (∀ g128 : St, g128 = setf g125 (a + 10) (x1 + 2).toNatClampNeg r125 → kX8_readsSide P g128 a (fun r137 g137 => vp_in (x1 + 3) 132 ∧ (∀ g140 : St, g140 = setf g137 (a + 10) (x1 + 3).toNatClampNeg r137 → jX8_readsPart_141 P a K x1 x2 g140))))))))
def jX8_readsPart_60 (P : Sk) (a : Nat) (K : St → Prop) (x1 : Int32) (x2 : Int32) (y1 : Int32) (f : St) : Prop :=
  (y1 = 0 ∨ y1 = 1) ∧ (∀ g60 : St, g60 = setf f a 19 y1 → (g60 a 19 = 0 → jX8_readsPart_80 P a K x1 x2 (g60 a 18) 0 g60) ∧ (¬ g60 a 19 = 0 → jX8_readsPart_80 P a K x1 x2 (g60 a 18) 1 g60))
def jX8_readsPart_55 (P : Sk) (a : Nat) (K : St → Prop) (x1 : Int32) (x2 : Int32) (f : St) : Prop :=
  jX8_readsPart_60 P a K x1 x2 1 f
def vX8_readsPart (P : Sk) (f : St) (a : Nat) (K : St → Prop) : Prop :=
  ∀ x1_6 : Int32, x1_6 = 4 * (f a 21) → kX8_sign P f a (fun r8 g8 => (r8 = 120 → jX8_readsPart_55 P a K x1_6 r8 g8) ∧ (¬ r8 = 120 → (r8 = 109 → jX8_readsPart_55 P a K x1_6 r8 g8) ∧ (¬ r8 = 109 → (r8 = 116 → jX8_readsPart_55 P a K x1_6 r8 g8) ∧ (¬ r8 = 116 → (r8 = 114 → jX8_readsPart_55 P a K x1_6 r8 g8) ∧ (¬ r8 = 114 → (r8 = 108 → jX8_readsPart_55 P a K x1_6 r8 g8) ∧ (¬ r8 = 108 → (r8 = 106 → jX8_readsPart_55 P a K x1_6 r8 g8) ∧ (¬ r8 = 106 → (¬ r8 = 122 → jX8_readsPart_60 P a K x1_6 r8 0 g8) ∧ (r8 = 122 → jX8_readsPart_55 P a K x1_6 r8 g8))))))))
set_option maxRecDepth 20000 in
set_option maxHeartbeats 4000000 in
theorem mX8_readsPart (l : Launch) (G : Gl) (P : Sk) (f : St) (sz : Nat) (a : Nat) (ha : IsModel P a) (K : St → Prop) (h : vX8_readsPart P f a K)  :
  Met l yX8_readsPart (wU yX8_readsPart cX8_readsPart 3 none) rmX8_readsPart (PcW G P f sz [.ref a]) (QcV G P sz K) 0 0 (frA P sz) := by
  refine v_met (own := RX8) [.ref a] (by decide +kernel) rfl (Nat.le_of_ble_eq_true rfl) (fun p e s m args below meth c hsz o hr hnm => ?_)
  refine v_lv (lv2 := [(0, .ref a)]) rfl ?_
  have J189 : ∀ (x1_189 : Int32) (x2_189 : Int32) (y1_189 : Int32) (y2_189 : Int32) (g189 : St), jX8_readsPart_189 P a K x1_189 x2_189 y1_189 y2_189 g189 → V p l e rmX8_readsPart s m args below meth c 3 G (frA P sz) (MQ below (QcV G P sz K) args s 0 0 (frA P sz)) 0 0 P [(0, .ref a), (1, .int x1_189), (2, .int x2_189)] [.int y2_189, .int y1_189, .ref a] 189 g189 := by
    intro x1_189 x2_189 y1_189 y2_189 g189  h
    unfold jX8_readsPart_189 at h
    refine v_iadd o dX8_readsPart_189 ?_
    refine v_pf o lpX8_168 (wfModel_o ha) ⟨rfl, rfl⟩ dX8_readsPart_190 ?_
    refine v_nmf (fun g190 eg190 => ?_)
    replace h := h g190 eg190
    exact v_vret o rfl hr dX8_readsPart_193 h
  have J172 : ∀ (x1_172 : Int32) (x2_172 : Int32) (g172 : St), jX8_readsPart_172 P a K x1_172 x2_172 g172 → V p l e rmX8_readsPart s m args below meth c 3 G (frA P sz) (MQ below (QcV G P sz K) args s 0 0 (frA P sz)) 0 0 P [(0, .ref a), (1, .int x1_172), (2, .int x2_172)] [] 172 g172 := by
    intro x1_172 x2_172 g172  h
    unfold jX8_readsPart_172 at h
    refine v_aload_n o 0 dX8_readsPart_172 rfl ?_
    refine v_dup o dX8_readsPart_173 rfl ?_
    refine v_gfI o lkX8_168 (by decide) (wfModel_o ha) dX8_readsPart_174 ?_
    refine v_aload_n o 0 dX8_readsPart_177 rfl ?_
    refine v_gfI o lkX8_155 (by decide) (wfModel_o ha) dX8_readsPart_178 ?_
    refine v_if_eq o (tgt := 188) dX8_readsPart_181 (by decide) (fun c181 => ?_) (fun c181 => ?_)
    · replace h := h.1 c181
      refine v_iconst o (v := 0) dX8_readsPart_188 (by decide) ?_
      refine v_sub [0, 1, 2] (lv2 := [(0, .ref a), (1, .int x1_172), (2, .int x2_172)]) rfl ?_
      exact J189 x1_172 x2_172 (g172 a 21) 0 g172  h
    · replace h := h.2 c181
      refine v_iconst o (v := 1) dX8_readsPart_184 (by decide) ?_
      refine v_goto o (tgt := 189) dX8_readsPart_185 (by decide) ?_
      refine v_sub [0, 1, 2] (lv2 := [(0, .ref a), (1, .int x1_172), (2, .int x2_172)]) rfl ?_
      exact J189 x1_172 x2_172 (g172 a 21) 1 g172  h
  have J141 : ∀ (x1_141 : Int32) (x2_141 : Int32) (g141 : St), jX8_readsPart_141 P a K x1_141 x2_141 g141 → V p l e rmX8_readsPart s m args below meth c 3 G (frA P sz) (MQ below (QcV G P sz K) args s 0 0 (frA P sz)) 0 0 P [(0, .ref a), (1, .int x1_141), (2, .int x2_141)] [] 141 g141 := by
    intro x1_141 x2_141 g141  h
    unfold jX8_readsPart_141 at h
    refine v_iload_n o 2 dX8_readsPart_141 rfl ?_
    refine v_bipush o (v := 106) dX8_readsPart_142 (by decide) ?_
    refine v_icmp_ne o (tgt := 172) dX8_readsPart_144 (by decide) (fun c144 => ?_) (fun c144 => ?_)
    · replace h := h.1 c144
      refine v_sub [0, 1, 2] (lv2 := [(0, .ref a), (1, .int x1_141), (2, .int x2_141)]) rfl ?_
      exact J172 x1_141 x2_141 g141  h
    · replace h := h.2 c144
      refine v_aload_n o 0 dX8_readsPart_147 rfl ?_
      refine v_bipush o (v := 47) dX8_readsPart_148 (by decide) ?_
      refine v_bipush o (v := 47) dX8_readsPart_150 (by decide) ?_
      refine v_cVi o [.int 47, .int 47] [] (fun sz => metX8_reads l G P g141 sz a ha 47 47 _ h) (cwX8_162 o.1.2.2.2.2 (by decide)) ⟨_, _, rfl⟩ (by decide) (wfModel_o ha) rfl (Nat.le_of_ble_eq_true rfl) ⟨Nat.zero_le _, Nat.zero_le _⟩ dX8_readsPart_152 rfl (fun r152 g152 h => ?_)
      refine v_pop o dX8_readsPart_155 rfl ?_
      refine v_aload_n o 0 dX8_readsPart_156 rfl ?_
      refine v_gfR o lkX8_37 (by decide) (wfModel_o ha) (wfModel_r20 ha) dX8_readsPart_157 ?_
      refine v_iload_n o 1 dX8_readsPart_160 rfl ?_
      refine v_iconst o (v := 2) dX8_readsPart_161 (by decide) ?_
      refine v_iadd o dX8_readsPart_162 ?_
      refine v_aload_n o 0 dX8_readsPart_163 rfl ?_
      refine v_bipush o (v := 48) dX8_readsPart_164 (by decide) ?_
      refine v_bipush o (v := 53) dX8_readsPart_166 (by decide) ?_
      refine v_cVi o [.int 48, .int 53] [.int (x1_141 + 2), .ref (a + 10)] (fun sz => metX8_reads l G P g152 sz a ha 48 53 _ h) (cwX8_162 o.1.2.2.2.2 (by decide)) ⟨_, _, rfl⟩ (by decide) (wfModel_o ha) rfl (Nat.le_of_ble_eq_true rfl) ⟨Nat.zero_le _, Nat.zero_le _⟩ dX8_readsPart_168 rfl (fun r168 g168 h => ?_)
      refine v_iast o (wfModel_t20 ha) (wfModel_n20 ha) h.1 dX8_readsPart_171 ?_
      replace h := h.2
      refine v_nmf (fun g171 eg171 => ?_)
      replace h := h g171 eg171
      refine v_sub [0, 1, 2] (lv2 := [(0, .ref a), (1, .int x1_141), (2, .int x2_141)]) rfl ?_
      exact J172 x1_141 x2_141 g171  h
  have J80 : ∀ (x1_80 : Int32) (x2_80 : Int32) (y1_80 : Int32) (y2_80 : Int32) (g80 : St), jX8_readsPart_80 P a K x1_80 x2_80 y1_80 y2_80 g80 → V p l e rmX8_readsPart s m args below meth c 3 G (frA P sz) (MQ below (QcV G P sz K) args s 0 0 (frA P sz)) 0 0 P [(0, .ref a), (1, .int x1_80), (2, .int x2_80)] [.int y2_80, .int y1_80, .ref a] 80 g80 := by
    intro x1_80 x2_80 y1_80 y2_80 g80  h
    unfold jX8_readsPart_80 at h
    refine v_iadd o dX8_readsPart_80 ?_
    refine v_pf o lpX8_152 (wfModel_o ha) ⟨rfl, rfl⟩ dX8_readsPart_81 ?_
    refine v_nmf (fun g81 eg81 => ?_)
    replace h := h g81 eg81
    refine v_aload_n o 0 dX8_readsPart_84 rfl ?_
    refine v_gfR o lkX8_37 (by decide) (wfModel_o ha) (wfModel_r20 ha) dX8_readsPart_85 ?_
    refine v_iload_n o 1 dX8_readsPart_88 rfl ?_
    refine v_iload_n o 2 dX8_readsPart_89 rfl ?_
    refine v_iast o (wfModel_t20 ha) (wfModel_n20 ha) h.1 dX8_readsPart_90 ?_
    replace h := h.2
    refine v_nmf (fun g90 eg90 => ?_)
    replace h := h g90 eg90
    refine v_aload_n o 0 dX8_readsPart_91 rfl ?_
    refine v_gfR o lkX8_37 (by decide) (wfModel_o ha) (wfModel_r20 ha) dX8_readsPart_92 ?_
    refine v_iload_n o 1 dX8_readsPart_95 rfl ?_
    refine v_iconst o (v := 1) dX8_readsPart_96 (by decide) ?_
    refine v_iadd o dX8_readsPart_97 ?_
    refine v_aload_n o 0 dX8_readsPart_98 rfl ?_
    refine v_bipush o (v := 48) dX8_readsPart_99 (by decide) ?_
    refine v_bipush o (v := 53) dX8_readsPart_101 (by decide) ?_
    refine v_cVi o [.int 48, .int 53] [.int (x1_80 + 1), .ref (a + 10)] (fun sz => metX8_reads l G P g90 sz a ha 48 53 _ h) (cwX8_162 o.1.2.2.2.2 (by decide)) ⟨_, _, rfl⟩ (by decide) (wfModel_o ha) rfl (Nat.le_of_ble_eq_true rfl) ⟨Nat.zero_le _, Nat.zero_le _⟩ dX8_readsPart_103 rfl (fun r103 g103 h => ?_)
    refine v_iast o (wfModel_t20 ha) (wfModel_n20 ha) h.1 dX8_readsPart_106 ?_
    replace h := h.2
    refine v_nmf (fun g106 eg106 => ?_)
    replace h := h g106 eg106
    refine v_iload_n o 2 dX8_readsPart_107 rfl ?_
    refine v_bipush o (v := 120) dX8_readsPart_108 (by decide) ?_
    refine v_icmp_ne o (tgt := 141) dX8_readsPart_110 (by decide) (fun c110 => ?_) (fun c110 => ?_)
    · replace h := h.1 c110
      refine v_sub [0, 1, 2] (lv2 := [(0, .ref a), (1, .int x1_80), (2, .int x2_80)]) rfl ?_
      exact J141 x1_80 x2_80 g106  h
    · replace h := h.2 c110
      refine v_aload_n o 0 dX8_readsPart_113 rfl ?_
      refine v_gfR o lkX8_37 (by decide) (wfModel_o ha) (wfModel_r20 ha) dX8_readsPart_114 ?_
      refine v_iload_n o 1 dX8_readsPart_117 rfl ?_
      refine v_iconst o (v := 2) dX8_readsPart_118 (by decide) ?_
      refine v_iadd o dX8_readsPart_119 ?_
      refine v_aload_n o 0 dX8_readsPart_120 rfl ?_
      refine v_bipush o (v := 97) dX8_readsPart_121 (by decide) ?_
      refine v_bipush o (v := 102) dX8_readsPart_123 (by decide) ?_
      refine v_cVi o [.int 97, .int 102] [.int (x1_80 + 2), .ref (a + 10)] (fun sz => metX8_reads l G P g106 sz a ha 97 102 _ h) (cwX8_162 o.1.2.2.2.2 (by decide)) ⟨_, _, rfl⟩ (by decide) (wfModel_o ha) rfl (Nat.le_of_ble_eq_true rfl) ⟨Nat.zero_le _, Nat.zero_le _⟩ dX8_readsPart_125 rfl (fun r125 g125 h => ?_)
      refine v_iast o (wfModel_t20 ha) (wfModel_n20 ha) h.1 dX8_readsPart_128 ?_
      replace h := h.2
      refine v_nmf (fun g128 eg128 => ?_)
      replace h := h g128 eg128
      refine v_aload_n o 0 dX8_readsPart_129 rfl ?_
      refine v_gfR o lkX8_37 (by decide) (wfModel_o ha) (wfModel_r20 ha) dX8_readsPart_130 ?_
      refine v_iload_n o 1 dX8_readsPart_133 rfl ?_
      refine v_iconst o (v := 3) dX8_readsPart_134 (by decide) ?_
      refine v_iadd o dX8_readsPart_135 ?_
      refine v_aload_n o 0 dX8_readsPart_136 rfl ?_
      refine v_cVi o [] [.int (x1_80 + 3), .ref (a + 10)] (fun sz => metX8_readsSide l G P g128 sz a ha _ h) (cwX8_165 o.1.2.2.2.2 (by decide)) ⟨_, _, rfl⟩ (by decide) (wfModel_o ha) rfl (Nat.le_of_ble_eq_true rfl) ⟨Nat.zero_le _, Nat.zero_le _⟩ dX8_readsPart_137 rfl (fun r137 g137 h => ?_)
      refine v_iast o (wfModel_t20 ha) (wfModel_n20 ha) h.1 dX8_readsPart_140 ?_
      replace h := h.2
      refine v_nmf (fun g140 eg140 => ?_)
      replace h := h g140 eg140
      refine v_sub [0, 1, 2] (lv2 := [(0, .ref a), (1, .int x1_80), (2, .int x2_80)]) rfl ?_
      exact J141 x1_80 x2_80 g140  h
  have J60 : ∀ (x1_60 : Int32) (x2_60 : Int32) (y1_60 : Int32) (g60 : St), jX8_readsPart_60 P a K x1_60 x2_60 y1_60 g60 → V p l e rmX8_readsPart s m args below meth c 3 G (frA P sz) (MQ below (QcV G P sz K) args s 0 0 (frA P sz)) 0 0 P [(0, .ref a), (1, .int x1_60), (2, .int x2_60)] [.int y1_60, .ref a] 60 g60 := by
    intro x1_60 x2_60 y1_60 g60  h
    unfold jX8_readsPart_60 at h
    refine v_pf o lpX8_155 (wfModel_o ha) (bzz h.1) dX8_readsPart_60 ?_
    replace h := h.2
    refine v_nmf (fun g60 eg60 => ?_)
    replace h := h g60 eg60
    refine v_aload_n o 0 dX8_readsPart_63 rfl ?_
    refine v_dup o dX8_readsPart_64 rfl ?_
    refine v_gfI o lkX8_152 (by decide) (wfModel_o ha) dX8_readsPart_65 ?_
    refine v_aload_n o 0 dX8_readsPart_68 rfl ?_
    refine v_gfI o lkX8_155 (by decide) (wfModel_o ha) dX8_readsPart_69 ?_
    refine v_if_eq o (tgt := 79) dX8_readsPart_72 (by decide) (fun c72 => ?_) (fun c72 => ?_)
    · replace h := h.1 c72
      refine v_iconst o (v := 0) dX8_readsPart_79 (by decide) ?_
      refine v_sub [0, 1, 2] (lv2 := [(0, .ref a), (1, .int x1_60), (2, .int x2_60)]) rfl ?_
      exact J80 x1_60 x2_60 (g60 a 18) 0 g60  h
    · replace h := h.2 c72
      refine v_iconst o (v := 1) dX8_readsPart_75 (by decide) ?_
      refine v_goto o (tgt := 80) dX8_readsPart_76 (by decide) ?_
      refine v_sub [0, 1, 2] (lv2 := [(0, .ref a), (1, .int x1_60), (2, .int x2_60)]) rfl ?_
      exact J80 x1_60 x2_60 (g60 a 18) 1 g60  h
  have J55 : ∀ (x1_55 : Int32) (x2_55 : Int32) (g55 : St), jX8_readsPart_55 P a K x1_55 x2_55 g55 → V p l e rmX8_readsPart s m args below meth c 3 G (frA P sz) (MQ below (QcV G P sz K) args s 0 0 (frA P sz)) 0 0 P [(0, .ref a), (1, .int x1_55), (2, .int x2_55)] [.ref a] 55 g55 := by
    intro x1_55 x2_55 g55  h
    unfold jX8_readsPart_55 at h
    refine v_iconst o (v := 1) dX8_readsPart_55 (by decide) ?_
    refine v_goto o (tgt := 60) dX8_readsPart_56 (by decide) ?_
    refine v_sub [0, 1, 2] (lv2 := [(0, .ref a), (1, .int x1_55), (2, .int x2_55)]) rfl ?_
    exact J60 x1_55 x2_55 1 g55  h
  unfold vX8_readsPart at h
  refine v_iconst o (v := 4) dX8_readsPart_0 (by decide) ?_
  refine v_aload_n o 0 dX8_readsPart_1 rfl ?_
  refine v_gfI o lkX8_168 (by decide) (wfModel_o ha) dX8_readsPart_2 ?_
  refine v_imul o dX8_readsPart_5 ?_
  refine v_topi (fun x1_6 ex1_6 => ?_)
  replace h := h x1_6 ex1_6
  refine v_istore_n o (lv' := [(1, .int x1_6), (0, .ref a)]) dX8_readsPart_6 rfl (by decide) rfl ?_
  refine v_aload_n o 1 dX8_readsPart_7 rfl ?_
  refine v_cVi o [] [] (fun sz => metX8_sign l G P f sz a ha _ h) (cwX8_159 o.1.2.2.2.2 (by decide)) ⟨_, _, rfl⟩ (by decide) (wfModel_o ha) rfl (Nat.le_of_ble_eq_true rfl) ⟨Nat.zero_le _, Nat.zero_le _⟩ dX8_readsPart_8 rfl (fun r8 g8 h => ?_)
  refine v_istore_n o (lv' := [(2, .int r8), (1, .int x1_6), (0, .ref a)]) dX8_readsPart_11 rfl (by decide) rfl ?_
  refine v_aload_n o 2 dX8_readsPart_12 rfl ?_
  refine v_iload_n o 0 dX8_readsPart_13 rfl ?_
  refine v_bipush o (v := 120) dX8_readsPart_14 (by decide) ?_
  refine v_icmp_eq o (tgt := 55) dX8_readsPart_16 (by decide) (fun c16 => ?_) (fun c16 => ?_)
  · replace h := h.1 c16
    refine v_sub [2, 1, 0] (lv2 := [(0, .ref a), (1, .int x1_6), (2, .int r8)]) rfl ?_
    exact J55 x1_6 r8 g8  h
  · replace h := h.2 c16
    refine v_iload_n o 0 dX8_readsPart_19 rfl ?_
    refine v_bipush o (v := 109) dX8_readsPart_20 (by decide) ?_
    refine v_icmp_eq o (tgt := 55) dX8_readsPart_22 (by decide) (fun c22 => ?_) (fun c22 => ?_)
    · replace h := h.1 c22
      refine v_sub [2, 1, 0] (lv2 := [(0, .ref a), (1, .int x1_6), (2, .int r8)]) rfl ?_
      exact J55 x1_6 r8 g8  h
    · replace h := h.2 c22
      refine v_iload_n o 0 dX8_readsPart_25 rfl ?_
      refine v_bipush o (v := 116) dX8_readsPart_26 (by decide) ?_
      refine v_icmp_eq o (tgt := 55) dX8_readsPart_28 (by decide) (fun c28 => ?_) (fun c28 => ?_)
      · replace h := h.1 c28
        refine v_sub [2, 1, 0] (lv2 := [(0, .ref a), (1, .int x1_6), (2, .int r8)]) rfl ?_
        exact J55 x1_6 r8 g8  h
      · replace h := h.2 c28
        refine v_iload_n o 0 dX8_readsPart_31 rfl ?_
        refine v_bipush o (v := 114) dX8_readsPart_32 (by decide) ?_
        refine v_icmp_eq o (tgt := 55) dX8_readsPart_34 (by decide) (fun c34 => ?_) (fun c34 => ?_)
        · replace h := h.1 c34
          refine v_sub [2, 1, 0] (lv2 := [(0, .ref a), (1, .int x1_6), (2, .int r8)]) rfl ?_
          exact J55 x1_6 r8 g8  h
        · replace h := h.2 c34
          refine v_iload_n o 0 dX8_readsPart_37 rfl ?_
          refine v_bipush o (v := 108) dX8_readsPart_38 (by decide) ?_
          refine v_icmp_eq o (tgt := 55) dX8_readsPart_40 (by decide) (fun c40 => ?_) (fun c40 => ?_)
          · replace h := h.1 c40
            refine v_sub [2, 1, 0] (lv2 := [(0, .ref a), (1, .int x1_6), (2, .int r8)]) rfl ?_
            exact J55 x1_6 r8 g8  h
          · replace h := h.2 c40
            refine v_iload_n o 0 dX8_readsPart_43 rfl ?_
            refine v_bipush o (v := 106) dX8_readsPart_44 (by decide) ?_
            refine v_icmp_eq o (tgt := 55) dX8_readsPart_46 (by decide) (fun c46 => ?_) (fun c46 => ?_)
            · replace h := h.1 c46
              refine v_sub [2, 1, 0] (lv2 := [(0, .ref a), (1, .int x1_6), (2, .int r8)]) rfl ?_
              exact J55 x1_6 r8 g8  h
            · replace h := h.2 c46
              refine v_iload_n o 0 dX8_readsPart_49 rfl ?_
              refine v_bipush o (v := 122) dX8_readsPart_50 (by decide) ?_
              refine v_icmp_ne o (tgt := 59) dX8_readsPart_52 (by decide) (fun c52 => ?_) (fun c52 => ?_)
              · replace h := h.1 c52
                refine v_iconst o (v := 0) dX8_readsPart_59 (by decide) ?_
                refine v_sub [2, 1, 0] (lv2 := [(0, .ref a), (1, .int x1_6), (2, .int r8)]) rfl ?_
                exact J60 x1_6 r8 0 g8  h
              · replace h := h.2 c52
                refine v_sub [2, 1, 0] (lv2 := [(0, .ref a), (1, .int x1_6), (2, .int r8)]) rfl ?_
                exact J55 x1_6 r8 g8  h
abbrev kX8_readsPart := @vX8_readsPart
abbrev metX8_readsPart := @mX8_readsPart

def jX8_readsWorks_60 (P : Sk) (a : Nat) (L19 : St → Prop) (K : Int32 → St → Prop) (f : St) : Prop :=
  (f a 19 = 0 ∨ f a 19 = 1) ∧ K (f a 19) f
def bX8_readsWorks_19 (P : Sk) (a : Nat) (L19 : St → Prop) (K : Int32 → St → Prop) (f : St) : Prop :=
  (f a 19 = 0 → jX8_readsWorks_60 P a L19 K  f) ∧ (¬ f a 19 = 0 → (f a 7 ≤ f a 18 → jX8_readsWorks_60 P a L19 K  f) ∧ (¬ f a 7 ≤ f a 18 → kX8_reads P f a 59 59 (fun r42 g42 => (g42 a 19 = 0 → L19 g42) ∧ (¬ g42 a 19 = 0 → kX8_readsPart P g42 a (fun g54 => L19 g54)))))
def vX8_readsWorks (P : Sk) (f : St) (a : Nat) (L19 : St → Prop) (K : Int32 → St → Prop) : Prop :=
  ∀ g2 : St, g2 = setf f a 18 0 → ∀ g7 : St, g7 = setf g2 a 21 0 → ∀ g12 : St, g12 = setf g7 a 19 1 → kX8_readsPart P g12 a (fun g16 => L19 g16)
set_option maxRecDepth 20000 in
set_option maxHeartbeats 4000000 in
theorem mX8_readsWorks (l : Launch) (G : Gl) (P : Sk) (f : St) (sz : Nat) (a : Nat) (ha : IsModel P a) (K : Int32 → St → Prop) (I19 : St → Prop) (μ19 : St → Nat) 
  (h : vX8_readsWorks P f a I19 K)
  (h19 : ∀ (g : St) , I19 g  → bX8_readsWorks_19 P a (fun g'  => I19 g'  ∧ μ19 g'  < μ19 g ) K g ) :
  Met l yX8_readsWorks (wU yX8_readsWorks cX8_readsWorks 1 (some .boolean)) rmX8_readsWorks (PcW G P f sz [.ref a]) (QcI G P sz K) 0 0 (frA P sz) := by
  refine v_met (own := RX8) [.ref a] (by decide +kernel) rfl (Nat.le_of_ble_eq_true rfl) (fun p e s m args below meth c hsz o hr hnm => ?_)
  refine v_lv (lv2 := [(0, .ref a)]) rfl ?_
  have main : ∀ n : Nat, (∀ (g : St) , I19 g  → μ19 g  < n → V p l e rmX8_readsWorks s m args below meth c 1 G (frA P sz) (MQ below (QcI G P sz K) args s 0 0 (frA P sz)) 0 0 P [(0, .ref a)] [] 19 g) := by
    intro n
    induction n with
    | zero => exact fun g  hI hm => absurd hm (Nat.not_lt_zero _)
    | succ n ih =>
      intro g  hI hm
      have h := h19 g  hI
      clear hI
      have J60 : ∀ (g60 : St), jX8_readsWorks_60 P a (fun g'  => I19 g'  ∧ μ19 g'  < μ19 g ) K  g60 → V p l e rmX8_readsWorks s m args below meth c 1 G (frA P sz) (MQ below (QcI G P sz K) args s 0 0 (frA P sz)) 0 0 P [(0, .ref a)] [] 60 g60 := by
        intro  g60  h
        unfold jX8_readsWorks_60 at h
        refine v_aload_n o 0 dX8_readsWorks_60 rfl ?_
        refine v_gfI o lkX8_155 (by decide) (wfModel_o ha) dX8_readsWorks_61 ?_
        exact v_zret o rfl hr (bzz h.1).1 dX8_readsWorks_64 h.2
      unfold bX8_readsWorks_19 at h
      refine v_aload_n o 0 dX8_readsWorks_19 rfl ?_
      refine v_gfI o lkX8_155 (by decide) (wfModel_o ha) dX8_readsWorks_20 ?_
      refine v_if_eq o (tgt := 60) dX8_readsWorks_23 (by decide) (fun c23 => ?_) (fun c23 => ?_)
      · replace h := h.1 c23
        refine v_sub [0] (lv2 := [(0, .ref a)]) rfl ?_
        exact J60  g  h
      · replace h := h.2 c23
        refine v_aload_n o 0 dX8_readsWorks_26 rfl ?_
        refine v_gfI o lkX8_152 (by decide) (wfModel_o ha) dX8_readsWorks_27 ?_
        refine v_aload_n o 0 dX8_readsWorks_30 rfl ?_
        refine v_gfI o lkX8_133 (by decide) (wfModel_o ha) dX8_readsWorks_31 ?_
        refine v_icmp_ge o (tgt := 60) dX8_readsWorks_34 (by decide) (fun c34 => ?_) (fun c34 => ?_)
        · replace h := h.1 c34
          refine v_sub [0] (lv2 := [(0, .ref a)]) rfl ?_
          exact J60  g  h
        · replace h := h.2 c34
          refine v_aload_n o 0 dX8_readsWorks_37 rfl ?_
          refine v_bipush o (v := 59) dX8_readsWorks_38 (by decide) ?_
          refine v_bipush o (v := 59) dX8_readsWorks_40 (by decide) ?_
          refine v_cVi o [.int 59, .int 59] [] (fun sz => metX8_reads l G P g sz a ha 59 59 _ h) (cwX8_162 o.1.2.2.2.2 (by decide)) ⟨_, _, rfl⟩ (by decide) (wfModel_o ha) rfl (Nat.le_of_ble_eq_true rfl) ⟨Nat.zero_le _, Nat.zero_le _⟩ dX8_readsWorks_42 rfl (fun r42 g42 h => ?_)
          refine v_pop o dX8_readsWorks_45 rfl ?_
          refine v_aload_n o 0 dX8_readsWorks_46 rfl ?_
          refine v_gfI o lkX8_155 (by decide) (wfModel_o ha) dX8_readsWorks_47 ?_
          refine v_if_eq o (tgt := 19) dX8_readsWorks_50 (by decide) (fun c50 => ?_) (fun c50 => ?_)
          · replace h := h.1 c50
            refine v_sub [0] (lv2 := [(0, .ref a)]) rfl ?_
            exact ih g42   h.1 (by have := h.2; omega)
          · replace h := h.2 c50
            refine v_aload_n o 0 dX8_readsWorks_53 rfl ?_
            refine v_cVv o [] [] (fun sz => metX8_readsPart l G P g42 sz a ha _ h) (cwX8_171 o.1.2.2.2.2 (by decide)) ⟨_, _, rfl⟩ (by decide) (wfModel_o ha) rfl (Nat.le_of_ble_eq_true rfl) ⟨Nat.zero_le _, Nat.zero_le _⟩ dX8_readsWorks_54 rfl (fun g54 h => ?_)
            refine v_goto o (tgt := 19) dX8_readsWorks_57 (by decide) ?_
            refine v_sub [0] (lv2 := [(0, .ref a)]) rfl ?_
            exact ih g54   h.1 (by have := h.2; omega)
  unfold vX8_readsWorks at h
  refine v_aload_n o 0 dX8_readsWorks_0 rfl ?_
  refine v_iconst o (v := 0) dX8_readsWorks_1 (by decide) ?_
  refine v_pf o lpX8_152 (wfModel_o ha) ⟨rfl, rfl⟩ dX8_readsWorks_2 ?_
  refine v_nmf (fun g2 eg2 => ?_)
  replace h := h g2 eg2
  refine v_aload_n o 0 dX8_readsWorks_5 rfl ?_
  refine v_iconst o (v := 0) dX8_readsWorks_6 (by decide) ?_
  refine v_pf o lpX8_168 (wfModel_o ha) ⟨rfl, rfl⟩ dX8_readsWorks_7 ?_
  refine v_nmf (fun g7 eg7 => ?_)
  replace h := h g7 eg7
  refine v_aload_n o 0 dX8_readsWorks_10 rfl ?_
  refine v_iconst o (v := 1) dX8_readsWorks_11 (by decide) ?_
  refine v_pf o lpX8_155 (wfModel_o ha) bz1 dX8_readsWorks_12 ?_
  refine v_nmf (fun g12 eg12 => ?_)
  replace h := h g12 eg12
  refine v_aload_n o 0 dX8_readsWorks_15 rfl ?_
  refine v_cVv o [] [] (fun sz => metX8_readsPart l G P g12 sz a ha _ h) (cwX8_171 o.1.2.2.2.2 (by decide)) ⟨_, _, rfl⟩ (by decide) (wfModel_o ha) rfl (Nat.le_of_ble_eq_true rfl) ⟨Nat.zero_le _, Nat.zero_le _⟩ dX8_readsWorks_16 rfl (fun g16 h => ?_)
  refine v_sub [0] (lv2 := [(0, .ref a)]) rfl ?_
  exact (main (μ19 g16  + 1)) g16   h (Nat.lt_succ_self _)
def kX8_readsWorks (P : Sk) (f : St) (a : Nat) (K : Int32 → St → Prop) : Prop := False
theorem metX8_readsWorks (l : Launch) (G : Gl) (P : Sk) (f : St) (sz : Nat) (a : Nat) (ha : IsModel P a) (K : Int32 → St → Prop) (h : kX8_readsWorks P f a K) : Met l yX8_readsWorks (wU yX8_readsWorks cX8_readsWorks 1 (some .boolean)) rmX8_readsWorks (PcW G P f sz [.ref a]) (QcI G P sz K) 0 0 (frA P sz) := sorry

def jX8_firstError_20 (P : Sk) (a : Nat) (p1 : Int32) (K : Int32 → St → Prop) (y0 : Int32) (f : St) : Prop :=
  (y0 = 0 → K (f a 18) f) ∧ (¬ y0 = 0 → K (f a 7) f)
def vX8_firstError (P : Sk) (f : St) (a : Nat) (p1 : Int32) (K : Int32 → St → Prop) : Prop :=
  ∀ g2 : St, g2 = setf f a 0 0 → (p1 = 0 → kX8_readsLoaf P g2 a (fun r17 g17 => jX8_firstError_20 P a p1 K r17 g17)) ∧ (¬ p1 = 0 → kX8_readsWorks P g2 a (fun r10 g10 => jX8_firstError_20 P a p1 K r10 g10))
set_option maxRecDepth 20000 in
set_option maxHeartbeats 4000000 in
theorem mX8_firstError (l : Launch) (G : Gl) (P : Sk) (f : St) (sz : Nat) (a : Nat) (ha : IsModel P a) (p1 : Int32) (K : Int32 → St → Prop) (h : vX8_firstError P f a p1 K)  :
  Met l yX8_firstError (wU yX8_firstError cX8_firstError 3 (some .int)) rmX8_firstError (PcW G P f sz [.ref a, .int p1]) (QcI G P sz K) 0 0 (frA P sz) := by
  refine v_met (own := RX8) [.ref a, .int p1] (by decide +kernel) rfl (Nat.le_of_ble_eq_true rfl) (fun p e s m args below meth c hsz o hr hnm => ?_)
  refine v_lv (lv2 := [(0, .ref a), (1, .int p1)]) rfl ?_
  have J20 : ∀ (y0_20 : Int32) (g20 : St), jX8_firstError_20 P a p1 K y0_20 g20 → V p l e rmX8_firstError s m args below meth c 3 G (frA P sz) (MQ below (QcI G P sz K) args s 0 0 (frA P sz)) 0 0 P [(0, .ref a), (1, .int p1)] [.int y0_20] 20 g20 := by
    intro y0_20 g20  h
    unfold jX8_firstError_20 at h
    refine v_istore_n o (lv' := [(2, .int y0_20), (0, .ref a), (1, .int p1)]) dX8_firstError_20 rfl (by decide) rfl ?_
    refine v_iload_n o 0 dX8_firstError_21 rfl ?_
    refine v_if_eq o (tgt := 32) dX8_firstError_22 (by decide) (fun c22 => ?_) (fun c22 => ?_)
    · replace h := h.1 c22
      refine v_aload_n o 1 dX8_firstError_32 rfl ?_
      refine v_gfI o lkX8_152 (by decide) (wfModel_o ha) dX8_firstError_33 ?_
      exact v_iret o rfl hr dX8_firstError_36 h
    · replace h := h.2 c22
      refine v_aload_n o 1 dX8_firstError_25 rfl ?_
      refine v_gfI o lkX8_133 (by decide) (wfModel_o ha) dX8_firstError_26 ?_
      refine v_goto o (tgt := 36) dX8_firstError_29 (by decide) ?_
      exact v_iret o rfl hr dX8_firstError_36 h
  unfold vX8_firstError at h
  refine v_aload_n o 0 dX8_firstError_0 rfl ?_
  refine v_iconst o (v := 0) dX8_firstError_1 (by decide) ?_
  refine v_pf o lpX8_40 (wfModel_o ha) ⟨rfl, rfl⟩ dX8_firstError_2 ?_
  refine v_nmf (fun g2 eg2 => ?_)
  replace h := h g2 eg2
  refine v_iload_n o 1 dX8_firstError_5 rfl ?_
  refine v_if_eq o (tgt := 16) dX8_firstError_6 (by decide) (fun c6 => ?_) (fun c6 => ?_)
  · replace h := h.1 c6
    refine v_aload_n o 0 dX8_firstError_16 rfl ?_
    refine v_cVi o [] [] (fun sz => metX8_readsLoaf l G P g2 sz a ha _ h) (cwX8_119 o.1.2.2.2.2 (by decide)) ⟨_, _, rfl⟩ (by decide) (wfModel_o ha) rfl (Nat.le_of_ble_eq_true rfl) ⟨Nat.zero_le _, Nat.zero_le _⟩ dX8_firstError_17 rfl (fun r17 g17 h => ?_)
    refine v_sub [0, 1] (lv2 := [(0, .ref a), (1, .int p1)]) rfl ?_
    exact J20 r17 g17  h
  · replace h := h.2 c6
    refine v_aload_n o 0 dX8_firstError_9 rfl ?_
    refine v_cVi o [] [] (fun sz => metX8_readsWorks l G P g2 sz a ha _ h) (cwX8_174 o.1.2.2.2.2 (by decide)) ⟨_, _, rfl⟩ (by decide) (wfModel_o ha) rfl (Nat.le_of_ble_eq_true rfl) ⟨Nat.zero_le _, Nat.zero_le _⟩ dX8_firstError_10 rfl (fun r10 g10 h => ?_)
    refine v_goto o (tgt := 20) dX8_firstError_13 (by decide) ?_
    refine v_sub [0, 1] (lv2 := [(0, .ref a), (1, .int p1)]) rfl ?_
    exact J20 r10 g10  h
abbrev kX8_firstError := @vX8_firstError
abbrev metX8_firstError := @mX8_firstError

def vX8_howOf (P : Sk) (f : St) (p0 : Int32) (K : Int32 → St → Prop) : Prop :=
  (¬ p0 = 109 → (¬ p0 = 116 → (¬ p0 = 114 → K 3 f) ∧ (p0 = 114 → K 2 f)) ∧ (p0 = 116 → K 1 f)) ∧ (p0 = 109 → K 0 f)
set_option maxRecDepth 20000 in
set_option maxHeartbeats 4000000 in
theorem mX8_howOf (l : Launch) (G : Gl) (P : Sk) (f : St) (sz : Nat) (p0 : Int32) (K : Int32 → St → Prop) (h : vX8_howOf P f p0 K)  :
  Met l yX8_howOf (wU yX8_howOf cX8_howOf 1 (some .int)) rmX8_howOf (PcW G P f sz [.int p0]) (QcI G P sz K) 0 0 (frA P sz) := by
  refine v_met (own := RX8) [.int p0] (by decide +kernel) rfl (Nat.le_of_ble_eq_true rfl) (fun p e s m args below meth c hsz o hr hnm => ?_)
  refine v_lv (lv2 := [(0, .int p0)]) rfl ?_
  unfold vX8_howOf at h
  refine v_iload_n o 0 dX8_howOf_0 rfl ?_
  refine v_bipush o (v := 109) dX8_howOf_1 (by decide) ?_
  refine v_icmp_ne o (tgt := 10) dX8_howOf_3 (by decide) (fun c3 => ?_) (fun c3 => ?_)
  · replace h := h.1 c3
    refine v_iload_n o 0 dX8_howOf_10 rfl ?_
    refine v_bipush o (v := 116) dX8_howOf_11 (by decide) ?_
    refine v_icmp_ne o (tgt := 20) dX8_howOf_13 (by decide) (fun c13 => ?_) (fun c13 => ?_)
    · replace h := h.1 c13
      refine v_iload_n o 0 dX8_howOf_20 rfl ?_
      refine v_bipush o (v := 114) dX8_howOf_21 (by decide) ?_
      refine v_icmp_ne o (tgt := 30) dX8_howOf_23 (by decide) (fun c23 => ?_) (fun c23 => ?_)
      · replace h := h.1 c23
        refine v_iconst o (v := 3) dX8_howOf_30 (by decide) ?_
        exact v_iret o rfl hr dX8_howOf_31 h
      · replace h := h.2 c23
        refine v_iconst o (v := 2) dX8_howOf_26 (by decide) ?_
        refine v_goto o (tgt := 31) dX8_howOf_27 (by decide) ?_
        exact v_iret o rfl hr dX8_howOf_31 h
    · replace h := h.2 c13
      refine v_iconst o (v := 1) dX8_howOf_16 (by decide) ?_
      refine v_goto o (tgt := 31) dX8_howOf_17 (by decide) ?_
      exact v_iret o rfl hr dX8_howOf_31 h
  · replace h := h.2 c3
    refine v_iconst o (v := 0) dX8_howOf_6 (by decide) ?_
    refine v_goto o (tgt := 31) dX8_howOf_7 (by decide) ?_
    exact v_iret o rfl hr dX8_howOf_31 h
abbrev kX8_howOf := @vX8_howOf
abbrev metX8_howOf := @mX8_howOf

def jX8_does_144 (P : Sk) (a : Nat) (p1 : Int32) (K : Int32 → St → Prop) (x2 : Int32) (x3 : Int32) (x4 : Int32) (y1 : Int32) (y2 : Int32) (y3 : Int32) (f : St) : Prop :=
  vp_in y1 160 ∧ (∀ g145 : St, g145 = setf f (a + 1) y1.toNatClampNeg (y2 + y3) → K 0 g145)
def jX8_does_139 (P : Sk) (a : Nat) (p1 : Int32) (K : Int32 → St → Prop) (x2 : Int32) (x3 : Int32) (x4 : Int32) (y1 : Int32) (y2 : Int32) (f : St) : Prop :=
  jX8_does_144 P a p1 K x2 x3 x4 y1 y2 0 f
def jX8_does_91 (P : Sk) (a : Nat) (p1 : Int32) (K : Int32 → St → Prop) (x2 : Int32) (x3 : Int32) (y0 : Int32) (f : St) : Prop :=
  (y0 = 0 → (¬ x2 = 122 → kX8_puts P f a x3 (fun g117 => vp_in 1 160 ∧ ((x2 = 120 → jX8_does_139 P a p1 K x2 x3 y0 1 (g117 (a + 1) ((1 : Int32)).toNatClampNeg) g117) ∧ (¬ x2 = 120 → (¬ x2 = 106 → jX8_does_144 P a p1 K x2 x3 y0 1 (g117 (a + 1) ((1 : Int32)).toNatClampNeg) 1 g117) ∧ (x2 = 106 → jX8_does_139 P a p1 K x2 x3 y0 1 (g117 (a + 1) ((1 : Int32)).toNatClampNeg) g117))))) ∧ (x2 = 122 → kX8_takesBack P f a x3 (fun g109 => K 0 g109))) ∧ (¬ y0 = 0 → K y0 f)
def vX8_does (P : Sk) (f : St) (a : Nat) (p1 : Int32) (K : Int32 → St → Prop) : Prop :=
  vp_in p1 132 ∧ (∀ x2_6 : Int32, x2_6 = f (a + 10) p1.toNatClampNeg → vp_in (p1 + 1) 132 ∧ (∀ x3_15 : Int32, x3_15 = f (a + 10) (p1 + 1).toNatClampNeg → (¬ x2_6 = 120 → (¬ x2_6 = 106 → (¬ x2_6 = 122 → kX8_howOf P f x2_6 (fun r85 g85 => kX8_refusesChange P g85 a x3_15 r85 (fun r88 g88 => jX8_does_91 P a p1 K x2_6 x3_15 r88 g88))) ∧ (x2_6 = 122 → kX8_refusesBack P f a x3_15 (fun r76 g76 => jX8_does_91 P a p1 K x2_6 x3_15 r76 g76))) ∧ (x2_6 = 106 → vp_in (p1 + 2) 132 ∧ (kX8_refusesJoin P f a x3_15 (f (a + 10) (p1 + 2).toNatClampNeg) (fun r62 g62 => jX8_does_91 P a p1 K x2_6 x3_15 r62 g62)))) ∧ (x2_6 = 120 → vp_in (p1 + 2) 132 ∧ (vp_in (p1 + 3) 132 ∧ (kX8_refusesCross P f a x3_15 (f (a + 10) (p1 + 2).toNatClampNeg) (f (a + 10) (p1 + 3).toNatClampNeg) (fun r40 g40 => jX8_does_91 P a p1 K x2_6 x3_15 r40 g40))))))
set_option maxRecDepth 20000 in
set_option maxHeartbeats 4000000 in
theorem mX8_does (l : Launch) (G : Gl) (P : Sk) (f : St) (sz : Nat) (a : Nat) (ha : IsModel P a) (p1 : Int32) (K : Int32 → St → Prop) (h : vX8_does P f a p1 K)  :
  Met l yX8_does (wU yX8_does cX8_does 5 (some .int)) rmX8_does (PcW G P f sz [.ref a, .int p1]) (QcI G P sz K) 0 0 (frA P sz) := by
  refine v_met (own := RX8) [.ref a, .int p1] (by decide +kernel) rfl (Nat.le_of_ble_eq_true rfl) (fun p e s m args below meth c hsz o hr hnm => ?_)
  refine v_lv (lv2 := [(0, .ref a), (1, .int p1)]) rfl ?_
  have J144 : ∀ (x2_144 : Int32) (x3_144 : Int32) (x4_144 : Int32) (y1_144 : Int32) (y2_144 : Int32) (y3_144 : Int32) (g144 : St), jX8_does_144 P a p1 K x2_144 x3_144 x4_144 y1_144 y2_144 y3_144 g144 → V p l e rmX8_does s m args below meth c 5 G (frA P sz) (MQ below (QcI G P sz K) args s 0 0 (frA P sz)) 0 0 P [(0, .ref a), (1, .int p1), (2, .int x2_144), (3, .int x3_144), (4, .int x4_144)] [.int y3_144, .int y2_144, .int y1_144, .ref (a + 1)] 144 g144 := by
    intro x2_144 x3_144 x4_144 y1_144 y2_144 y3_144 g144  h
    unfold jX8_does_144 at h
    refine v_iadd o dX8_does_144 ?_
    refine v_iast o (wfModel_t1 ha) (wfModel_n1 ha) h.1 dX8_does_145 ?_
    replace h := h.2
    refine v_nmf (fun g145 eg145 => ?_)
    replace h := h g145 eg145
    refine v_iconst o (v := 0) dX8_does_146 (by decide) ?_
    exact v_iret o rfl hr dX8_does_147 h
  have J139 : ∀ (x2_139 : Int32) (x3_139 : Int32) (x4_139 : Int32) (y1_139 : Int32) (y2_139 : Int32) (g139 : St), jX8_does_139 P a p1 K x2_139 x3_139 x4_139 y1_139 y2_139 g139 → V p l e rmX8_does s m args below meth c 5 G (frA P sz) (MQ below (QcI G P sz K) args s 0 0 (frA P sz)) 0 0 P [(0, .ref a), (1, .int p1), (2, .int x2_139), (3, .int x3_139), (4, .int x4_139)] [.int y2_139, .int y1_139, .ref (a + 1)] 139 g139 := by
    intro x2_139 x3_139 x4_139 y1_139 y2_139 g139  h
    unfold jX8_does_139 at h
    refine v_iconst o (v := 0) dX8_does_139 (by decide) ?_
    refine v_goto o (tgt := 144) dX8_does_140 (by decide) ?_
    refine v_sub [0, 1, 2, 3, 4] (lv2 := [(0, .ref a), (1, .int p1), (2, .int x2_139), (3, .int x3_139), (4, .int x4_139)]) rfl ?_
    exact J144 x2_139 x3_139 x4_139 y1_139 y2_139 0 g139  h
  have J91 : ∀ (x2_91 : Int32) (x3_91 : Int32) (y0_91 : Int32) (g91 : St), jX8_does_91 P a p1 K x2_91 x3_91 y0_91 g91 → V p l e rmX8_does s m args below meth c 5 G (frA P sz) (MQ below (QcI G P sz K) args s 0 0 (frA P sz)) 0 0 P [(0, .ref a), (1, .int p1), (2, .int x2_91), (3, .int x3_91)] [.int y0_91] 91 g91 := by
    intro x2_91 x3_91 y0_91 g91  h
    unfold jX8_does_91 at h
    refine v_istore o (lv' := [(4, .int y0_91), (0, .ref a), (1, .int p1), (2, .int x2_91), (3, .int x3_91)]) dX8_does_91 (by decide) rfl ?_
    refine v_iload o 0 dX8_does_93 rfl ?_
    refine v_if_eq o (tgt := 101) dX8_does_95 (by decide) (fun c95 => ?_) (fun c95 => ?_)
    · replace h := h.1 c95
      refine v_iload_n o 3 dX8_does_101 rfl ?_
      refine v_bipush o (v := 122) dX8_does_102 (by decide) ?_
      refine v_icmp_ne o (tgt := 115) dX8_does_104 (by decide) (fun c104 => ?_) (fun c104 => ?_)
      · replace h := h.1 c104
        refine v_aload_n o 1 dX8_does_115 rfl ?_
        refine v_iload_n o 4 dX8_does_116 rfl ?_
        refine v_cVv o [.int x3_91] [] (fun sz => metX8_puts l G P g91 sz a ha x3_91 _ h) (cwX8_130 o.1.2.2.2.2 (by decide)) ⟨_, _, rfl⟩ (by decide) (wfModel_o ha) rfl (Nat.le_of_ble_eq_true rfl) ⟨Nat.zero_le _, Nat.zero_le _⟩ dX8_does_117 rfl (fun g117 h => ?_)
        refine v_aload_n o 1 dX8_does_120 rfl ?_
        refine v_gfR o lkX8_7 (by decide) (wfModel_o ha) (wfModel_r1 ha) dX8_does_121 ?_
        refine v_iconst o (v := 1) dX8_does_124 (by decide) ?_
        refine v_dup2 o dX8_does_125 rfl rfl ?_
        refine v_iald o (wfModel_t1 ha) (wfModel_n1 ha) h.1 dX8_does_126 ?_
        replace h := h.2
        refine v_iload_n o 3 dX8_does_127 rfl ?_
        refine v_bipush o (v := 120) dX8_does_128 (by decide) ?_
        refine v_icmp_eq o (tgt := 139) dX8_does_130 (by decide) (fun c130 => ?_) (fun c130 => ?_)
        · replace h := h.1 c130
          refine v_sub [1, 2, 3, 4, 0] (lv2 := [(0, .ref a), (1, .int p1), (2, .int x2_91), (3, .int x3_91), (4, .int y0_91)]) rfl ?_
          exact J139 x2_91 x3_91 y0_91 1 (g117 (a + 1) ((1 : Int32)).toNatClampNeg) g117  h
        · replace h := h.2 c130
          refine v_iload_n o 3 dX8_does_133 rfl ?_
          refine v_bipush o (v := 106) dX8_does_134 (by decide) ?_
          refine v_icmp_ne o (tgt := 143) dX8_does_136 (by decide) (fun c136 => ?_) (fun c136 => ?_)
          · replace h := h.1 c136
            refine v_iconst o (v := 1) dX8_does_143 (by decide) ?_
            refine v_sub [1, 2, 3, 4, 0] (lv2 := [(0, .ref a), (1, .int p1), (2, .int x2_91), (3, .int x3_91), (4, .int y0_91)]) rfl ?_
            exact J144 x2_91 x3_91 y0_91 1 (g117 (a + 1) ((1 : Int32)).toNatClampNeg) 1 g117  h
          · replace h := h.2 c136
            refine v_sub [1, 2, 3, 4, 0] (lv2 := [(0, .ref a), (1, .int p1), (2, .int x2_91), (3, .int x3_91), (4, .int y0_91)]) rfl ?_
            exact J139 x2_91 x3_91 y0_91 1 (g117 (a + 1) ((1 : Int32)).toNatClampNeg) g117  h
      · replace h := h.2 c104
        refine v_aload_n o 1 dX8_does_107 rfl ?_
        refine v_iload_n o 4 dX8_does_108 rfl ?_
        refine v_cVv o [.int x3_91] [] (fun sz => metX8_takesBack l G P g91 sz a ha x3_91 _ h) (cwX8_143 o.1.2.2.2.2 (by decide)) ⟨_, _, rfl⟩ (by decide) (wfModel_o ha) rfl (Nat.le_of_ble_eq_true rfl) ⟨Nat.zero_le _, Nat.zero_le _⟩ dX8_does_109 rfl (fun g109 h => ?_)
        refine v_goto o (tgt := 146) dX8_does_112 (by decide) ?_
        refine v_iconst o (v := 0) dX8_does_146 (by decide) ?_
        exact v_iret o rfl hr dX8_does_147 h
    · replace h := h.2 c95
      refine v_iload o 0 dX8_does_98 rfl ?_
      exact v_iret o rfl hr dX8_does_100 h
  unfold vX8_does at h
  refine v_aload_n o 0 dX8_does_0 rfl ?_
  refine v_gfR o lkX8_37 (by decide) (wfModel_o ha) (wfModel_r20 ha) dX8_does_1 ?_
  refine v_iload_n o 1 dX8_does_4 rfl ?_
  refine v_iald o (wfModel_t20 ha) (wfModel_n20 ha) h.1 dX8_does_5 ?_
  replace h := h.2
  refine v_topi (fun x2_6 ex2_6 => ?_)
  replace h := h x2_6 ex2_6
  refine v_istore_n o (lv' := [(2, .int x2_6), (0, .ref a), (1, .int p1)]) dX8_does_6 rfl (by decide) rfl ?_
  refine v_aload_n o 1 dX8_does_7 rfl ?_
  refine v_gfR o lkX8_37 (by decide) (wfModel_o ha) (wfModel_r20 ha) dX8_does_8 ?_
  refine v_iload_n o 2 dX8_does_11 rfl ?_
  refine v_iconst o (v := 1) dX8_does_12 (by decide) ?_
  refine v_iadd o dX8_does_13 ?_
  refine v_iald o (wfModel_t20 ha) (wfModel_n20 ha) h.1 dX8_does_14 ?_
  replace h := h.2
  refine v_topi (fun x3_15 ex3_15 => ?_)
  replace h := h x3_15 ex3_15
  refine v_istore_n o (lv' := [(3, .int x3_15), (2, .int x2_6), (0, .ref a), (1, .int p1)]) dX8_does_15 rfl (by decide) rfl ?_
  refine v_iload_n o 1 dX8_does_16 rfl ?_
  refine v_bipush o (v := 120) dX8_does_17 (by decide) ?_
  refine v_icmp_ne o (tgt := 46) dX8_does_19 (by decide) (fun c19 => ?_) (fun c19 => ?_)
  · replace h := h.1 c19
    refine v_iload_n o 1 dX8_does_46 rfl ?_
    refine v_bipush o (v := 106) dX8_does_47 (by decide) ?_
    refine v_icmp_ne o (tgt := 68) dX8_does_49 (by decide) (fun c49 => ?_) (fun c49 => ?_)
    · replace h := h.1 c49
      refine v_iload_n o 1 dX8_does_68 rfl ?_
      refine v_bipush o (v := 122) dX8_does_69 (by decide) ?_
      refine v_icmp_ne o (tgt := 82) dX8_does_71 (by decide) (fun c71 => ?_) (fun c71 => ?_)
      · replace h := h.1 c71
        refine v_aload_n o 2 dX8_does_82 rfl ?_
        refine v_iload_n o 0 dX8_does_83 rfl ?_
        refine v_iload_n o 1 dX8_does_84 rfl ?_
        refine v_cSi o [.int x2_6] [.int x3_15, .ref a] (fun sz => metX8_howOf l G P f sz x2_6 _ h) (cwX8_177 o.1.2.2.2.2 (by decide)) rfl (Nat.le_of_ble_eq_true rfl) ⟨Nat.zero_le _, Nat.zero_le _⟩ dX8_does_85 rfl (fun r85 g85 h => ?_)
        refine v_cVi o [.int x3_15, .int r85] [] (fun sz => metX8_refusesChange l G P g85 sz a ha x3_15 r85 _ h) (cwX8_146 o.1.2.2.2.2 (by decide)) ⟨_, _, rfl⟩ (by decide) (wfModel_o ha) rfl (Nat.le_of_ble_eq_true rfl) ⟨Nat.zero_le _, Nat.zero_le _⟩ dX8_does_88 rfl (fun r88 g88 h => ?_)
        refine v_sub [2, 3, 1, 0] (lv2 := [(0, .ref a), (1, .int p1), (2, .int x2_6), (3, .int x3_15)]) rfl ?_
        exact J91 x2_6 x3_15 r88 g88  h
      · replace h := h.2 c71
        refine v_aload_n o 2 dX8_does_74 rfl ?_
        refine v_iload_n o 0 dX8_does_75 rfl ?_
        refine v_cVi o [.int x3_15] [] (fun sz => metX8_refusesBack l G P f sz a ha x3_15 _ h) (cwX8_140 o.1.2.2.2.2 (by decide)) ⟨_, _, rfl⟩ (by decide) (wfModel_o ha) rfl (Nat.le_of_ble_eq_true rfl) ⟨Nat.zero_le _, Nat.zero_le _⟩ dX8_does_76 rfl (fun r76 g76 h => ?_)
        refine v_goto o (tgt := 91) dX8_does_79 (by decide) ?_
        refine v_sub [2, 3, 1, 0] (lv2 := [(0, .ref a), (1, .int p1), (2, .int x2_6), (3, .int x3_15)]) rfl ?_
        exact J91 x2_6 x3_15 r76 g76  h
    · replace h := h.2 c49
      refine v_aload_n o 2 dX8_does_52 rfl ?_
      refine v_iload_n o 0 dX8_does_53 rfl ?_
      refine v_aload_n o 2 dX8_does_54 rfl ?_
      refine v_gfR o lkX8_37 (by decide) (wfModel_o ha) (wfModel_r20 ha) dX8_does_55 ?_
      refine v_iload_n o 3 dX8_does_58 rfl ?_
      refine v_iconst o (v := 2) dX8_does_59 (by decide) ?_
      refine v_iadd o dX8_does_60 ?_
      refine v_iald o (wfModel_t20 ha) (wfModel_n20 ha) h.1 dX8_does_61 ?_
      replace h := h.2
      refine v_cVi o [.int x3_15, .int (f (a + 10) (p1 + 2).toNatClampNeg)] [] (fun sz => metX8_refusesJoin l G P f sz a ha x3_15 (f (a + 10) (p1 + 2).toNatClampNeg) _ h) (cwX8_149 o.1.2.2.2.2 (by decide)) ⟨_, _, rfl⟩ (by decide) (wfModel_o ha) rfl (Nat.le_of_ble_eq_true rfl) ⟨Nat.zero_le _, Nat.zero_le _⟩ dX8_does_62 rfl (fun r62 g62 h => ?_)
      refine v_goto o (tgt := 91) dX8_does_65 (by decide) ?_
      refine v_sub [2, 3, 1, 0] (lv2 := [(0, .ref a), (1, .int p1), (2, .int x2_6), (3, .int x3_15)]) rfl ?_
      exact J91 x2_6 x3_15 r62 g62  h
  · replace h := h.2 c19
    refine v_aload_n o 2 dX8_does_22 rfl ?_
    refine v_iload_n o 0 dX8_does_23 rfl ?_
    refine v_aload_n o 2 dX8_does_24 rfl ?_
    refine v_gfR o lkX8_37 (by decide) (wfModel_o ha) (wfModel_r20 ha) dX8_does_25 ?_
    refine v_iload_n o 3 dX8_does_28 rfl ?_
    refine v_iconst o (v := 2) dX8_does_29 (by decide) ?_
    refine v_iadd o dX8_does_30 ?_
    refine v_iald o (wfModel_t20 ha) (wfModel_n20 ha) h.1 dX8_does_31 ?_
    replace h := h.2
    refine v_aload_n o 2 dX8_does_32 rfl ?_
    refine v_gfR o lkX8_37 (by decide) (wfModel_o ha) (wfModel_r20 ha) dX8_does_33 ?_
    refine v_iload_n o 3 dX8_does_36 rfl ?_
    refine v_iconst o (v := 3) dX8_does_37 (by decide) ?_
    refine v_iadd o dX8_does_38 ?_
    refine v_iald o (wfModel_t20 ha) (wfModel_n20 ha) h.1 dX8_does_39 ?_
    replace h := h.2
    refine v_cVi o [.int x3_15, .int (f (a + 10) (p1 + 2).toNatClampNeg), .int (f (a + 10) (p1 + 3).toNatClampNeg)] [] (fun sz => metX8_refusesCross l G P f sz a ha x3_15 (f (a + 10) (p1 + 2).toNatClampNeg) (f (a + 10) (p1 + 3).toNatClampNeg) _ h) (cwX8_136 o.1.2.2.2.2 (by decide)) ⟨_, _, rfl⟩ (by decide) (wfModel_o ha) rfl (Nat.le_of_ble_eq_true rfl) ⟨Nat.zero_le _, Nat.zero_le _⟩ dX8_does_40 rfl (fun r40 g40 h => ?_)
    refine v_goto o (tgt := 91) dX8_does_43 (by decide) ?_
    refine v_sub [2, 3, 1, 0] (lv2 := [(0, .ref a), (1, .int p1), (2, .int x2_6), (3, .int x3_15)]) rfl ?_
    exact J91 x2_6 x3_15 r40 g40  h
abbrev kX8_does := @vX8_does
abbrev metX8_does := @mX8_does

def jX8_work_95 (P : Sk) (a : Nat) (L31 : St → Int32 → Int32 → Prop) (K : Int32 → St → Prop) (x1 : Int32) (x2 : Int32) (y1 : Int32) (y2 : Int32) (f : St) : Prop :=
  vp_in y1 160 ∧ (∀ g95 : St, g95 = setf f (a + 1) y1.toNatClampNeg y2 → K x1 g95)
def jX8_work_80 (P : Sk) (a : Nat) (L31 : St → Int32 → Int32 → Prop) (K : Int32 → St → Prop) (x1 : Int32) (x2 : Int32) (y1 : Int32) (y2 : Int32) (f : St) : Prop :=
  vp_in y1 160 ∧ (∀ g80 : St, g80 = setf f (a + 1) y1.toNatClampNeg y2 → (¬ x2 = 0 → jX8_work_95 P a L31 K x1 x2 3 x2 g80) ∧ (x2 = 0 → jX8_work_95 P a L31 K x1 x2 3 (-1) g80))
def jX8_work_66 (P : Sk) (a : Nat) (L31 : St → Int32 → Int32 → Prop) (K : Int32 → St → Prop) (x1 : Int32) (x2 : Int32) (f : St) : Prop :=
  (¬ x2 = 0 → jX8_work_80 P a L31 K x1 x2 2 x1 f) ∧ (x2 = 0 → jX8_work_80 P a L31 K x1 x2 2 (-1) f)
def jX8_work_61 (P : Sk) (a : Nat) (L31 : St → Int32 → Int32 → Prop) (K : Int32 → St → Prop) (x1 : Int32) (x2 : Int32) (y0 : Int32) (y1 : Int32) (f : St) : Prop :=
  ∀ x1_62 : Int32, x1_62 = y0 + y1 → L31 f x1_62 x2
def bX8_work_31 (P : Sk) (a : Nat) (L31 : St → Int32 → Int32 → Prop) (K : Int32 → St → Prop) (f : St) (x1 : Int32) (x2 : Int32) : Prop :=
  (f a 21 ≤ x1 → jX8_work_66 P a L31 K x1 x2 f) ∧ (¬ f a 21 ≤ x1 → (¬ x2 = 0 → jX8_work_66 P a L31 K x1 x2 f) ∧ (x2 = 0 → kX8_does P f a (4 * x1) (fun r47 g47 => (¬ r47 = 0 → jX8_work_61 P a L31 K x1 r47 x1 0 g47) ∧ (r47 = 0 → jX8_work_61 P a L31 K x1 r47 x1 1 g47))))
def vX8_work (P : Sk) (f : St) (a : Nat) (L31 : St → Int32 → Int32 → Prop) (K : Int32 → St → Prop) : Prop :=
  ∀ g2 : St, g2 = setf f a 0 0 → kX8_readsWorks P g2 a (fun r6 g6 => (¬ r6 = 0 → kX8_records P g6 a (fun g19 => ∀ g24 : St, g24 = setf g19 a 7 0 → L31 g24 0 0)) ∧ (r6 = 0 → kX8_fails P g6 a 1 (fun r14 g14 => K r14 g14)))
set_option maxRecDepth 20000 in
set_option maxHeartbeats 4000000 in
theorem mX8_work (l : Launch) (G : Gl) (P : Sk) (f : St) (sz : Nat) (a : Nat) (ha : IsModel P a) (K : Int32 → St → Prop) (I31 : St → Int32 → Int32 → Prop) (μ31 : St → Int32 → Int32 → Nat) 
  (h : vX8_work P f a I31 K)
  (h31 : ∀ (g : St) (x1 : Int32) (x2 : Int32) , I31 g x1 x2 → bX8_work_31 P a (fun g' z0 z1 => I31 g' z0 z1 ∧ μ31 g' z0 z1 < μ31 g x1 x2) K g x1 x2) :
  Met l yX8_work (wU yX8_work cX8_work 3 (some .int)) rmX8_work (PcW G P f sz [.ref a]) (QcI G P sz K) 0 0 (frA P sz) := by
  refine v_met (own := RX8) [.ref a] (by decide +kernel) rfl (Nat.le_of_ble_eq_true rfl) (fun p e s m args below meth c hsz o hr hnm => ?_)
  refine v_lv (lv2 := [(0, .ref a)]) rfl ?_
  have main : ∀ n : Nat, (∀ (g : St) (x1 : Int32) (x2 : Int32) , I31 g x1 x2 → μ31 g x1 x2 < n → V p l e rmX8_work s m args below meth c 3 G (frA P sz) (MQ below (QcI G P sz K) args s 0 0 (frA P sz)) 0 0 P [(0, .ref a), (1, .int x1), (2, .int x2)] [] 31 g) := by
    intro n
    induction n with
    | zero => exact fun g x1 x2 hI hm => absurd hm (Nat.not_lt_zero _)
    | succ n ih =>
      intro g x1 x2 hI hm
      have h := h31 g x1 x2 hI
      clear hI
      have J95 : ∀ (x1_95 : Int32) (x2_95 : Int32) (y1_95 : Int32) (y2_95 : Int32) (g95 : St), jX8_work_95 P a (fun g' z0 z1 => I31 g' z0 z1 ∧ μ31 g' z0 z1 < μ31 g x1 x2) K x1_95 x2_95 y1_95 y2_95 g95 → V p l e rmX8_work s m args below meth c 3 G (frA P sz) (MQ below (QcI G P sz K) args s 0 0 (frA P sz)) 0 0 P [(0, .ref a), (1, .int x1_95), (2, .int x2_95)] [.int y2_95, .int y1_95, .ref (a + 1)] 95 g95 := by
        intro x1_95 x2_95 y1_95 y2_95 g95  h
        unfold jX8_work_95 at h
        refine v_iast o (wfModel_t1 ha) (wfModel_n1 ha) h.1 dX8_work_95 ?_
        replace h := h.2
        refine v_nmf (fun g95 eg95 => ?_)
        replace h := h g95 eg95
        refine v_iload_n o 1 dX8_work_96 rfl ?_
        exact v_iret o rfl hr dX8_work_97 h
      have J80 : ∀ (x1_80 : Int32) (x2_80 : Int32) (y1_80 : Int32) (y2_80 : Int32) (g80 : St), jX8_work_80 P a (fun g' z0 z1 => I31 g' z0 z1 ∧ μ31 g' z0 z1 < μ31 g x1 x2) K x1_80 x2_80 y1_80 y2_80 g80 → V p l e rmX8_work s m args below meth c 3 G (frA P sz) (MQ below (QcI G P sz K) args s 0 0 (frA P sz)) 0 0 P [(0, .ref a), (1, .int x1_80), (2, .int x2_80)] [.int y2_80, .int y1_80, .ref (a + 1)] 80 g80 := by
        intro x1_80 x2_80 y1_80 y2_80 g80  h
        unfold jX8_work_80 at h
        refine v_iast o (wfModel_t1 ha) (wfModel_n1 ha) h.1 dX8_work_80 ?_
        replace h := h.2
        refine v_nmf (fun g80 eg80 => ?_)
        replace h := h g80 eg80
        refine v_aload_n o 0 dX8_work_81 rfl ?_
        refine v_gfR o lkX8_7 (by decide) (wfModel_o ha) (wfModel_r1 ha) dX8_work_82 ?_
        refine v_iconst o (v := 3) dX8_work_85 (by decide) ?_
        refine v_iload_n o 2 dX8_work_86 rfl ?_
        refine v_if_ne o (tgt := 94) dX8_work_87 (by decide) (fun c87 => ?_) (fun c87 => ?_)
        · replace h := h.1 c87
          refine v_iload_n o 2 dX8_work_94 rfl ?_
          refine v_sub [0, 1, 2] (lv2 := [(0, .ref a), (1, .int x1_80), (2, .int x2_80)]) rfl ?_
          exact J95 x1_80 x2_80 3 x2_80 g80  h
        · replace h := h.2 c87
          refine v_iconst o (v := (-1)) dX8_work_90 (by decide) ?_
          refine v_goto o (tgt := 95) dX8_work_91 (by decide) ?_
          refine v_sub [0, 1, 2] (lv2 := [(0, .ref a), (1, .int x1_80), (2, .int x2_80)]) rfl ?_
          exact J95 x1_80 x2_80 3 (-1) g80  h
      have J66 : ∀ (x1_66 : Int32) (x2_66 : Int32) (g66 : St), jX8_work_66 P a (fun g' z0 z1 => I31 g' z0 z1 ∧ μ31 g' z0 z1 < μ31 g x1 x2) K x1_66 x2_66 g66 → V p l e rmX8_work s m args below meth c 3 G (frA P sz) (MQ below (QcI G P sz K) args s 0 0 (frA P sz)) 0 0 P [(0, .ref a), (1, .int x1_66), (2, .int x2_66)] [] 66 g66 := by
        intro x1_66 x2_66 g66  h
        unfold jX8_work_66 at h
        refine v_aload_n o 0 dX8_work_66 rfl ?_
        refine v_gfR o lkX8_7 (by decide) (wfModel_o ha) (wfModel_r1 ha) dX8_work_67 ?_
        refine v_iconst o (v := 2) dX8_work_70 (by decide) ?_
        refine v_iload_n o 2 dX8_work_71 rfl ?_
        refine v_if_ne o (tgt := 79) dX8_work_72 (by decide) (fun c72 => ?_) (fun c72 => ?_)
        · replace h := h.1 c72
          refine v_iload_n o 1 dX8_work_79 rfl ?_
          refine v_sub [0, 1, 2] (lv2 := [(0, .ref a), (1, .int x1_66), (2, .int x2_66)]) rfl ?_
          exact J80 x1_66 x2_66 2 x1_66 g66  h
        · replace h := h.2 c72
          refine v_iconst o (v := (-1)) dX8_work_75 (by decide) ?_
          refine v_goto o (tgt := 80) dX8_work_76 (by decide) ?_
          refine v_sub [0, 1, 2] (lv2 := [(0, .ref a), (1, .int x1_66), (2, .int x2_66)]) rfl ?_
          exact J80 x1_66 x2_66 2 (-1) g66  h
      have J61 : ∀ (x1_61 : Int32) (x2_61 : Int32) (y0_61 : Int32) (y1_61 : Int32) (g61 : St), jX8_work_61 P a (fun g' z0 z1 => I31 g' z0 z1 ∧ μ31 g' z0 z1 < μ31 g x1 x2) K x1_61 x2_61 y0_61 y1_61 g61 → V p l e rmX8_work s m args below meth c 3 G (frA P sz) (MQ below (QcI G P sz K) args s 0 0 (frA P sz)) 0 0 P [(0, .ref a), (1, .int x1_61), (2, .int x2_61)] [.int y1_61, .int y0_61] 61 g61 := by
        intro x1_61 x2_61 y0_61 y1_61 g61  h
        unfold jX8_work_61 at h
        refine v_iadd o dX8_work_61 ?_
        refine v_topi (fun x1_62 ex1_62 => ?_)
        replace h := h x1_62 ex1_62
        refine v_istore_n o (lv' := [(1, .int x1_62), (0, .ref a), (2, .int x2_61)]) dX8_work_62 rfl (by decide) rfl ?_
        refine v_goto o (tgt := 31) dX8_work_63 (by decide) ?_
        refine v_sub [1, 0, 2] (lv2 := [(0, .ref a), (1, .int x1_62), (2, .int x2_61)]) rfl ?_
        exact ih g61 x1_62 x2_61  h.1 (by have := h.2; omega)
      unfold bX8_work_31 at h
      refine v_iload_n o 1 dX8_work_31 rfl ?_
      refine v_aload_n o 0 dX8_work_32 rfl ?_
      refine v_gfI o lkX8_168 (by decide) (wfModel_o ha) dX8_work_33 ?_
      refine v_icmp_ge o (tgt := 66) dX8_work_36 (by decide) (fun c36 => ?_) (fun c36 => ?_)
      · replace h := h.1 c36
        refine v_sub [0, 1, 2] (lv2 := [(0, .ref a), (1, .int x1), (2, .int x2)]) rfl ?_
        exact J66 x1 x2 g  h
      · replace h := h.2 c36
        refine v_iload_n o 2 dX8_work_39 rfl ?_
        refine v_if_ne o (tgt := 66) dX8_work_40 (by decide) (fun c40 => ?_) (fun c40 => ?_)
        · replace h := h.1 c40
          refine v_sub [0, 1, 2] (lv2 := [(0, .ref a), (1, .int x1), (2, .int x2)]) rfl ?_
          exact J66 x1 x2 g  h
        · replace h := h.2 c40
          refine v_aload_n o 0 dX8_work_43 rfl ?_
          refine v_iconst o (v := 4) dX8_work_44 (by decide) ?_
          refine v_iload_n o 1 dX8_work_45 rfl ?_
          refine v_imul o dX8_work_46 ?_
          refine v_cVi o [.int (4 * x1)] [] (fun sz => metX8_does l G P g sz a ha (4 * x1) _ h) (cwX8_180 o.1.2.2.2.2 (by decide)) ⟨_, _, rfl⟩ (by decide) (wfModel_o ha) rfl (Nat.le_of_ble_eq_true rfl) ⟨Nat.zero_le _, Nat.zero_le _⟩ dX8_work_47 rfl (fun r47 g47 h => ?_)
          refine v_istore_n o (lv' := [(2, .int r47), (0, .ref a), (1, .int x1)]) dX8_work_50 rfl (by decide) rfl ?_
          refine v_iload_n o 2 dX8_work_51 rfl ?_
          refine v_iload_n o 0 dX8_work_52 rfl ?_
          refine v_if_ne o (tgt := 60) dX8_work_53 (by decide) (fun c53 => ?_) (fun c53 => ?_)
          · replace h := h.1 c53
            refine v_iconst o (v := 0) dX8_work_60 (by decide) ?_
            refine v_sub [1, 2, 0] (lv2 := [(0, .ref a), (1, .int x1), (2, .int r47)]) rfl ?_
            exact J61 x1 r47 x1 0 g47  h
          · replace h := h.2 c53
            refine v_iconst o (v := 1) dX8_work_56 (by decide) ?_
            refine v_goto o (tgt := 61) dX8_work_57 (by decide) ?_
            refine v_sub [1, 2, 0] (lv2 := [(0, .ref a), (1, .int x1), (2, .int r47)]) rfl ?_
            exact J61 x1 r47 x1 1 g47  h
  unfold vX8_work at h
  refine v_aload_n o 0 dX8_work_0 rfl ?_
  refine v_iconst o (v := 0) dX8_work_1 (by decide) ?_
  refine v_pf o lpX8_40 (wfModel_o ha) ⟨rfl, rfl⟩ dX8_work_2 ?_
  refine v_nmf (fun g2 eg2 => ?_)
  replace h := h g2 eg2
  refine v_aload_n o 0 dX8_work_5 rfl ?_
  refine v_cVi o [] [] (fun sz => metX8_readsWorks l G P g2 sz a ha _ h) (cwX8_174 o.1.2.2.2.2 (by decide)) ⟨_, _, rfl⟩ (by decide) (wfModel_o ha) rfl (Nat.le_of_ble_eq_true rfl) ⟨Nat.zero_le _, Nat.zero_le _⟩ dX8_work_6 rfl (fun r6 g6 h => ?_)
  refine v_if_ne o (tgt := 18) dX8_work_9 (by decide) (fun c9 => ?_) (fun c9 => ?_)
  · replace h := h.1 c9
    refine v_aload_n o 0 dX8_work_18 rfl ?_
    refine v_cVv o [] [] (fun sz => metX8_records l G P g6 sz a ha _ h) (cwX8_127 o.1.2.2.2.2 (by decide)) ⟨_, _, rfl⟩ (by decide) (wfModel_o ha) rfl (Nat.le_of_ble_eq_true rfl) ⟨Nat.zero_le _, Nat.zero_le _⟩ dX8_work_19 rfl (fun g19 h => ?_)
    refine v_aload_n o 0 dX8_work_22 rfl ?_
    refine v_iconst o (v := 0) dX8_work_23 (by decide) ?_
    refine v_pf o lpX8_133 (wfModel_o ha) ⟨rfl, rfl⟩ dX8_work_24 ?_
    refine v_nmf (fun g24 eg24 => ?_)
    replace h := h g24 eg24
    refine v_iconst o (v := 0) dX8_work_27 (by decide) ?_
    refine v_istore_n o (lv' := [(1, .int 0), (0, .ref a)]) dX8_work_28 rfl (by decide) rfl ?_
    refine v_iconst o (v := 0) dX8_work_29 (by decide) ?_
    refine v_istore_n o (lv' := [(2, .int 0), (1, .int 0), (0, .ref a)]) dX8_work_30 rfl (by decide) rfl ?_
    refine v_sub [2, 1, 0] (lv2 := [(0, .ref a), (1, .int 0), (2, .int 0)]) rfl ?_
    exact (main (μ31 g24 0 0 + 1)) g24 0 0  h (Nat.lt_succ_self _)
  · replace h := h.2 c9
    refine v_aload_n o 0 dX8_work_12 rfl ?_
    refine v_iconst o (v := 1) dX8_work_13 (by decide) ?_
    refine v_cVi o [.int 1] [] (fun sz => metX8_fails l G P g6 sz a ha 1 _ h) (cwX8_123 o.1.2.2.2.2 (by decide)) ⟨_, _, rfl⟩ (by decide) (wfModel_o ha) rfl (Nat.le_of_ble_eq_true rfl) ⟨Nat.zero_le _, Nat.zero_le _⟩ dX8_work_14 rfl (fun r14 g14 h => ?_)
    exact v_iret o rfl hr dX8_work_17 h
def kX8_work (P : Sk) (f : St) (a : Nat) (K : Int32 → St → Prop) : Prop := False
theorem metX8_work (l : Launch) (G : Gl) (P : Sk) (f : St) (sz : Nat) (a : Nat) (ha : IsModel P a) (K : Int32 → St → Prop) (h : kX8_work P f a K) : Met l yX8_work (wU yX8_work cX8_work 3 (some .int)) rmX8_work (PcW G P f sz [.ref a]) (QcI G P sz K) 0 0 (frA P sz) := sorry

def vX8_stopped (P : Sk) (f : St) (a : Nat) (p1 : Int32) (K : Int32 → St → Prop) : Prop :=
  ∀ g2 : St, g2 = setf f a 0 0 → kX8_in P g2 p1 0 1 (fun r8 g8 => (r8 = 0 → kX8_fails P g8 a 1 (fun r27 g27 => K r27 g27)) ∧ (¬ r8 = 0 → vp_in (2 + p1) 160 ∧ (K (g8 (a + 1) (2 + p1).toNatClampNeg) g8)))
set_option maxRecDepth 20000 in
set_option maxHeartbeats 4000000 in
theorem mX8_stopped (l : Launch) (G : Gl) (P : Sk) (f : St) (sz : Nat) (a : Nat) (ha : IsModel P a) (p1 : Int32) (K : Int32 → St → Prop) (h : vX8_stopped P f a p1 K)  :
  Met l yX8_stopped (wU yX8_stopped cX8_stopped 2 (some .int)) rmX8_stopped (PcW G P f sz [.ref a, .int p1]) (QcI G P sz K) 0 0 (frA P sz) := by
  refine v_met (own := RX8) [.ref a, .int p1] (by decide +kernel) rfl (Nat.le_of_ble_eq_true rfl) (fun p e s m args below meth c hsz o hr hnm => ?_)
  refine v_lv (lv2 := [(0, .ref a), (1, .int p1)]) rfl ?_
  unfold vX8_stopped at h
  refine v_aload_n o 0 dX8_stopped_0 rfl ?_
  refine v_iconst o (v := 0) dX8_stopped_1 (by decide) ?_
  refine v_pf o lpX8_40 (wfModel_o ha) ⟨rfl, rfl⟩ dX8_stopped_2 ?_
  refine v_nmf (fun g2 eg2 => ?_)
  replace h := h g2 eg2
  refine v_iload_n o 1 dX8_stopped_5 rfl ?_
  refine v_iconst o (v := 0) dX8_stopped_6 (by decide) ?_
  refine v_iconst o (v := 1) dX8_stopped_7 (by decide) ?_
  refine v_cSi o [.int p1, .int 0, .int 1] [] (fun sz => metX8_in l G P g2 sz p1 0 1 _ h) (cwX8_44 o.1.2.2.2.2 (by decide)) rfl (Nat.le_of_ble_eq_true rfl) ⟨Nat.zero_le _, Nat.zero_le _⟩ dX8_stopped_8 rfl (fun r8 g8 h => ?_)
  refine v_if_eq o (tgt := 25) dX8_stopped_11 (by decide) (fun c11 => ?_) (fun c11 => ?_)
  · replace h := h.1 c11
    refine v_aload_n o 0 dX8_stopped_25 rfl ?_
    refine v_iconst o (v := 1) dX8_stopped_26 (by decide) ?_
    refine v_cVi o [.int 1] [] (fun sz => metX8_fails l G P g8 sz a ha 1 _ h) (cwX8_123 o.1.2.2.2.2 (by decide)) ⟨_, _, rfl⟩ (by decide) (wfModel_o ha) rfl (Nat.le_of_ble_eq_true rfl) ⟨Nat.zero_le _, Nat.zero_le _⟩ dX8_stopped_27 rfl (fun r27 g27 h => ?_)
    exact v_iret o rfl hr dX8_stopped_30 h
  · replace h := h.2 c11
    refine v_aload_n o 0 dX8_stopped_14 rfl ?_
    refine v_gfR o lkX8_7 (by decide) (wfModel_o ha) (wfModel_r1 ha) dX8_stopped_15 ?_
    refine v_iconst o (v := 2) dX8_stopped_18 (by decide) ?_
    refine v_iload_n o 1 dX8_stopped_19 rfl ?_
    refine v_iadd o dX8_stopped_20 ?_
    refine v_iald o (wfModel_t1 ha) (wfModel_n1 ha) h.1 dX8_stopped_21 ?_
    replace h := h.2
    refine v_goto o (tgt := 30) dX8_stopped_22 (by decide) ?_
    exact v_iret o rfl hr dX8_stopped_30 h
abbrev kX8_stopped := @vX8_stopped
abbrev metX8_stopped := @mX8_stopped

def bX8_undo_30 (P : Sk) (a : Nat) (L30 : St → Int32 → Prop) (K : Int32 → St → Prop) (f : St) (x1 : Int32) : Prop :=
  (160 ≤ x1 → K (f a 3) f) ∧ (¬ 160 ≤ x1 → vp_in ((160 * (f a 3)) + x1) 960 ∧ (vp_in x1 160 ∧ (∀ g57 : St, g57 = setf f (a + 1) x1.toNatClampNeg (f (a + 2) ((160 * (f a 3)) + x1).toNatClampNeg) → ∀ x1_58 : Int32, x1_58 = x1 + 1 → L30 g57 x1_58)))
def vX8_undo (P : Sk) (f : St) (a : Nat) (L30 : St → Int32 → Prop) (K : Int32 → St → Prop) : Prop :=
  ∀ g2 : St, g2 = setf f a 0 0 → (¬ g2 a 3 = 0 → ∀ g25 : St, g25 = setf g2 a 3 ((g2 a 3) - 1) → L30 g25 0) ∧ (g2 a 3 = 0 → kX8_fails P g2 a 1 (fun r14 g14 => K r14 g14))
set_option maxRecDepth 20000 in
set_option maxHeartbeats 4000000 in
theorem mX8_undo (l : Launch) (G : Gl) (P : Sk) (f : St) (sz : Nat) (a : Nat) (ha : IsModel P a) (K : Int32 → St → Prop) (I30 : St → Int32 → Prop) (μ30 : St → Int32 → Nat) 
  (h : vX8_undo P f a I30 K)
  (h30 : ∀ (g : St) (x1 : Int32) , I30 g x1 → bX8_undo_30 P a (fun g' z0 => I30 g' z0 ∧ μ30 g' z0 < μ30 g x1) K g x1) :
  Met l yX8_undo (wU yX8_undo cX8_undo 2 (some .int)) rmX8_undo (PcW G P f sz [.ref a]) (QcI G P sz K) 0 0 (frA P sz) := by
  refine v_met (own := RX8) [.ref a] (by decide +kernel) rfl (Nat.le_of_ble_eq_true rfl) (fun p e s m args below meth c hsz o hr hnm => ?_)
  refine v_lv (lv2 := [(0, .ref a)]) rfl ?_
  have main : ∀ n : Nat, (∀ (g : St) (x1 : Int32) , I30 g x1 → μ30 g x1 < n → V p l e rmX8_undo s m args below meth c 2 G (frA P sz) (MQ below (QcI G P sz K) args s 0 0 (frA P sz)) 0 0 P [(0, .ref a), (1, .int x1)] [] 30 g) := by
    intro n
    induction n with
    | zero => exact fun g x1 hI hm => absurd hm (Nat.not_lt_zero _)
    | succ n ih =>
      intro g x1 hI hm
      have h := h30 g x1 hI
      clear hI
      unfold bX8_undo_30 at h
      refine v_iload_n o 1 dX8_undo_30 rfl ?_
      refine v_sipush o (v := 160) dX8_undo_31 (by decide) ?_
      refine v_icmp_ge o (tgt := 64) dX8_undo_34 (by decide) (fun c34 => ?_) (fun c34 => ?_)
      · replace h := h.1 c34
        refine v_aload_n o 0 dX8_undo_64 rfl ?_
        refine v_gfI o lkX8_48 (by decide) (wfModel_o ha) dX8_undo_65 ?_
        exact v_iret o rfl hr dX8_undo_68 h
      · replace h := h.2 c34
        refine v_aload_n o 0 dX8_undo_37 rfl ?_
        refine v_gfR o lkX8_7 (by decide) (wfModel_o ha) (wfModel_r1 ha) dX8_undo_38 ?_
        refine v_iload_n o 1 dX8_undo_41 rfl ?_
        refine v_aload_n o 0 dX8_undo_42 rfl ?_
        refine v_gfR o lkX8_13 (by decide) (wfModel_o ha) (wfModel_r2 ha) dX8_undo_43 ?_
        refine v_sipush o (v := 160) dX8_undo_46 (by decide) ?_
        refine v_aload_n o 0 dX8_undo_49 rfl ?_
        refine v_gfI o lkX8_48 (by decide) (wfModel_o ha) dX8_undo_50 ?_
        refine v_imul o dX8_undo_53 ?_
        refine v_iload_n o 1 dX8_undo_54 rfl ?_
        refine v_iadd o dX8_undo_55 ?_
        refine v_iald o (wfModel_t2 ha) (wfModel_n2 ha) h.1 dX8_undo_56 ?_
        replace h := h.2
        refine v_iast o (wfModel_t1 ha) (wfModel_n1 ha) h.1 dX8_undo_57 ?_
        replace h := h.2
        refine v_nmf (fun g57 eg57 => ?_)
        replace h := h g57 eg57
        obtain ⟨x1_58, ex1_58⟩ : ∃ y : Int32, y = x1 + 1 := ⟨_, rfl⟩
        replace h := h x1_58 ex1_58
        refine v_iinc o (v := x1_58) (lv' := [(1, .int x1_58), (0, .ref a)]) 1 dX8_undo_58 rfl (by rw [ex1_58]; rfl) (by decide) rfl ?_
        refine v_goto o (tgt := 30) dX8_undo_61 (by decide) ?_
        refine v_sub [1, 0] (lv2 := [(0, .ref a), (1, .int x1_58)]) rfl ?_
        exact ih g57 x1_58  h.1 (by have := h.2; omega)
  unfold vX8_undo at h
  refine v_aload_n o 0 dX8_undo_0 rfl ?_
  refine v_iconst o (v := 0) dX8_undo_1 (by decide) ?_
  refine v_pf o lpX8_40 (wfModel_o ha) ⟨rfl, rfl⟩ dX8_undo_2 ?_
  refine v_nmf (fun g2 eg2 => ?_)
  replace h := h g2 eg2
  refine v_aload_n o 0 dX8_undo_5 rfl ?_
  refine v_gfI o lkX8_48 (by decide) (wfModel_o ha) dX8_undo_6 ?_
  refine v_if_ne o (tgt := 18) dX8_undo_9 (by decide) (fun c9 => ?_) (fun c9 => ?_)
  · replace h := h.1 c9
    refine v_aload_n o 0 dX8_undo_18 rfl ?_
    refine v_dup o dX8_undo_19 rfl ?_
    refine v_gfI o lkX8_48 (by decide) (wfModel_o ha) dX8_undo_20 ?_
    refine v_iconst o (v := 1) dX8_undo_23 (by decide) ?_
    refine v_isub o dX8_undo_24 ?_
    refine v_pf o lpX8_48 (wfModel_o ha) ⟨rfl, rfl⟩ dX8_undo_25 ?_
    refine v_nmf (fun g25 eg25 => ?_)
    replace h := h g25 eg25
    refine v_iconst o (v := 0) dX8_undo_28 (by decide) ?_
    refine v_istore_n o (lv' := [(1, .int 0), (0, .ref a)]) dX8_undo_29 rfl (by decide) rfl ?_
    refine v_sub [1, 0] (lv2 := [(0, .ref a), (1, .int 0)]) rfl ?_
    exact (main (μ30 g25 0 + 1)) g25 0  h (Nat.lt_succ_self _)
  · replace h := h.2 c9
    refine v_aload_n o 0 dX8_undo_12 rfl ?_
    refine v_iconst o (v := 1) dX8_undo_13 (by decide) ?_
    refine v_cVi o [.int 1] [] (fun sz => metX8_fails l G P g2 sz a ha 1 _ h) (cwX8_123 o.1.2.2.2.2 (by decide)) ⟨_, _, rfl⟩ (by decide) (wfModel_o ha) rfl (Nat.le_of_ble_eq_true rfl) ⟨Nat.zero_le _, Nat.zero_le _⟩ dX8_undo_14 rfl (fun r14 g14 h => ?_)
    exact v_iret o rfl hr dX8_undo_17 h
def kX8_undo (P : Sk) (f : St) (a : Nat) (K : Int32 → St → Prop) : Prop := False
theorem metX8_undo (l : Launch) (G : Gl) (P : Sk) (f : St) (sz : Nat) (a : Nat) (ha : IsModel P a) (K : Int32 → St → Prop) (h : kX8_undo P f a K) : Met l yX8_undo (wU yX8_undo cX8_undo 2 (some .int)) rmX8_undo (PcW G P f sz [.ref a]) (QcI G P sz K) 0 0 (frA P sz) := sorry

def bX8_keep_7 (P : Sk) (a : Nat) (L7 : St → Int32 → Prop) (K : Int32 → St → Prop) (f : St) (x1 : Int32) : Prop :=
  (160 ≤ x1 → ∀ g34 : St, g34 = setf f a 5 1 → vp_in 0 160 ∧ (K (g34 (a + 1) ((0 : Int32)).toNatClampNeg) g34)) ∧ (¬ 160 ≤ x1 → vp_in x1 160 ∧ (vp_in x1 160 ∧ (∀ g25 : St, g25 = setf f (a + 3) x1.toNatClampNeg (f (a + 1) x1.toNatClampNeg) → ∀ x1_26 : Int32, x1_26 = x1 + 1 → L7 g25 x1_26)))
def vX8_keep (P : Sk) (f : St) (a : Nat) (L7 : St → Int32 → Prop) (K : Int32 → St → Prop) : Prop :=
  ∀ g2 : St, g2 = setf f a 0 0 → L7 g2 0
set_option maxRecDepth 20000 in
set_option maxHeartbeats 4000000 in
theorem mX8_keep (l : Launch) (G : Gl) (P : Sk) (f : St) (sz : Nat) (a : Nat) (ha : IsModel P a) (K : Int32 → St → Prop) (I7 : St → Int32 → Prop) (μ7 : St → Int32 → Nat) 
  (h : vX8_keep P f a I7 K)
  (h7 : ∀ (g : St) (x1 : Int32) , I7 g x1 → bX8_keep_7 P a (fun g' z0 => I7 g' z0 ∧ μ7 g' z0 < μ7 g x1) K g x1) :
  Met l yX8_keep (wU yX8_keep cX8_keep 2 (some .int)) rmX8_keep (PcW G P f sz [.ref a]) (QcI G P sz K) 0 0 (frA P sz) := by
  refine v_met (own := RX8) [.ref a] (by decide +kernel) rfl (Nat.le_of_ble_eq_true rfl) (fun p e s m args below meth c hsz o hr hnm => ?_)
  refine v_lv (lv2 := [(0, .ref a)]) rfl ?_
  have main : ∀ n : Nat, (∀ (g : St) (x1 : Int32) , I7 g x1 → μ7 g x1 < n → V p l e rmX8_keep s m args below meth c 2 G (frA P sz) (MQ below (QcI G P sz K) args s 0 0 (frA P sz)) 0 0 P [(0, .ref a), (1, .int x1)] [] 7 g) := by
    intro n
    induction n with
    | zero => exact fun g x1 hI hm => absurd hm (Nat.not_lt_zero _)
    | succ n ih =>
      intro g x1 hI hm
      have h := h7 g x1 hI
      clear hI
      unfold bX8_keep_7 at h
      refine v_iload_n o 1 dX8_keep_7 rfl ?_
      refine v_sipush o (v := 160) dX8_keep_8 (by decide) ?_
      refine v_icmp_ge o (tgt := 32) dX8_keep_11 (by decide) (fun c11 => ?_) (fun c11 => ?_)
      · replace h := h.1 c11
        refine v_aload_n o 0 dX8_keep_32 rfl ?_
        refine v_iconst o (v := 1) dX8_keep_33 (by decide) ?_
        refine v_pf o lpX8_183 (wfModel_o ha) bz1 dX8_keep_34 ?_
        refine v_nmf (fun g34 eg34 => ?_)
        replace h := h g34 eg34
        refine v_aload_n o 0 dX8_keep_37 rfl ?_
        refine v_gfR o lkX8_7 (by decide) (wfModel_o ha) (wfModel_r1 ha) dX8_keep_38 ?_
        refine v_iconst o (v := 0) dX8_keep_41 (by decide) ?_
        refine v_iald o (wfModel_t1 ha) (wfModel_n1 ha) h.1 dX8_keep_42 ?_
        replace h := h.2
        exact v_iret o rfl hr dX8_keep_43 h
      · replace h := h.2 c11
        refine v_aload_n o 0 dX8_keep_14 rfl ?_
        refine v_gfR o lkX8_16 (by decide) (wfModel_o ha) (wfModel_r4 ha) dX8_keep_15 ?_
        refine v_iload_n o 1 dX8_keep_18 rfl ?_
        refine v_aload_n o 0 dX8_keep_19 rfl ?_
        refine v_gfR o lkX8_7 (by decide) (wfModel_o ha) (wfModel_r1 ha) dX8_keep_20 ?_
        refine v_iload_n o 1 dX8_keep_23 rfl ?_
        refine v_iald o (wfModel_t1 ha) (wfModel_n1 ha) h.1 dX8_keep_24 ?_
        replace h := h.2
        refine v_iast o (wfModel_t4 ha) (wfModel_n4 ha) h.1 dX8_keep_25 ?_
        replace h := h.2
        refine v_nmf (fun g25 eg25 => ?_)
        replace h := h g25 eg25
        obtain ⟨x1_26, ex1_26⟩ : ∃ y : Int32, y = x1 + 1 := ⟨_, rfl⟩
        replace h := h x1_26 ex1_26
        refine v_iinc o (v := x1_26) (lv' := [(1, .int x1_26), (0, .ref a)]) 1 dX8_keep_26 rfl (by rw [ex1_26]; rfl) (by decide) rfl ?_
        refine v_goto o (tgt := 7) dX8_keep_29 (by decide) ?_
        refine v_sub [1, 0] (lv2 := [(0, .ref a), (1, .int x1_26)]) rfl ?_
        exact ih g25 x1_26  h.1 (by have := h.2; omega)
  unfold vX8_keep at h
  refine v_aload_n o 0 dX8_keep_0 rfl ?_
  refine v_iconst o (v := 0) dX8_keep_1 (by decide) ?_
  refine v_pf o lpX8_40 (wfModel_o ha) ⟨rfl, rfl⟩ dX8_keep_2 ?_
  refine v_nmf (fun g2 eg2 => ?_)
  replace h := h g2 eg2
  refine v_iconst o (v := 0) dX8_keep_5 (by decide) ?_
  refine v_istore_n o (lv' := [(1, .int 0), (0, .ref a)]) dX8_keep_6 rfl (by decide) rfl ?_
  refine v_sub [1, 0] (lv2 := [(0, .ref a), (1, .int 0)]) rfl ?_
  exact (main (μ7 g2 0 + 1)) g2 0  h (Nat.lt_succ_self _)
def kX8_keep (P : Sk) (f : St) (a : Nat) (K : Int32 → St → Prop) : Prop := False
theorem metX8_keep (l : Launch) (G : Gl) (P : Sk) (f : St) (sz : Nat) (a : Nat) (ha : IsModel P a) (K : Int32 → St → Prop) (h : kX8_keep P f a K) : Met l yX8_keep (wU yX8_keep cX8_keep 2 (some .int)) rmX8_keep (PcW G P f sz [.ref a]) (QcI G P sz K) 0 0 (frA P sz) := sorry

def bX8_restore_24 (P : Sk) (a : Nat) (L24 : St → Int32 → Prop) (K : Int32 → St → Prop) (f : St) (x1 : Int32) : Prop :=
  (160 ≤ x1 → vp_in 0 160 ∧ (K (f (a + 1) ((0 : Int32)).toNatClampNeg) f)) ∧ (¬ 160 ≤ x1 → vp_in x1 160 ∧ (vp_in x1 160 ∧ (∀ g42 : St, g42 = setf f (a + 1) x1.toNatClampNeg (f (a + 3) x1.toNatClampNeg) → ∀ x1_43 : Int32, x1_43 = x1 + 1 → L24 g42 x1_43)))
def vX8_restore (P : Sk) (f : St) (a : Nat) (L24 : St → Int32 → Prop) (K : Int32 → St → Prop) : Prop :=
  ∀ g2 : St, g2 = setf f a 0 0 → (¬ g2 a 5 = 0 → kX8_records P g2 a (fun g19 => L24 g19 0)) ∧ (g2 a 5 = 0 → kX8_fails P g2 a 1 (fun r14 g14 => K r14 g14))
set_option maxRecDepth 20000 in
set_option maxHeartbeats 4000000 in
theorem mX8_restore (l : Launch) (G : Gl) (P : Sk) (f : St) (sz : Nat) (a : Nat) (ha : IsModel P a) (K : Int32 → St → Prop) (I24 : St → Int32 → Prop) (μ24 : St → Int32 → Nat) 
  (h : vX8_restore P f a I24 K)
  (h24 : ∀ (g : St) (x1 : Int32) , I24 g x1 → bX8_restore_24 P a (fun g' z0 => I24 g' z0 ∧ μ24 g' z0 < μ24 g x1) K g x1) :
  Met l yX8_restore (wU yX8_restore cX8_restore 2 (some .int)) rmX8_restore (PcW G P f sz [.ref a]) (QcI G P sz K) 0 0 (frA P sz) := by
  refine v_met (own := RX8) [.ref a] (by decide +kernel) rfl (Nat.le_of_ble_eq_true rfl) (fun p e s m args below meth c hsz o hr hnm => ?_)
  refine v_lv (lv2 := [(0, .ref a)]) rfl ?_
  have main : ∀ n : Nat, (∀ (g : St) (x1 : Int32) , I24 g x1 → μ24 g x1 < n → V p l e rmX8_restore s m args below meth c 2 G (frA P sz) (MQ below (QcI G P sz K) args s 0 0 (frA P sz)) 0 0 P [(0, .ref a), (1, .int x1)] [] 24 g) := by
    intro n
    induction n with
    | zero => exact fun g x1 hI hm => absurd hm (Nat.not_lt_zero _)
    | succ n ih =>
      intro g x1 hI hm
      have h := h24 g x1 hI
      clear hI
      unfold bX8_restore_24 at h
      refine v_iload_n o 1 dX8_restore_24 rfl ?_
      refine v_sipush o (v := 160) dX8_restore_25 (by decide) ?_
      refine v_icmp_ge o (tgt := 49) dX8_restore_28 (by decide) (fun c28 => ?_) (fun c28 => ?_)
      · replace h := h.1 c28
        refine v_aload_n o 0 dX8_restore_49 rfl ?_
        refine v_gfR o lkX8_7 (by decide) (wfModel_o ha) (wfModel_r1 ha) dX8_restore_50 ?_
        refine v_iconst o (v := 0) dX8_restore_53 (by decide) ?_
        refine v_iald o (wfModel_t1 ha) (wfModel_n1 ha) h.1 dX8_restore_54 ?_
        replace h := h.2
        exact v_iret o rfl hr dX8_restore_55 h
      · replace h := h.2 c28
        refine v_aload_n o 0 dX8_restore_31 rfl ?_
        refine v_gfR o lkX8_7 (by decide) (wfModel_o ha) (wfModel_r1 ha) dX8_restore_32 ?_
        refine v_iload_n o 1 dX8_restore_35 rfl ?_
        refine v_aload_n o 0 dX8_restore_36 rfl ?_
        refine v_gfR o lkX8_16 (by decide) (wfModel_o ha) (wfModel_r4 ha) dX8_restore_37 ?_
        refine v_iload_n o 1 dX8_restore_40 rfl ?_
        refine v_iald o (wfModel_t4 ha) (wfModel_n4 ha) h.1 dX8_restore_41 ?_
        replace h := h.2
        refine v_iast o (wfModel_t1 ha) (wfModel_n1 ha) h.1 dX8_restore_42 ?_
        replace h := h.2
        refine v_nmf (fun g42 eg42 => ?_)
        replace h := h g42 eg42
        obtain ⟨x1_43, ex1_43⟩ : ∃ y : Int32, y = x1 + 1 := ⟨_, rfl⟩
        replace h := h x1_43 ex1_43
        refine v_iinc o (v := x1_43) (lv' := [(1, .int x1_43), (0, .ref a)]) 1 dX8_restore_43 rfl (by rw [ex1_43]; rfl) (by decide) rfl ?_
        refine v_goto o (tgt := 24) dX8_restore_46 (by decide) ?_
        refine v_sub [1, 0] (lv2 := [(0, .ref a), (1, .int x1_43)]) rfl ?_
        exact ih g42 x1_43  h.1 (by have := h.2; omega)
  unfold vX8_restore at h
  refine v_aload_n o 0 dX8_restore_0 rfl ?_
  refine v_iconst o (v := 0) dX8_restore_1 (by decide) ?_
  refine v_pf o lpX8_40 (wfModel_o ha) ⟨rfl, rfl⟩ dX8_restore_2 ?_
  refine v_nmf (fun g2 eg2 => ?_)
  replace h := h g2 eg2
  refine v_aload_n o 0 dX8_restore_5 rfl ?_
  refine v_gfI o lkX8_183 (by decide) (wfModel_o ha) dX8_restore_6 ?_
  refine v_if_ne o (tgt := 18) dX8_restore_9 (by decide) (fun c9 => ?_) (fun c9 => ?_)
  · replace h := h.1 c9
    refine v_aload_n o 0 dX8_restore_18 rfl ?_
    refine v_cVv o [] [] (fun sz => metX8_records l G P g2 sz a ha _ h) (cwX8_127 o.1.2.2.2.2 (by decide)) ⟨_, _, rfl⟩ (by decide) (wfModel_o ha) rfl (Nat.le_of_ble_eq_true rfl) ⟨Nat.zero_le _, Nat.zero_le _⟩ dX8_restore_19 rfl (fun g19 h => ?_)
    refine v_iconst o (v := 0) dX8_restore_22 (by decide) ?_
    refine v_istore_n o (lv' := [(1, .int 0), (0, .ref a)]) dX8_restore_23 rfl (by decide) rfl ?_
    refine v_sub [1, 0] (lv2 := [(0, .ref a), (1, .int 0)]) rfl ?_
    exact (main (μ24 g19 0 + 1)) g19 0  h (Nat.lt_succ_self _)
  · replace h := h.2 c9
    refine v_aload_n o 0 dX8_restore_12 rfl ?_
    refine v_iconst o (v := 1) dX8_restore_13 (by decide) ?_
    refine v_cVi o [.int 1] [] (fun sz => metX8_fails l G P g2 sz a ha 1 _ h) (cwX8_123 o.1.2.2.2.2 (by decide)) ⟨_, _, rfl⟩ (by decide) (wfModel_o ha) rfl (Nat.le_of_ble_eq_true rfl) ⟨Nat.zero_le _, Nat.zero_le _⟩ dX8_restore_14 rfl (fun r14 g14 h => ?_)
    exact v_iret o rfl hr dX8_restore_17 h
def kX8_restore (P : Sk) (f : St) (a : Nat) (K : Int32 → St → Prop) : Prop := False
theorem metX8_restore (l : Launch) (G : Gl) (P : Sk) (f : St) (sz : Nat) (a : Nat) (ha : IsModel P a) (K : Int32 → St → Prop) (h : kX8_restore P f a K) : Met l yX8_restore (wU yX8_restore cX8_restore 2 (some .int)) rmX8_restore (PcW G P f sz [.ref a]) (QcI G P sz K) 0 0 (frA P sz) := sorry

def vX8_tellsCrossing (P : Sk) (f : St) (a : Nat) (p1 : Int32) (p2 : Int32) (p3 : Int32) (K : Int32 → St → Prop) : Prop :=
  kX8_of P f a p1 1 (fun r4 g4 => (p2 < r4 → kX8_takes P g4 a p1 (fun g14 => kX8_walks P g14 a (p2 + 1) (fun g21 => (¬ p3 = 0 → (¬ p3 = 1 → (¬ p3 = 2 → K (g21 a 15) g21) ∧ (p3 = 2 → K (g21 a 14) g21)) ∧ (p3 = 1 → vp_in p2 50 ∧ (K ((g21 (a + 5) p2.toNatClampNeg) - (g21 (a + 5) p2.toNatClampNeg) / 2 * 2) g21))) ∧ (p3 = 0 → vp_in p2 50 ∧ (K ((g21 (a + 5) p2.toNatClampNeg) / 2) g21))))) ∧ (¬ p2 < r4 → K (-1) g4))
set_option maxRecDepth 20000 in
set_option maxHeartbeats 4000000 in
theorem mX8_tellsCrossing (l : Launch) (G : Gl) (P : Sk) (f : St) (sz : Nat) (a : Nat) (ha : IsModel P a) (p1 : Int32) (p2 : Int32) (p3 : Int32) (K : Int32 → St → Prop) (h : vX8_tellsCrossing P f a p1 p2 p3 K)  :
  Met l yX8_tellsCrossing (wU yX8_tellsCrossing cX8_tellsCrossing 4 (some .int)) rmX8_tellsCrossing (PcW G P f sz [.ref a, .int p1, .int p2, .int p3]) (QcI G P sz K) 0 0 (frA P sz) := by
  refine v_met (own := RX8) [.ref a, .int p1, .int p2, .int p3] (by decide +kernel) rfl (Nat.le_of_ble_eq_true rfl) (fun p e s m args below meth c hsz o hr hnm => ?_)
  refine v_lv (lv2 := [(0, .ref a), (1, .int p1), (2, .int p2), (3, .int p3)]) rfl ?_
  unfold vX8_tellsCrossing at h
  refine v_iload_n o 2 dX8_tellsCrossing_0 rfl ?_
  refine v_aload_n o 0 dX8_tellsCrossing_1 rfl ?_
  refine v_iload_n o 1 dX8_tellsCrossing_2 rfl ?_
  refine v_iconst o (v := 1) dX8_tellsCrossing_3 (by decide) ?_
  refine v_cVi o [.int p1, .int 1] [.int p2] (fun sz => metX8_of l G P f sz a ha p1 1 _ h) (cwX8_51 o.1.2.2.2.2 (by decide)) ⟨_, _, rfl⟩ (by decide) (wfModel_o ha) rfl (Nat.le_of_ble_eq_true rfl) ⟨Nat.zero_le _, Nat.zero_le _⟩ dX8_tellsCrossing_4 rfl (fun r4 g4 h => ?_)
  refine v_icmp_lt o (tgt := 12) dX8_tellsCrossing_7 (by decide) (fun c7 => ?_) (fun c7 => ?_)
  · replace h := h.1 c7
    refine v_aload_n o 0 dX8_tellsCrossing_12 rfl ?_
    refine v_iload_n o 1 dX8_tellsCrossing_13 rfl ?_
    refine v_cVv o [.int p1] [] (fun sz => metX8_takes l G P g4 sz a ha p1 _ h) (cwX8_107 o.1.2.2.2.2 (by decide)) ⟨_, _, rfl⟩ (by decide) (wfModel_o ha) rfl (Nat.le_of_ble_eq_true rfl) ⟨Nat.zero_le _, Nat.zero_le _⟩ dX8_tellsCrossing_14 rfl (fun g14 h => ?_)
    refine v_aload_n o 0 dX8_tellsCrossing_17 rfl ?_
    refine v_iload_n o 2 dX8_tellsCrossing_18 rfl ?_
    refine v_iconst o (v := 1) dX8_tellsCrossing_19 (by decide) ?_
    refine v_iadd o dX8_tellsCrossing_20 ?_
    refine v_cVv o [.int (p2 + 1)] [] (fun sz => metX8_walks l G P g14 sz a ha (p2 + 1) _ h) (cwX8_89 o.1.2.2.2.2 (by decide)) ⟨_, _, rfl⟩ (by decide) (wfModel_o ha) rfl (Nat.le_of_ble_eq_true rfl) ⟨Nat.zero_le _, Nat.zero_le _⟩ dX8_tellsCrossing_21 rfl (fun g21 h => ?_)
    refine v_iload_n o 3 dX8_tellsCrossing_24 rfl ?_
    refine v_if_ne o (tgt := 39) dX8_tellsCrossing_25 (by decide) (fun c25 => ?_) (fun c25 => ?_)
    · replace h := h.1 c25
      refine v_iload_n o 3 dX8_tellsCrossing_39 rfl ?_
      refine v_iconst o (v := 1) dX8_tellsCrossing_40 (by decide) ?_
      refine v_icmp_ne o (tgt := 55) dX8_tellsCrossing_41 (by decide) (fun c41 => ?_) (fun c41 => ?_)
      · replace h := h.1 c41
        refine v_iload_n o 3 dX8_tellsCrossing_55 rfl ?_
        refine v_iconst o (v := 2) dX8_tellsCrossing_56 (by decide) ?_
        refine v_icmp_ne o (tgt := 67) dX8_tellsCrossing_57 (by decide) (fun c57 => ?_) (fun c57 => ?_)
        · replace h := h.1 c57
          refine v_aload_n o 0 dX8_tellsCrossing_67 rfl ?_
          refine v_gfI o lkX8_83 (by decide) (wfModel_o ha) dX8_tellsCrossing_68 ?_
          exact v_iret o rfl hr dX8_tellsCrossing_71 h
        · replace h := h.2 c57
          refine v_aload_n o 0 dX8_tellsCrossing_60 rfl ?_
          refine v_gfI o lkX8_86 (by decide) (wfModel_o ha) dX8_tellsCrossing_61 ?_
          refine v_goto o (tgt := 71) dX8_tellsCrossing_64 (by decide) ?_
          exact v_iret o rfl hr dX8_tellsCrossing_71 h
      · replace h := h.2 c41
        refine v_aload_n o 0 dX8_tellsCrossing_44 rfl ?_
        refine v_gfR o lkX8_22 (by decide) (wfModel_o ha) (wfModel_r8 ha) dX8_tellsCrossing_45 ?_
        refine v_iload_n o 2 dX8_tellsCrossing_48 rfl ?_
        refine v_iald o (wfModel_t8 ha) (wfModel_n8 ha) h.1 dX8_tellsCrossing_49 ?_
        replace h := h.2
        refine v_iconst o (v := 2) dX8_tellsCrossing_50 (by decide) ?_
        refine v_irem o dX8_tellsCrossing_51 (by decide) ?_
        refine v_goto o (tgt := 71) dX8_tellsCrossing_52 (by decide) ?_
        exact v_iret o rfl hr dX8_tellsCrossing_71 h
    · replace h := h.2 c25
      refine v_aload_n o 0 dX8_tellsCrossing_28 rfl ?_
      refine v_gfR o lkX8_22 (by decide) (wfModel_o ha) (wfModel_r8 ha) dX8_tellsCrossing_29 ?_
      refine v_iload_n o 2 dX8_tellsCrossing_32 rfl ?_
      refine v_iald o (wfModel_t8 ha) (wfModel_n8 ha) h.1 dX8_tellsCrossing_33 ?_
      replace h := h.2
      refine v_iconst o (v := 2) dX8_tellsCrossing_34 (by decide) ?_
      refine v_idiv o dX8_tellsCrossing_35 (by decide) ?_
      refine v_goto o (tgt := 71) dX8_tellsCrossing_36 (by decide) ?_
      exact v_iret o rfl hr dX8_tellsCrossing_71 h
  · replace h := h.2 c7
    refine v_iconst o (v := (-1)) dX8_tellsCrossing_10 (by decide) ?_
    exact v_iret o rfl hr dX8_tellsCrossing_11 h
abbrev kX8_tellsCrossing := @vX8_tellsCrossing
abbrev metX8_tellsCrossing := @mX8_tellsCrossing

def jX8_crossing_48 (P : Sk) (a : Nat) (p1 : Int32) (p2 : Int32) (p3 : Int32) (K : Int32 → St → Prop) (f : St) : Prop :=
  kX8_fails P f a 2 (fun r50 g50 => K r50 g50)
def vX8_crossing (P : Sk) (f : St) (a : Nat) (p1 : Int32) (p2 : Int32) (p3 : Int32) (K : Int32 → St → Prop) : Prop :=
  ∀ g2 : St, g2 = setf f a 0 0 → kX8_isLoaf P g2 a p1 (fun r7 g7 => (¬ r7 = 0 → kX8_in P g7 p2 0 23 (fun r23 g23 => (r23 = 0 → jX8_crossing_48 P a p1 p2 p3 K  g23) ∧ (¬ r23 = 0 → kX8_in P g23 p3 0 3 (fun r32 g32 => (r32 = 0 → jX8_crossing_48 P a p1 p2 p3 K  g32) ∧ (¬ r32 = 0 → kX8_tellsCrossing P g32 a p1 p2 p3 (fun r42 g42 => K r42 g42)))))) ∧ (r7 = 0 → kX8_fails P g7 a 1 (fun r15 g15 => K r15 g15)))
set_option maxRecDepth 20000 in
set_option maxHeartbeats 4000000 in
theorem mX8_crossing (l : Launch) (G : Gl) (P : Sk) (f : St) (sz : Nat) (a : Nat) (ha : IsModel P a) (p1 : Int32) (p2 : Int32) (p3 : Int32) (K : Int32 → St → Prop) (h : vX8_crossing P f a p1 p2 p3 K)  :
  Met l yX8_crossing (wU yX8_crossing cX8_crossing 4 (some .int)) rmX8_crossing (PcW G P f sz [.ref a, .int p1, .int p2, .int p3]) (QcI G P sz K) 0 0 (frA P sz) := by
  refine v_met (own := RX8) [.ref a, .int p1, .int p2, .int p3] (by decide +kernel) rfl (Nat.le_of_ble_eq_true rfl) (fun p e s m args below meth c hsz o hr hnm => ?_)
  refine v_lv (lv2 := [(0, .ref a), (1, .int p1), (2, .int p2), (3, .int p3)]) rfl ?_
  have J48 : ∀ (g48 : St), jX8_crossing_48 P a p1 p2 p3 K  g48 → V p l e rmX8_crossing s m args below meth c 4 G (frA P sz) (MQ below (QcI G P sz K) args s 0 0 (frA P sz)) 0 0 P [(0, .ref a), (1, .int p1), (2, .int p2), (3, .int p3)] [] 48 g48 := by
    intro  g48  h
    unfold jX8_crossing_48 at h
    refine v_aload_n o 0 dX8_crossing_48 rfl ?_
    refine v_iconst o (v := 2) dX8_crossing_49 (by decide) ?_
    refine v_cVi o [.int 2] [] (fun sz => metX8_fails l G P g48 sz a ha 2 _ h) (cwX8_123 o.1.2.2.2.2 (by decide)) ⟨_, _, rfl⟩ (by decide) (wfModel_o ha) rfl (Nat.le_of_ble_eq_true rfl) ⟨Nat.zero_le _, Nat.zero_le _⟩ dX8_crossing_50 rfl (fun r50 g50 h => ?_)
    exact v_iret o rfl hr dX8_crossing_53 h
  unfold vX8_crossing at h
  refine v_aload_n o 0 dX8_crossing_0 rfl ?_
  refine v_iconst o (v := 0) dX8_crossing_1 (by decide) ?_
  refine v_pf o lpX8_40 (wfModel_o ha) ⟨rfl, rfl⟩ dX8_crossing_2 ?_
  refine v_nmf (fun g2 eg2 => ?_)
  replace h := h g2 eg2
  refine v_aload_n o 0 dX8_crossing_5 rfl ?_
  refine v_iload_n o 1 dX8_crossing_6 rfl ?_
  refine v_cVi o [.int p1] [] (fun sz => metX8_isLoaf l G P g2 sz a ha p1 _ h) (cwX8_104 o.1.2.2.2.2 (by decide)) ⟨_, _, rfl⟩ (by decide) (wfModel_o ha) rfl (Nat.le_of_ble_eq_true rfl) ⟨Nat.zero_le _, Nat.zero_le _⟩ dX8_crossing_7 rfl (fun r7 g7 h => ?_)
  refine v_if_ne o (tgt := 19) dX8_crossing_10 (by decide) (fun c10 => ?_) (fun c10 => ?_)
  · replace h := h.1 c10
    refine v_iload_n o 2 dX8_crossing_19 rfl ?_
    refine v_iconst o (v := 0) dX8_crossing_20 (by decide) ?_
    refine v_bipush o (v := 23) dX8_crossing_21 (by decide) ?_
    refine v_cSi o [.int p2, .int 0, .int 23] [] (fun sz => metX8_in l G P g7 sz p2 0 23 _ h) (cwX8_44 o.1.2.2.2.2 (by decide)) rfl (Nat.le_of_ble_eq_true rfl) ⟨Nat.zero_le _, Nat.zero_le _⟩ dX8_crossing_23 rfl (fun r23 g23 h => ?_)
    refine v_if_eq o (tgt := 48) dX8_crossing_26 (by decide) (fun c26 => ?_) (fun c26 => ?_)
    · replace h := h.1 c26
      refine v_sub [0, 1, 2, 3] (lv2 := [(0, .ref a), (1, .int p1), (2, .int p2), (3, .int p3)]) rfl ?_
      exact J48  g23  h
    · replace h := h.2 c26
      refine v_iload_n o 3 dX8_crossing_29 rfl ?_
      refine v_iconst o (v := 0) dX8_crossing_30 (by decide) ?_
      refine v_iconst o (v := 3) dX8_crossing_31 (by decide) ?_
      refine v_cSi o [.int p3, .int 0, .int 3] [] (fun sz => metX8_in l G P g23 sz p3 0 3 _ h) (cwX8_44 o.1.2.2.2.2 (by decide)) rfl (Nat.le_of_ble_eq_true rfl) ⟨Nat.zero_le _, Nat.zero_le _⟩ dX8_crossing_32 rfl (fun r32 g32 h => ?_)
      refine v_if_eq o (tgt := 48) dX8_crossing_35 (by decide) (fun c35 => ?_) (fun c35 => ?_)
      · replace h := h.1 c35
        refine v_sub [0, 1, 2, 3] (lv2 := [(0, .ref a), (1, .int p1), (2, .int p2), (3, .int p3)]) rfl ?_
        exact J48  g32  h
      · replace h := h.2 c35
        refine v_aload_n o 0 dX8_crossing_38 rfl ?_
        refine v_iload_n o 1 dX8_crossing_39 rfl ?_
        refine v_iload_n o 2 dX8_crossing_40 rfl ?_
        refine v_iload_n o 3 dX8_crossing_41 rfl ?_
        refine v_cVi o [.int p1, .int p2, .int p3] [] (fun sz => metX8_tellsCrossing l G P g32 sz a ha p1 p2 p3 _ h) (cwX8_186 o.1.2.2.2.2 (by decide)) ⟨_, _, rfl⟩ (by decide) (wfModel_o ha) rfl (Nat.le_of_ble_eq_true rfl) ⟨Nat.zero_le _, Nat.zero_le _⟩ dX8_crossing_42 rfl (fun r42 g42 h => ?_)
        refine v_goto o (tgt := 53) dX8_crossing_45 (by decide) ?_
        exact v_iret o rfl hr dX8_crossing_53 h
  · replace h := h.2 c10
    refine v_aload_n o 0 dX8_crossing_13 rfl ?_
    refine v_iconst o (v := 1) dX8_crossing_14 (by decide) ?_
    refine v_cVi o [.int 1] [] (fun sz => metX8_fails l G P g7 sz a ha 1 _ h) (cwX8_123 o.1.2.2.2.2 (by decide)) ⟨_, _, rfl⟩ (by decide) (wfModel_o ha) rfl (Nat.le_of_ble_eq_true rfl) ⟨Nat.zero_le _, Nat.zero_le _⟩ dX8_crossing_15 rfl (fun r15 g15 h => ?_)
    exact v_iret o rfl hr dX8_crossing_18 h
abbrev kX8_crossing := @vX8_crossing
abbrev metX8_crossing := @mX8_crossing

def jX8_placeOf_27 (P : Sk) (a : Nat) (p1 : Int32) (L4 : St → Int32 → Int32 → Prop) (K : Int32 → St → Prop) (x2 : Int32) (x3 : Int32) (y0 : Int32) (f : St) : Prop :=
  ∀ x3_28 : Int32, x3_28 = x3 + 1 → L4 f y0 x3_28
def bX8_placeOf_4 (P : Sk) (a : Nat) (p1 : Int32) (L4 : St → Int32 → Int32 → Prop) (K : Int32 → St → Prop) (f : St) (x2 : Int32) (x3 : Int32) : Prop :=
  (f a 10 ≤ x3 → K x2 f) ∧ (¬ f a 10 ≤ x3 → vp_in x3 7 ∧ ((¬ f (a + 6) x3.toNatClampNeg = p1 → jX8_placeOf_27 P a p1 L4 K x2 x3 x2 f) ∧ (f (a + 6) x3.toNatClampNeg = p1 → jX8_placeOf_27 P a p1 L4 K x2 x3 x3 f)))
def vX8_placeOf (P : Sk) (f : St) (a : Nat) (p1 : Int32) (L4 : St → Int32 → Int32 → Prop) (K : Int32 → St → Prop) : Prop :=
  L4 f (-1) 0
set_option maxRecDepth 20000 in
set_option maxHeartbeats 4000000 in
theorem mX8_placeOf (l : Launch) (G : Gl) (P : Sk) (f : St) (sz : Nat) (a : Nat) (ha : IsModel P a) (p1 : Int32) (K : Int32 → St → Prop) (I4 : St → Int32 → Int32 → Prop) (μ4 : St → Int32 → Int32 → Nat) 
  (h : vX8_placeOf P f a p1 I4 K)
  (h4 : ∀ (g : St) (x2 : Int32) (x3 : Int32) , I4 g x2 x3 → bX8_placeOf_4 P a p1 (fun g' z0 z1 => I4 g' z0 z1 ∧ μ4 g' z0 z1 < μ4 g x2 x3) K g x2 x3) :
  Met l yX8_placeOf (wU yX8_placeOf cX8_placeOf 4 (some .int)) rmX8_placeOf (PcW G P f sz [.ref a, .int p1]) (QcI G P sz K) 0 0 (frA P sz) := by
  refine v_met (own := RX8) [.ref a, .int p1] (by decide +kernel) rfl (Nat.le_of_ble_eq_true rfl) (fun p e s m args below meth c hsz o hr hnm => ?_)
  refine v_lv (lv2 := [(0, .ref a), (1, .int p1)]) rfl ?_
  have main : ∀ n : Nat, (∀ (g : St) (x2 : Int32) (x3 : Int32) , I4 g x2 x3 → μ4 g x2 x3 < n → V p l e rmX8_placeOf s m args below meth c 4 G (frA P sz) (MQ below (QcI G P sz K) args s 0 0 (frA P sz)) 0 0 P [(0, .ref a), (1, .int p1), (2, .int x2), (3, .int x3)] [] 4 g) := by
    intro n
    induction n with
    | zero => exact fun g x2 x3 hI hm => absurd hm (Nat.not_lt_zero _)
    | succ n ih =>
      intro g x2 x3 hI hm
      have h := h4 g x2 x3 hI
      clear hI
      have J27 : ∀ (x2_27 : Int32) (x3_27 : Int32) (y0_27 : Int32) (g27 : St), jX8_placeOf_27 P a p1 (fun g' z0 z1 => I4 g' z0 z1 ∧ μ4 g' z0 z1 < μ4 g x2 x3) K x2_27 x3_27 y0_27 g27 → V p l e rmX8_placeOf s m args below meth c 4 G (frA P sz) (MQ below (QcI G P sz K) args s 0 0 (frA P sz)) 0 0 P [(0, .ref a), (1, .int p1), (2, .int x2_27), (3, .int x3_27)] [.int y0_27] 27 g27 := by
        intro x2_27 x3_27 y0_27 g27  h
        unfold jX8_placeOf_27 at h
        refine v_istore_n o (lv' := [(2, .int y0_27), (0, .ref a), (1, .int p1), (3, .int x3_27)]) dX8_placeOf_27 rfl (by decide) rfl ?_
        obtain ⟨x3_28, ex3_28⟩ : ∃ y : Int32, y = x3_27 + 1 := ⟨_, rfl⟩
        replace h := h x3_28 ex3_28
        refine v_iinc o (v := x3_28) (lv' := [(3, .int x3_28), (2, .int y0_27), (0, .ref a), (1, .int p1)]) 3 dX8_placeOf_28 rfl (by rw [ex3_28]; rfl) (by decide) rfl ?_
        refine v_goto o (tgt := 4) dX8_placeOf_31 (by decide) ?_
        refine v_sub [2, 3, 1, 0] (lv2 := [(0, .ref a), (1, .int p1), (2, .int y0_27), (3, .int x3_28)]) rfl ?_
        exact ih g27 y0_27 x3_28  h.1 (by have := h.2; omega)
      unfold bX8_placeOf_4 at h
      refine v_iload_n o 3 dX8_placeOf_4 rfl ?_
      refine v_aload_n o 0 dX8_placeOf_5 rfl ?_
      refine v_gfI o lkX8_55 (by decide) (wfModel_o ha) dX8_placeOf_6 ?_
      refine v_icmp_ge o (tgt := 34) dX8_placeOf_9 (by decide) (fun c9 => ?_) (fun c9 => ?_)
      · replace h := h.1 c9
        refine v_iload_n o 2 dX8_placeOf_34 rfl ?_
        exact v_iret o rfl hr dX8_placeOf_35 h
      · replace h := h.2 c9
        refine v_aload_n o 0 dX8_placeOf_12 rfl ?_
        refine v_gfR o lkX8_25 (by decide) (wfModel_o ha) (wfModel_r11 ha) dX8_placeOf_13 ?_
        refine v_iload_n o 3 dX8_placeOf_16 rfl ?_
        refine v_iald o (wfModel_t11 ha) (wfModel_n11 ha) h.1 dX8_placeOf_17 ?_
        replace h := h.2
        refine v_iload_n o 1 dX8_placeOf_18 rfl ?_
        refine v_icmp_ne o (tgt := 26) dX8_placeOf_19 (by decide) (fun c19 => ?_) (fun c19 => ?_)
        · replace h := h.1 c19
          refine v_iload_n o 2 dX8_placeOf_26 rfl ?_
          refine v_sub [0, 1, 2, 3] (lv2 := [(0, .ref a), (1, .int p1), (2, .int x2), (3, .int x3)]) rfl ?_
          exact J27 x2 x3 x2 g  h
        · replace h := h.2 c19
          refine v_iload_n o 3 dX8_placeOf_22 rfl ?_
          refine v_goto o (tgt := 27) dX8_placeOf_23 (by decide) ?_
          refine v_sub [0, 1, 2, 3] (lv2 := [(0, .ref a), (1, .int p1), (2, .int x2), (3, .int x3)]) rfl ?_
          exact J27 x2 x3 x3 g  h
  unfold vX8_placeOf at h
  refine v_iconst o (v := (-1)) dX8_placeOf_0 (by decide) ?_
  refine v_istore_n o (lv' := [(2, .int (-1)), (0, .ref a), (1, .int p1)]) dX8_placeOf_1 rfl (by decide) rfl ?_
  refine v_iconst o (v := 0) dX8_placeOf_2 (by decide) ?_
  refine v_istore_n o (lv' := [(3, .int 0), (2, .int (-1)), (0, .ref a), (1, .int p1)]) dX8_placeOf_3 rfl (by decide) rfl ?_
  refine v_sub [2, 3, 1, 0] (lv2 := [(0, .ref a), (1, .int p1), (2, .int (-1)), (3, .int 0)]) rfl ?_
  exact (main (μ4 f (-1) 0 + 1)) f (-1) 0  h (Nat.lt_succ_self _)
def kX8_placeOf (P : Sk) (f : St) (a : Nat) (p1 : Int32) (K : Int32 → St → Prop) : Prop := False
theorem metX8_placeOf (l : Launch) (G : Gl) (P : Sk) (f : St) (sz : Nat) (a : Nat) (ha : IsModel P a) (p1 : Int32) (K : Int32 → St → Prop) (h : kX8_placeOf P f a p1 K) : Met l yX8_placeOf (wU yX8_placeOf cX8_placeOf 4 (some .int)) rmX8_placeOf (PcW G P f sz [.ref a, .int p1]) (QcI G P sz K) 0 0 (frA P sz) := sorry

def vX8_tellsStrand (P : Sk) (f : St) (a : Nat) (p1 : Int32) (p2 : Int32) (p3 : Int32) (K : Int32 → St → Prop) : Prop :=
  kX8_of P f a p1 0 (fun r4 g4 => (p2 < r4 → kX8_takes P g4 a p1 (fun g14 => kX8_walks P g14 a (g14 a 9) (fun g22 => (p3 = 0 → kX8_placeOf P g22 a p2 (fun r58 g58 => K r58 g58)) ∧ (¬ p3 = 0 → (p3 = 1 → vp_in p2 7 ∧ (K (g22 (a + 7) p2.toNatClampNeg) g22)) ∧ (¬ p3 = 1 → (p3 = 2 → vp_in p2 7 ∧ (K (g22 (a + 8) p2.toNatClampNeg) g22)) ∧ (¬ p3 = 2 → (p3 = 3 → vp_in p2 7 ∧ (vp_in p2 7 ∧ (K ((30 - (g22 (a + 8) p2.toNatClampNeg)) - (2 * (g22 (a + 7) p2.toNatClampNeg))) g22))) ∧ (¬ p3 = 3 → vp_in p2 7 ∧ (K (g22 (a + 6) p2.toNatClampNeg) g22)))))))) ∧ (¬ p2 < r4 → K (-1) g4))
set_option maxRecDepth 20000 in
set_option maxHeartbeats 4000000 in
theorem mX8_tellsStrand (l : Launch) (G : Gl) (P : Sk) (f : St) (sz : Nat) (a : Nat) (ha : IsModel P a) (p1 : Int32) (p2 : Int32) (p3 : Int32) (K : Int32 → St → Prop) (h : vX8_tellsStrand P f a p1 p2 p3 K)  :
  Met l yX8_tellsStrand (wU yX8_tellsStrand cX8_tellsStrand 4 (some .int)) rmX8_tellsStrand (PcW G P f sz [.ref a, .int p1, .int p2, .int p3]) (QcI G P sz K) 0 0 (frA P sz) := by
  refine v_met (own := RX8) [.ref a, .int p1, .int p2, .int p3] (by decide +kernel) rfl (Nat.le_of_ble_eq_true rfl) (fun p e s m args below meth c hsz o hr hnm => ?_)
  refine v_lv (lv2 := [(0, .ref a), (1, .int p1), (2, .int p2), (3, .int p3)]) rfl ?_
  unfold vX8_tellsStrand at h
  refine v_iload_n o 2 dX8_tellsStrand_0 rfl ?_
  refine v_aload_n o 0 dX8_tellsStrand_1 rfl ?_
  refine v_iload_n o 1 dX8_tellsStrand_2 rfl ?_
  refine v_iconst o (v := 0) dX8_tellsStrand_3 (by decide) ?_
  refine v_cVi o [.int p1, .int 0] [.int p2] (fun sz => metX8_of l G P f sz a ha p1 0 _ h) (cwX8_51 o.1.2.2.2.2 (by decide)) ⟨_, _, rfl⟩ (by decide) (wfModel_o ha) rfl (Nat.le_of_ble_eq_true rfl) ⟨Nat.zero_le _, Nat.zero_le _⟩ dX8_tellsStrand_4 rfl (fun r4 g4 h => ?_)
  refine v_icmp_lt o (tgt := 12) dX8_tellsStrand_7 (by decide) (fun c7 => ?_) (fun c7 => ?_)
  · replace h := h.1 c7
    refine v_aload_n o 0 dX8_tellsStrand_12 rfl ?_
    refine v_iload_n o 1 dX8_tellsStrand_13 rfl ?_
    refine v_cVv o [.int p1] [] (fun sz => metX8_takes l G P g4 sz a ha p1 _ h) (cwX8_107 o.1.2.2.2.2 (by decide)) ⟨_, _, rfl⟩ (by decide) (wfModel_o ha) rfl (Nat.le_of_ble_eq_true rfl) ⟨Nat.zero_le _, Nat.zero_le _⟩ dX8_tellsStrand_14 rfl (fun g14 h => ?_)
    refine v_aload_n o 0 dX8_tellsStrand_17 rfl ?_
    refine v_aload_n o 0 dX8_tellsStrand_18 rfl ?_
    refine v_gfI o lkX8_58 (by decide) (wfModel_o ha) dX8_tellsStrand_19 ?_
    refine v_cVv o [.int (g14 a 9)] [] (fun sz => metX8_walks l G P g14 sz a ha (g14 a 9) _ h) (cwX8_89 o.1.2.2.2.2 (by decide)) ⟨_, _, rfl⟩ (by decide) (wfModel_o ha) rfl (Nat.le_of_ble_eq_true rfl) ⟨Nat.zero_le _, Nat.zero_le _⟩ dX8_tellsStrand_22 rfl (fun g22 h => ?_)
    refine v_iload_n o 3 dX8_tellsStrand_25 rfl ?_
    by_cases c26_0 : p3 = 0
    · replace h := h.1 c26_0
      refine v_tableIn o (off := 30) (tgt := 56) dX8_tellsStrand_26 (by rw [c26_0]; decide) (by rw [c26_0]; decide) (by rw [c26_0]; decide) (by decide) ?_
      refine v_aload_n o 0 dX8_tellsStrand_56 rfl ?_
      refine v_iload_n o 2 dX8_tellsStrand_57 rfl ?_
      refine v_cVi o [.int p2] [] (fun sz => metX8_placeOf l G P g22 sz a ha p2 _ h) (cwX8_189 o.1.2.2.2.2 (by decide)) ⟨_, _, rfl⟩ (by decide) (wfModel_o ha) rfl (Nat.le_of_ble_eq_true rfl) ⟨Nat.zero_le _, Nat.zero_le _⟩ dX8_tellsStrand_58 rfl (fun r58 g58 h => ?_)
      exact v_iret o rfl hr dX8_tellsStrand_61 h
    · replace h := h.2 c26_0
      by_cases c26_1 : p3 = 1
      · replace h := h.1 c26_1
        refine v_tableIn o (off := 36) (tgt := 62) dX8_tellsStrand_26 (by rw [c26_1]; decide) (by rw [c26_1]; decide) (by rw [c26_1]; decide) (by decide) ?_
        refine v_aload_n o 0 dX8_tellsStrand_62 rfl ?_
        refine v_gfR o lkX8_28 (by decide) (wfModel_o ha) (wfModel_r12 ha) dX8_tellsStrand_63 ?_
        refine v_iload_n o 2 dX8_tellsStrand_66 rfl ?_
        refine v_iald o (wfModel_t12 ha) (wfModel_n12 ha) h.1 dX8_tellsStrand_67 ?_
        replace h := h.2
        exact v_iret o rfl hr dX8_tellsStrand_68 h
      · replace h := h.2 c26_1
        by_cases c26_2 : p3 = 2
        · replace h := h.1 c26_2
          refine v_tableIn o (off := 43) (tgt := 69) dX8_tellsStrand_26 (by rw [c26_2]; decide) (by rw [c26_2]; decide) (by rw [c26_2]; decide) (by decide) ?_
          refine v_aload_n o 0 dX8_tellsStrand_69 rfl ?_
          refine v_gfR o lkX8_31 (by decide) (wfModel_o ha) (wfModel_r13 ha) dX8_tellsStrand_70 ?_
          refine v_iload_n o 2 dX8_tellsStrand_73 rfl ?_
          refine v_iald o (wfModel_t13 ha) (wfModel_n13 ha) h.1 dX8_tellsStrand_74 ?_
          replace h := h.2
          exact v_iret o rfl hr dX8_tellsStrand_75 h
        · replace h := h.2 c26_2
          by_cases c26_3 : p3 = 3
          · replace h := h.1 c26_3
            refine v_tableIn o (off := 50) (tgt := 76) dX8_tellsStrand_26 (by rw [c26_3]; decide) (by rw [c26_3]; decide) (by rw [c26_3]; decide) (by decide) ?_
            refine v_bipush o (v := 30) dX8_tellsStrand_76 (by decide) ?_
            refine v_aload_n o 0 dX8_tellsStrand_78 rfl ?_
            refine v_gfR o lkX8_31 (by decide) (wfModel_o ha) (wfModel_r13 ha) dX8_tellsStrand_79 ?_
            refine v_iload_n o 2 dX8_tellsStrand_82 rfl ?_
            refine v_iald o (wfModel_t13 ha) (wfModel_n13 ha) h.1 dX8_tellsStrand_83 ?_
            replace h := h.2
            refine v_isub o dX8_tellsStrand_84 ?_
            refine v_iconst o (v := 2) dX8_tellsStrand_85 (by decide) ?_
            refine v_aload_n o 0 dX8_tellsStrand_86 rfl ?_
            refine v_gfR o lkX8_28 (by decide) (wfModel_o ha) (wfModel_r12 ha) dX8_tellsStrand_87 ?_
            refine v_iload_n o 2 dX8_tellsStrand_90 rfl ?_
            refine v_iald o (wfModel_t12 ha) (wfModel_n12 ha) h.1 dX8_tellsStrand_91 ?_
            replace h := h.2
            refine v_imul o dX8_tellsStrand_92 ?_
            refine v_isub o dX8_tellsStrand_93 ?_
            exact v_iret o rfl hr dX8_tellsStrand_94 h
          · replace h := h.2 c26_3
            refine v_tableOut o (tgt := 95) dX8_tellsStrand_26 (by have q0 := lv_neT c26_0 (a := 0) (by decide); have q1 := lv_neT c26_1 (a := 1) (by decide); have q2 := lv_neT c26_2 (a := 2) (by decide); have q3 := lv_neT c26_3 (a := 3) (by decide); omega) (by decide) ?_
            refine v_aload_n o 0 dX8_tellsStrand_95 rfl ?_
            refine v_gfR o lkX8_25 (by decide) (wfModel_o ha) (wfModel_r11 ha) dX8_tellsStrand_96 ?_
            refine v_iload_n o 2 dX8_tellsStrand_99 rfl ?_
            refine v_iald o (wfModel_t11 ha) (wfModel_n11 ha) h.1 dX8_tellsStrand_100 ?_
            replace h := h.2
            exact v_iret o rfl hr dX8_tellsStrand_101 h
  · replace h := h.2 c7
    refine v_iconst o (v := (-1)) dX8_tellsStrand_10 (by decide) ?_
    exact v_iret o rfl hr dX8_tellsStrand_11 h
abbrev kX8_tellsStrand := @vX8_tellsStrand
abbrev metX8_tellsStrand := @mX8_tellsStrand

def jX8_strand_48 (P : Sk) (a : Nat) (p1 : Int32) (p2 : Int32) (p3 : Int32) (K : Int32 → St → Prop) (f : St) : Prop :=
  kX8_fails P f a 2 (fun r50 g50 => K r50 g50)
def vX8_strand (P : Sk) (f : St) (a : Nat) (p1 : Int32) (p2 : Int32) (p3 : Int32) (K : Int32 → St → Prop) : Prop :=
  ∀ g2 : St, g2 = setf f a 0 0 → kX8_isLoaf P g2 a p1 (fun r7 g7 => (¬ r7 = 0 → kX8_in P g7 p2 0 6 (fun r23 g23 => (r23 = 0 → jX8_strand_48 P a p1 p2 p3 K  g23) ∧ (¬ r23 = 0 → kX8_in P g23 p3 0 4 (fun r32 g32 => (r32 = 0 → jX8_strand_48 P a p1 p2 p3 K  g32) ∧ (¬ r32 = 0 → kX8_tellsStrand P g32 a p1 p2 p3 (fun r42 g42 => K r42 g42)))))) ∧ (r7 = 0 → kX8_fails P g7 a 1 (fun r15 g15 => K r15 g15)))
set_option maxRecDepth 20000 in
set_option maxHeartbeats 4000000 in
theorem mX8_strand (l : Launch) (G : Gl) (P : Sk) (f : St) (sz : Nat) (a : Nat) (ha : IsModel P a) (p1 : Int32) (p2 : Int32) (p3 : Int32) (K : Int32 → St → Prop) (h : vX8_strand P f a p1 p2 p3 K)  :
  Met l yX8_strand (wU yX8_strand cX8_strand 4 (some .int)) rmX8_strand (PcW G P f sz [.ref a, .int p1, .int p2, .int p3]) (QcI G P sz K) 0 0 (frA P sz) := by
  refine v_met (own := RX8) [.ref a, .int p1, .int p2, .int p3] (by decide +kernel) rfl (Nat.le_of_ble_eq_true rfl) (fun p e s m args below meth c hsz o hr hnm => ?_)
  refine v_lv (lv2 := [(0, .ref a), (1, .int p1), (2, .int p2), (3, .int p3)]) rfl ?_
  have J48 : ∀ (g48 : St), jX8_strand_48 P a p1 p2 p3 K  g48 → V p l e rmX8_strand s m args below meth c 4 G (frA P sz) (MQ below (QcI G P sz K) args s 0 0 (frA P sz)) 0 0 P [(0, .ref a), (1, .int p1), (2, .int p2), (3, .int p3)] [] 48 g48 := by
    intro  g48  h
    unfold jX8_strand_48 at h
    refine v_aload_n o 0 dX8_strand_48 rfl ?_
    refine v_iconst o (v := 2) dX8_strand_49 (by decide) ?_
    refine v_cVi o [.int 2] [] (fun sz => metX8_fails l G P g48 sz a ha 2 _ h) (cwX8_123 o.1.2.2.2.2 (by decide)) ⟨_, _, rfl⟩ (by decide) (wfModel_o ha) rfl (Nat.le_of_ble_eq_true rfl) ⟨Nat.zero_le _, Nat.zero_le _⟩ dX8_strand_50 rfl (fun r50 g50 h => ?_)
    exact v_iret o rfl hr dX8_strand_53 h
  unfold vX8_strand at h
  refine v_aload_n o 0 dX8_strand_0 rfl ?_
  refine v_iconst o (v := 0) dX8_strand_1 (by decide) ?_
  refine v_pf o lpX8_40 (wfModel_o ha) ⟨rfl, rfl⟩ dX8_strand_2 ?_
  refine v_nmf (fun g2 eg2 => ?_)
  replace h := h g2 eg2
  refine v_aload_n o 0 dX8_strand_5 rfl ?_
  refine v_iload_n o 1 dX8_strand_6 rfl ?_
  refine v_cVi o [.int p1] [] (fun sz => metX8_isLoaf l G P g2 sz a ha p1 _ h) (cwX8_104 o.1.2.2.2.2 (by decide)) ⟨_, _, rfl⟩ (by decide) (wfModel_o ha) rfl (Nat.le_of_ble_eq_true rfl) ⟨Nat.zero_le _, Nat.zero_le _⟩ dX8_strand_7 rfl (fun r7 g7 h => ?_)
  refine v_if_ne o (tgt := 19) dX8_strand_10 (by decide) (fun c10 => ?_) (fun c10 => ?_)
  · replace h := h.1 c10
    refine v_iload_n o 2 dX8_strand_19 rfl ?_
    refine v_iconst o (v := 0) dX8_strand_20 (by decide) ?_
    refine v_bipush o (v := 6) dX8_strand_21 (by decide) ?_
    refine v_cSi o [.int p2, .int 0, .int 6] [] (fun sz => metX8_in l G P g7 sz p2 0 6 _ h) (cwX8_44 o.1.2.2.2.2 (by decide)) rfl (Nat.le_of_ble_eq_true rfl) ⟨Nat.zero_le _, Nat.zero_le _⟩ dX8_strand_23 rfl (fun r23 g23 h => ?_)
    refine v_if_eq o (tgt := 48) dX8_strand_26 (by decide) (fun c26 => ?_) (fun c26 => ?_)
    · replace h := h.1 c26
      refine v_sub [0, 1, 2, 3] (lv2 := [(0, .ref a), (1, .int p1), (2, .int p2), (3, .int p3)]) rfl ?_
      exact J48  g23  h
    · replace h := h.2 c26
      refine v_iload_n o 3 dX8_strand_29 rfl ?_
      refine v_iconst o (v := 0) dX8_strand_30 (by decide) ?_
      refine v_iconst o (v := 4) dX8_strand_31 (by decide) ?_
      refine v_cSi o [.int p3, .int 0, .int 4] [] (fun sz => metX8_in l G P g23 sz p3 0 4 _ h) (cwX8_44 o.1.2.2.2.2 (by decide)) rfl (Nat.le_of_ble_eq_true rfl) ⟨Nat.zero_le _, Nat.zero_le _⟩ dX8_strand_32 rfl (fun r32 g32 h => ?_)
      refine v_if_eq o (tgt := 48) dX8_strand_35 (by decide) (fun c35 => ?_) (fun c35 => ?_)
      · replace h := h.1 c35
        refine v_sub [0, 1, 2, 3] (lv2 := [(0, .ref a), (1, .int p1), (2, .int p2), (3, .int p3)]) rfl ?_
        exact J48  g32  h
      · replace h := h.2 c35
        refine v_aload_n o 0 dX8_strand_38 rfl ?_
        refine v_iload_n o 1 dX8_strand_39 rfl ?_
        refine v_iload_n o 2 dX8_strand_40 rfl ?_
        refine v_iload_n o 3 dX8_strand_41 rfl ?_
        refine v_cVi o [.int p1, .int p2, .int p3] [] (fun sz => metX8_tellsStrand l G P g32 sz a ha p1 p2 p3 _ h) (cwX8_192 o.1.2.2.2.2 (by decide)) ⟨_, _, rfl⟩ (by decide) (wfModel_o ha) rfl (Nat.le_of_ble_eq_true rfl) ⟨Nat.zero_le _, Nat.zero_le _⟩ dX8_strand_42 rfl (fun r42 g42 h => ?_)
        refine v_goto o (tgt := 53) dX8_strand_45 (by decide) ?_
        exact v_iret o rfl hr dX8_strand_53 h
  · replace h := h.2 c10
    refine v_aload_n o 0 dX8_strand_13 rfl ?_
    refine v_iconst o (v := 1) dX8_strand_14 (by decide) ?_
    refine v_cVi o [.int 1] [] (fun sz => metX8_fails l G P g7 sz a ha 1 _ h) (cwX8_123 o.1.2.2.2.2 (by decide)) ⟨_, _, rfl⟩ (by decide) (wfModel_o ha) rfl (Nat.le_of_ble_eq_true rfl) ⟨Nat.zero_le _, Nat.zero_le _⟩ dX8_strand_15 rfl (fun r15 g15 h => ?_)
    exact v_iret o rfl hr dX8_strand_18 h
abbrev kX8_strand := @vX8_strand
abbrev metX8_strand := @mX8_strand

def jX8_rings_28 (P : Sk) (a : Nat) (L6 : St → Int32 → Int32 → Int32 → Prop) (L33 : St → Int32 → Int32 → Int32 → Int32 → Prop) (K : Int32 → St → Prop) (x1 : Int32) (x2 : Int32) (x3 : Int32) (y0 : Int32) (y1 : Int32) (f : St) : Prop :=
  ∀ x2_29 : Int32, x2_29 = y0 + y1 → L33 f x1 x2_29 x3 x3
def bX8_rings_6 (P : Sk) (a : Nat) (L6 : St → Int32 → Int32 → Int32 → Prop) (L33 : St → Int32 → Int32 → Int32 → Int32 → Prop) (K : Int32 → St → Prop) (f : St) (x1 : Int32) (x2 : Int32) (x3 : Int32) : Prop :=
  (f a 10 ≤ x3 → K x2 f) ∧ (¬ f a 10 ≤ x3 → (¬ (x1 >>> (x3 &&& 31)) &&& 1 = 0 → jX8_rings_28 P a L6 L33 K x1 x2 x3 x2 0 f) ∧ ((x1 >>> (x3 &&& 31)) &&& 1 = 0 → jX8_rings_28 P a L6 L33 K x1 x2 x3 x2 1 f))
def bX8_rings_33 (P : Sk) (a : Nat) (L6 : St → Int32 → Int32 → Int32 → Prop) (L33 : St → Int32 → Int32 → Int32 → Int32 → Prop) (K : Int32 → St → Prop) (f : St) (x1 : Int32) (x2 : Int32) (x3 : Int32) (x4 : Int32) : Prop :=
  (¬ (x1 >>> (x4 &&& 31)) &&& 1 = 0 → ∀ x3_61 : Int32, x3_61 = x3 + 1 → L6 f x1 x2 x3_61) ∧ ((x1 >>> (x4 &&& 31)) &&& 1 = 0 → ∀ x1_48 : Int32, x1_48 = x1 ||| (1 <<< (x4 &&& 31)) → vp_in x4 7 ∧ (∀ x4_56 : Int32, x4_56 = f (a + 6) x4.toNatClampNeg → L33 f x1_48 x2 x3 x4_56))
def vX8_rings (P : Sk) (f : St) (a : Nat) (L6 : St → Int32 → Int32 → Int32 → Prop) (L33 : St → Int32 → Int32 → Int32 → Int32 → Prop) (K : Int32 → St → Prop) : Prop :=
  L6 f 0 0 0
set_option maxRecDepth 20000 in
set_option maxHeartbeats 4000000 in
theorem mX8_rings (l : Launch) (G : Gl) (P : Sk) (f : St) (sz : Nat) (a : Nat) (ha : IsModel P a) (K : Int32 → St → Prop) (I6 : St → Int32 → Int32 → Int32 → Prop) (μ6 : St → Int32 → Int32 → Int32 → Nat) (I33 : St → Int32 → Int32 → Int32 → Int32 → Prop) (μ33 : St → Int32 → Int32 → Int32 → Int32 → Nat) 
  (h : vX8_rings P f a I6 I33 K)
  (h6 : ∀ (g : St) (x1 : Int32) (x2 : Int32) (x3 : Int32) , I6 g x1 x2 x3 → bX8_rings_6 P a (fun g' z0 z1 z2 => I6 g' z0 z1 z2 ∧ μ6 g' z0 z1 z2 < μ6 g x1 x2 x3) (fun g' z0 z1 z2 z3 => I33 g' z0 z1 z2 z3 ∧ μ33 g' z0 z1 z2 z3 < μ6 g x1 x2 x3) K g x1 x2 x3)
  (h33 : ∀ (g : St) (x1 : Int32) (x2 : Int32) (x3 : Int32) (x4 : Int32) , I33 g x1 x2 x3 x4 → bX8_rings_33 P a (fun g' z0 z1 z2 => I6 g' z0 z1 z2 ∧ μ6 g' z0 z1 z2 < μ33 g x1 x2 x3 x4) (fun g' z0 z1 z2 z3 => I33 g' z0 z1 z2 z3 ∧ μ33 g' z0 z1 z2 z3 < μ33 g x1 x2 x3 x4) K g x1 x2 x3 x4) :
  Met l yX8_rings (wU yX8_rings cX8_rings 5 (some .int)) rmX8_rings (PcW G P f sz [.ref a]) (QcI G P sz K) 0 0 (frA P sz) := by
  refine v_met (own := RX8) [.ref a] (by decide +kernel) rfl (Nat.le_of_ble_eq_true rfl) (fun p e s m args below meth c hsz o hr hnm => ?_)
  refine v_lv (lv2 := [(0, .ref a)]) rfl ?_
  have main : ∀ n : Nat, (∀ (g : St) (x1 : Int32) (x2 : Int32) (x3 : Int32) , I6 g x1 x2 x3 → μ6 g x1 x2 x3 < n → V p l e rmX8_rings s m args below meth c 5 G (frA P sz) (MQ below (QcI G P sz K) args s 0 0 (frA P sz)) 0 0 P [(0, .ref a), (1, .int x1), (2, .int x2), (3, .int x3)] [] 6 g) ∧ (∀ (g : St) (x1 : Int32) (x2 : Int32) (x3 : Int32) (x4 : Int32) , I33 g x1 x2 x3 x4 → μ33 g x1 x2 x3 x4 < n → V p l e rmX8_rings s m args below meth c 5 G (frA P sz) (MQ below (QcI G P sz K) args s 0 0 (frA P sz)) 0 0 P [(0, .ref a), (1, .int x1), (2, .int x2), (3, .int x3), (4, .int x4)] [] 33 g) := by
    intro n
    induction n with
    | zero => exact ⟨fun g x1 x2 x3 hI hm => absurd hm (Nat.not_lt_zero _), fun g x1 x2 x3 x4 hI hm => absurd hm (Nat.not_lt_zero _)⟩
    | succ n ih =>
      refine ⟨?_, ?_⟩
      · intro g x1 x2 x3 hI hm
        have h := h6 g x1 x2 x3 hI
        clear hI
        have J28 : ∀ (x1_28 : Int32) (x2_28 : Int32) (x3_28 : Int32) (y0_28 : Int32) (y1_28 : Int32) (g28 : St), jX8_rings_28 P a (fun g' z0 z1 z2 => I6 g' z0 z1 z2 ∧ μ6 g' z0 z1 z2 < μ6 g x1 x2 x3) (fun g' z0 z1 z2 z3 => I33 g' z0 z1 z2 z3 ∧ μ33 g' z0 z1 z2 z3 < μ6 g x1 x2 x3) K x1_28 x2_28 x3_28 y0_28 y1_28 g28 → V p l e rmX8_rings s m args below meth c 5 G (frA P sz) (MQ below (QcI G P sz K) args s 0 0 (frA P sz)) 0 0 P [(0, .ref a), (1, .int x1_28), (2, .int x2_28), (3, .int x3_28)] [.int y1_28, .int y0_28] 28 g28 := by
          intro x1_28 x2_28 x3_28 y0_28 y1_28 g28  h
          unfold jX8_rings_28 at h
          refine v_iadd o dX8_rings_28 ?_
          refine v_topi (fun x2_29 ex2_29 => ?_)
          replace h := h x2_29 ex2_29
          refine v_istore_n o (lv' := [(2, .int x2_29), (0, .ref a), (1, .int x1_28), (3, .int x3_28)]) dX8_rings_29 rfl (by decide) rfl ?_
          refine v_iload_n o 3 dX8_rings_30 rfl ?_
          refine v_istore o (lv' := [(4, .int x3_28), (2, .int x2_29), (0, .ref a), (1, .int x1_28), (3, .int x3_28)]) dX8_rings_31 (by decide) rfl ?_
          refine v_sub [2, 3, 1, 4, 0] (lv2 := [(0, .ref a), (1, .int x1_28), (2, .int x2_29), (3, .int x3_28), (4, .int x3_28)]) rfl ?_
          exact ih.2 g28 x1_28 x2_29 x3_28 x3_28  h.1 (by have := h.2; omega)
        unfold bX8_rings_6 at h
        refine v_iload_n o 3 dX8_rings_6 rfl ?_
        refine v_aload_n o 0 dX8_rings_7 rfl ?_
        refine v_gfI o lkX8_55 (by decide) (wfModel_o ha) dX8_rings_8 ?_
        refine v_icmp_ge o (tgt := 67) dX8_rings_11 (by decide) (fun c11 => ?_) (fun c11 => ?_)
        · replace h := h.1 c11
          refine v_iload_n o 2 dX8_rings_67 rfl ?_
          exact v_iret o rfl hr dX8_rings_68 h
        · replace h := h.2 c11
          refine v_iload_n o 2 dX8_rings_14 rfl ?_
          refine v_iload_n o 1 dX8_rings_15 rfl ?_
          refine v_iload_n o 3 dX8_rings_16 rfl ?_
          refine v_ishr o dX8_rings_17 ?_
          refine v_iconst o (v := 1) dX8_rings_18 (by decide) ?_
          refine v_iand o dX8_rings_19 ?_
          refine v_if_ne o (tgt := 27) dX8_rings_20 (by decide) (fun c20 => ?_) (fun c20 => ?_)
          · replace h := h.1 c20
            refine v_iconst o (v := 0) dX8_rings_27 (by decide) ?_
            refine v_sub [0, 1, 2, 3] (lv2 := [(0, .ref a), (1, .int x1), (2, .int x2), (3, .int x3)]) rfl ?_
            exact J28 x1 x2 x3 x2 0 g  h
          · replace h := h.2 c20
            refine v_iconst o (v := 1) dX8_rings_23 (by decide) ?_
            refine v_goto o (tgt := 28) dX8_rings_24 (by decide) ?_
            refine v_sub [0, 1, 2, 3] (lv2 := [(0, .ref a), (1, .int x1), (2, .int x2), (3, .int x3)]) rfl ?_
            exact J28 x1 x2 x3 x2 1 g  h
      · intro g x1 x2 x3 x4 hI hm
        have h := h33 g x1 x2 x3 x4 hI
        clear hI
        unfold bX8_rings_33 at h
        refine v_iload_n o 1 dX8_rings_33 rfl ?_
        refine v_iload o 4 dX8_rings_34 rfl ?_
        refine v_ishr o dX8_rings_36 ?_
        refine v_iconst o (v := 1) dX8_rings_37 (by decide) ?_
        refine v_iand o dX8_rings_38 ?_
        refine v_if_ne o (tgt := 61) dX8_rings_39 (by decide) (fun c39 => ?_) (fun c39 => ?_)
        · replace h := h.1 c39
          obtain ⟨x3_61, ex3_61⟩ : ∃ y : Int32, y = x3 + 1 := ⟨_, rfl⟩
          replace h := h x3_61 ex3_61
          refine v_iinc o (v := x3_61) (lv' := [(3, .int x3_61), (0, .ref a), (1, .int x1), (2, .int x2), (4, .int x4)]) 3 dX8_rings_61 rfl (by rw [ex3_61]; rfl) (by decide) rfl ?_
          refine v_goto o (tgt := 6) dX8_rings_64 (by decide) ?_
          refine v_sub [1, 2, 3, 0] (lv2 := [(0, .ref a), (1, .int x1), (2, .int x2), (3, .int x3_61)]) rfl ?_
          exact ih.1 g x1 x2 x3_61  h.1 (by have := h.2; omega)
        · replace h := h.2 c39
          refine v_iload_n o 1 dX8_rings_42 rfl ?_
          refine v_iconst o (v := 1) dX8_rings_43 (by decide) ?_
          refine v_iload o 4 dX8_rings_44 rfl ?_
          refine v_ishl o dX8_rings_46 ?_
          refine v_ior o dX8_rings_47 ?_
          refine v_topi (fun x1_48 ex1_48 => ?_)
          replace h := h x1_48 ex1_48
          refine v_istore_n o (lv' := [(1, .int x1_48), (0, .ref a), (2, .int x2), (3, .int x3), (4, .int x4)]) dX8_rings_48 rfl (by decide) rfl ?_
          refine v_aload_n o 1 dX8_rings_49 rfl ?_
          refine v_gfR o lkX8_25 (by decide) (wfModel_o ha) (wfModel_r11 ha) dX8_rings_50 ?_
          refine v_iload o 4 dX8_rings_53 rfl ?_
          refine v_iald o (wfModel_t11 ha) (wfModel_n11 ha) h.1 dX8_rings_55 ?_
          replace h := h.2
          refine v_topi (fun x4_56 ex4_56 => ?_)
          replace h := h x4_56 ex4_56
          refine v_istore o (lv' := [(4, .int x4_56), (1, .int x1_48), (0, .ref a), (2, .int x2), (3, .int x3)]) dX8_rings_56 (by decide) rfl ?_
          refine v_goto o (tgt := 33) dX8_rings_58 (by decide) ?_
          refine v_sub [2, 1, 3, 4, 0] (lv2 := [(0, .ref a), (1, .int x1_48), (2, .int x2), (3, .int x3), (4, .int x4_56)]) rfl ?_
          exact ih.2 g x1_48 x2 x3 x4_56  h.1 (by have := h.2; omega)
  unfold vX8_rings at h
  refine v_iconst o (v := 0) dX8_rings_0 (by decide) ?_
  refine v_istore_n o (lv' := [(1, .int 0), (0, .ref a)]) dX8_rings_1 rfl (by decide) rfl ?_
  refine v_iconst o (v := 0) dX8_rings_2 (by decide) ?_
  refine v_istore_n o (lv' := [(2, .int 0), (1, .int 0), (0, .ref a)]) dX8_rings_3 rfl (by decide) rfl ?_
  refine v_iconst o (v := 0) dX8_rings_4 (by decide) ?_
  refine v_istore_n o (lv' := [(3, .int 0), (2, .int 0), (1, .int 0), (0, .ref a)]) dX8_rings_5 rfl (by decide) rfl ?_
  refine v_sub [3, 2, 1, 0] (lv2 := [(0, .ref a), (1, .int 0), (2, .int 0), (3, .int 0)]) rfl ?_
  exact (main (μ6 f 0 0 0 + 1)).1 f 0 0 0  h (Nat.lt_succ_self _)
def kX8_rings (P : Sk) (f : St) (a : Nat) (K : Int32 → St → Prop) : Prop := False
theorem metX8_rings (l : Launch) (G : Gl) (P : Sk) (f : St) (sz : Nat) (a : Nat) (ha : IsModel P a) (K : Int32 → St → Prop) (h : kX8_rings P f a K) : Met l yX8_rings (wU yX8_rings cX8_rings 5 (some .int)) rmX8_rings (PcW G P f sz [.ref a]) (QcI G P sz K) 0 0 (frA P sz) := sorry

def jX8_rightLessLeft_30 (P : Sk) (a : Nat) (L4 : St → Int32 → Int32 → Prop) (K : Int32 → St → Prop) (x1 : Int32) (x2 : Int32) (y0 : Int32) (y1 : Int32) (f : St) : Prop :=
  ∀ x1_31 : Int32, x1_31 = y0 + y1 → ∀ x2_32 : Int32, x2_32 = x2 + 1 → L4 f x1_31 x2_32
def bX8_rightLessLeft_4 (P : Sk) (a : Nat) (L4 : St → Int32 → Int32 → Prop) (K : Int32 → St → Prop) (f : St) (x1 : Int32) (x2 : Int32) : Prop :=
  (f a 9 ≤ x2 → K x1 f) ∧ (¬ f a 9 ≤ x2 → vp_in x2 50 ∧ ((¬ (f (a + 5) x2.toNatClampNeg) - (f (a + 5) x2.toNatClampNeg) / 2 * 2 = 1 → jX8_rightLessLeft_30 P a L4 K x1 x2 x1 (-1) f) ∧ ((f (a + 5) x2.toNatClampNeg) - (f (a + 5) x2.toNatClampNeg) / 2 * 2 = 1 → jX8_rightLessLeft_30 P a L4 K x1 x2 x1 1 f)))
def vX8_rightLessLeft (P : Sk) (f : St) (a : Nat) (L4 : St → Int32 → Int32 → Prop) (K : Int32 → St → Prop) : Prop :=
  L4 f 0 0
set_option maxRecDepth 20000 in
set_option maxHeartbeats 4000000 in
theorem mX8_rightLessLeft (l : Launch) (G : Gl) (P : Sk) (f : St) (sz : Nat) (a : Nat) (ha : IsModel P a) (K : Int32 → St → Prop) (I4 : St → Int32 → Int32 → Prop) (μ4 : St → Int32 → Int32 → Nat) 
  (h : vX8_rightLessLeft P f a I4 K)
  (h4 : ∀ (g : St) (x1 : Int32) (x2 : Int32) , I4 g x1 x2 → bX8_rightLessLeft_4 P a (fun g' z0 z1 => I4 g' z0 z1 ∧ μ4 g' z0 z1 < μ4 g x1 x2) K g x1 x2) :
  Met l yX8_rightLessLeft (wU yX8_rightLessLeft cX8_rightLessLeft 3 (some .int)) rmX8_rightLessLeft (PcW G P f sz [.ref a]) (QcI G P sz K) 0 0 (frA P sz) := by
  refine v_met (own := RX8) [.ref a] (by decide +kernel) rfl (Nat.le_of_ble_eq_true rfl) (fun p e s m args below meth c hsz o hr hnm => ?_)
  refine v_lv (lv2 := [(0, .ref a)]) rfl ?_
  have main : ∀ n : Nat, (∀ (g : St) (x1 : Int32) (x2 : Int32) , I4 g x1 x2 → μ4 g x1 x2 < n → V p l e rmX8_rightLessLeft s m args below meth c 3 G (frA P sz) (MQ below (QcI G P sz K) args s 0 0 (frA P sz)) 0 0 P [(0, .ref a), (1, .int x1), (2, .int x2)] [] 4 g) := by
    intro n
    induction n with
    | zero => exact fun g x1 x2 hI hm => absurd hm (Nat.not_lt_zero _)
    | succ n ih =>
      intro g x1 x2 hI hm
      have h := h4 g x1 x2 hI
      clear hI
      have J30 : ∀ (x1_30 : Int32) (x2_30 : Int32) (y0_30 : Int32) (y1_30 : Int32) (g30 : St), jX8_rightLessLeft_30 P a (fun g' z0 z1 => I4 g' z0 z1 ∧ μ4 g' z0 z1 < μ4 g x1 x2) K x1_30 x2_30 y0_30 y1_30 g30 → V p l e rmX8_rightLessLeft s m args below meth c 3 G (frA P sz) (MQ below (QcI G P sz K) args s 0 0 (frA P sz)) 0 0 P [(0, .ref a), (1, .int x1_30), (2, .int x2_30)] [.int y1_30, .int y0_30] 30 g30 := by
        intro x1_30 x2_30 y0_30 y1_30 g30  h
        unfold jX8_rightLessLeft_30 at h
        refine v_iadd o dX8_rightLessLeft_30 ?_
        refine v_topi (fun x1_31 ex1_31 => ?_)
        replace h := h x1_31 ex1_31
        refine v_istore_n o (lv' := [(1, .int x1_31), (0, .ref a), (2, .int x2_30)]) dX8_rightLessLeft_31 rfl (by decide) rfl ?_
        obtain ⟨x2_32, ex2_32⟩ : ∃ y : Int32, y = x2_30 + 1 := ⟨_, rfl⟩
        replace h := h x2_32 ex2_32
        refine v_iinc o (v := x2_32) (lv' := [(2, .int x2_32), (1, .int x1_31), (0, .ref a)]) 2 dX8_rightLessLeft_32 rfl (by rw [ex2_32]; rfl) (by decide) rfl ?_
        refine v_goto o (tgt := 4) dX8_rightLessLeft_35 (by decide) ?_
        refine v_sub [2, 1, 0] (lv2 := [(0, .ref a), (1, .int x1_31), (2, .int x2_32)]) rfl ?_
        exact ih g30 x1_31 x2_32  h.1 (by have := h.2; omega)
      unfold bX8_rightLessLeft_4 at h
      refine v_iload_n o 2 dX8_rightLessLeft_4 rfl ?_
      refine v_aload_n o 0 dX8_rightLessLeft_5 rfl ?_
      refine v_gfI o lkX8_58 (by decide) (wfModel_o ha) dX8_rightLessLeft_6 ?_
      refine v_icmp_ge o (tgt := 38) dX8_rightLessLeft_9 (by decide) (fun c9 => ?_) (fun c9 => ?_)
      · replace h := h.1 c9
        refine v_iload_n o 1 dX8_rightLessLeft_38 rfl ?_
        exact v_iret o rfl hr dX8_rightLessLeft_39 h
      · replace h := h.2 c9
        refine v_iload_n o 1 dX8_rightLessLeft_12 rfl ?_
        refine v_aload_n o 0 dX8_rightLessLeft_13 rfl ?_
        refine v_gfR o lkX8_22 (by decide) (wfModel_o ha) (wfModel_r8 ha) dX8_rightLessLeft_14 ?_
        refine v_iload_n o 2 dX8_rightLessLeft_17 rfl ?_
        refine v_iald o (wfModel_t8 ha) (wfModel_n8 ha) h.1 dX8_rightLessLeft_18 ?_
        replace h := h.2
        refine v_iconst o (v := 2) dX8_rightLessLeft_19 (by decide) ?_
        refine v_irem o dX8_rightLessLeft_20 (by decide) ?_
        refine v_iconst o (v := 1) dX8_rightLessLeft_21 (by decide) ?_
        refine v_icmp_ne o (tgt := 29) dX8_rightLessLeft_22 (by decide) (fun c22 => ?_) (fun c22 => ?_)
        · replace h := h.1 c22
          refine v_iconst o (v := (-1)) dX8_rightLessLeft_29 (by decide) ?_
          refine v_sub [0, 1, 2] (lv2 := [(0, .ref a), (1, .int x1), (2, .int x2)]) rfl ?_
          exact J30 x1 x2 x1 (-1) g  h
        · replace h := h.2 c22
          refine v_iconst o (v := 1) dX8_rightLessLeft_25 (by decide) ?_
          refine v_goto o (tgt := 30) dX8_rightLessLeft_26 (by decide) ?_
          refine v_sub [0, 1, 2] (lv2 := [(0, .ref a), (1, .int x1), (2, .int x2)]) rfl ?_
          exact J30 x1 x2 x1 1 g  h
  unfold vX8_rightLessLeft at h
  refine v_iconst o (v := 0) dX8_rightLessLeft_0 (by decide) ?_
  refine v_istore_n o (lv' := [(1, .int 0), (0, .ref a)]) dX8_rightLessLeft_1 rfl (by decide) rfl ?_
  refine v_iconst o (v := 0) dX8_rightLessLeft_2 (by decide) ?_
  refine v_istore_n o (lv' := [(2, .int 0), (1, .int 0), (0, .ref a)]) dX8_rightLessLeft_3 rfl (by decide) rfl ?_
  refine v_sub [2, 1, 0] (lv2 := [(0, .ref a), (1, .int 0), (2, .int 0)]) rfl ?_
  exact (main (μ4 f 0 0 + 1)) f 0 0  h (Nat.lt_succ_self _)
def kX8_rightLessLeft (P : Sk) (f : St) (a : Nat) (K : Int32 → St → Prop) : Prop := False
theorem metX8_rightLessLeft (l : Launch) (G : Gl) (P : Sk) (f : St) (sz : Nat) (a : Nat) (ha : IsModel P a) (K : Int32 → St → Prop) (h : kX8_rightLessLeft P f a K) : Met l yX8_rightLessLeft (wU yX8_rightLessLeft cX8_rightLessLeft 3 (some .int)) rmX8_rightLessLeft (PcW G P f sz [.ref a]) (QcI G P sz K) 0 0 (frA P sz) := sorry

def jX8_mostHidden_32 (P : Sk) (a : Nat) (L4 : St → Int32 → Int32 → Prop) (K : Int32 → St → Prop) (x1 : Int32) (x2 : Int32) (y0 : Int32) (f : St) : Prop :=
  ∀ x2_33 : Int32, x2_33 = x2 + 1 → L4 f y0 x2_33
def bX8_mostHidden_4 (P : Sk) (a : Nat) (L4 : St → Int32 → Int32 → Prop) (K : Int32 → St → Prop) (f : St) (x1 : Int32) (x2 : Int32) : Prop :=
  (f a 10 ≤ x2 → K x1 f) ∧ (¬ f a 10 ≤ x2 → vp_in x2 7 ∧ (vp_in x1 7 ∧ ((f (a + 7) x2.toNatClampNeg ≤ f (a + 7) x1.toNatClampNeg → jX8_mostHidden_32 P a L4 K x1 x2 x1 f) ∧ (¬ f (a + 7) x2.toNatClampNeg ≤ f (a + 7) x1.toNatClampNeg → jX8_mostHidden_32 P a L4 K x1 x2 x2 f))))
def vX8_mostHidden (P : Sk) (f : St) (a : Nat) (L4 : St → Int32 → Int32 → Prop) (K : Int32 → St → Prop) : Prop :=
  L4 f 0 1
set_option maxRecDepth 20000 in
set_option maxHeartbeats 4000000 in
theorem mX8_mostHidden (l : Launch) (G : Gl) (P : Sk) (f : St) (sz : Nat) (a : Nat) (ha : IsModel P a) (K : Int32 → St → Prop) (I4 : St → Int32 → Int32 → Prop) (μ4 : St → Int32 → Int32 → Nat) 
  (h : vX8_mostHidden P f a I4 K)
  (h4 : ∀ (g : St) (x1 : Int32) (x2 : Int32) , I4 g x1 x2 → bX8_mostHidden_4 P a (fun g' z0 z1 => I4 g' z0 z1 ∧ μ4 g' z0 z1 < μ4 g x1 x2) K g x1 x2) :
  Met l yX8_mostHidden (wU yX8_mostHidden cX8_mostHidden 3 (some .int)) rmX8_mostHidden (PcW G P f sz [.ref a]) (QcI G P sz K) 0 0 (frA P sz) := by
  refine v_met (own := RX8) [.ref a] (by decide +kernel) rfl (Nat.le_of_ble_eq_true rfl) (fun p e s m args below meth c hsz o hr hnm => ?_)
  refine v_lv (lv2 := [(0, .ref a)]) rfl ?_
  have main : ∀ n : Nat, (∀ (g : St) (x1 : Int32) (x2 : Int32) , I4 g x1 x2 → μ4 g x1 x2 < n → V p l e rmX8_mostHidden s m args below meth c 3 G (frA P sz) (MQ below (QcI G P sz K) args s 0 0 (frA P sz)) 0 0 P [(0, .ref a), (1, .int x1), (2, .int x2)] [] 4 g) := by
    intro n
    induction n with
    | zero => exact fun g x1 x2 hI hm => absurd hm (Nat.not_lt_zero _)
    | succ n ih =>
      intro g x1 x2 hI hm
      have h := h4 g x1 x2 hI
      clear hI
      have J32 : ∀ (x1_32 : Int32) (x2_32 : Int32) (y0_32 : Int32) (g32 : St), jX8_mostHidden_32 P a (fun g' z0 z1 => I4 g' z0 z1 ∧ μ4 g' z0 z1 < μ4 g x1 x2) K x1_32 x2_32 y0_32 g32 → V p l e rmX8_mostHidden s m args below meth c 3 G (frA P sz) (MQ below (QcI G P sz K) args s 0 0 (frA P sz)) 0 0 P [(0, .ref a), (1, .int x1_32), (2, .int x2_32)] [.int y0_32] 32 g32 := by
        intro x1_32 x2_32 y0_32 g32  h
        unfold jX8_mostHidden_32 at h
        refine v_istore_n o (lv' := [(1, .int y0_32), (0, .ref a), (2, .int x2_32)]) dX8_mostHidden_32 rfl (by decide) rfl ?_
        obtain ⟨x2_33, ex2_33⟩ : ∃ y : Int32, y = x2_32 + 1 := ⟨_, rfl⟩
        replace h := h x2_33 ex2_33
        refine v_iinc o (v := x2_33) (lv' := [(2, .int x2_33), (1, .int y0_32), (0, .ref a)]) 2 dX8_mostHidden_33 rfl (by rw [ex2_33]; rfl) (by decide) rfl ?_
        refine v_goto o (tgt := 4) dX8_mostHidden_36 (by decide) ?_
        refine v_sub [2, 1, 0] (lv2 := [(0, .ref a), (1, .int y0_32), (2, .int x2_33)]) rfl ?_
        exact ih g32 y0_32 x2_33  h.1 (by have := h.2; omega)
      unfold bX8_mostHidden_4 at h
      refine v_iload_n o 2 dX8_mostHidden_4 rfl ?_
      refine v_aload_n o 0 dX8_mostHidden_5 rfl ?_
      refine v_gfI o lkX8_55 (by decide) (wfModel_o ha) dX8_mostHidden_6 ?_
      refine v_icmp_ge o (tgt := 39) dX8_mostHidden_9 (by decide) (fun c9 => ?_) (fun c9 => ?_)
      · replace h := h.1 c9
        refine v_iload_n o 1 dX8_mostHidden_39 rfl ?_
        exact v_iret o rfl hr dX8_mostHidden_40 h
      · replace h := h.2 c9
        refine v_aload_n o 0 dX8_mostHidden_12 rfl ?_
        refine v_gfR o lkX8_28 (by decide) (wfModel_o ha) (wfModel_r12 ha) dX8_mostHidden_13 ?_
        refine v_iload_n o 2 dX8_mostHidden_16 rfl ?_
        refine v_iald o (wfModel_t12 ha) (wfModel_n12 ha) h.1 dX8_mostHidden_17 ?_
        replace h := h.2
        refine v_aload_n o 0 dX8_mostHidden_18 rfl ?_
        refine v_gfR o lkX8_28 (by decide) (wfModel_o ha) (wfModel_r12 ha) dX8_mostHidden_19 ?_
        refine v_iload_n o 1 dX8_mostHidden_22 rfl ?_
        refine v_iald o (wfModel_t12 ha) (wfModel_n12 ha) h.1 dX8_mostHidden_23 ?_
        replace h := h.2
        refine v_icmp_le o (tgt := 31) dX8_mostHidden_24 (by decide) (fun c24 => ?_) (fun c24 => ?_)
        · replace h := h.1 c24
          refine v_iload_n o 1 dX8_mostHidden_31 rfl ?_
          refine v_sub [0, 1, 2] (lv2 := [(0, .ref a), (1, .int x1), (2, .int x2)]) rfl ?_
          exact J32 x1 x2 x1 g  h
        · replace h := h.2 c24
          refine v_iload_n o 2 dX8_mostHidden_27 rfl ?_
          refine v_goto o (tgt := 32) dX8_mostHidden_28 (by decide) ?_
          refine v_sub [0, 1, 2] (lv2 := [(0, .ref a), (1, .int x1), (2, .int x2)]) rfl ?_
          exact J32 x1 x2 x2 g  h
  unfold vX8_mostHidden at h
  refine v_iconst o (v := 0) dX8_mostHidden_0 (by decide) ?_
  refine v_istore_n o (lv' := [(1, .int 0), (0, .ref a)]) dX8_mostHidden_1 rfl (by decide) rfl ?_
  refine v_iconst o (v := 1) dX8_mostHidden_2 (by decide) ?_
  refine v_istore_n o (lv' := [(2, .int 1), (1, .int 0), (0, .ref a)]) dX8_mostHidden_3 rfl (by decide) rfl ?_
  refine v_sub [2, 1, 0] (lv2 := [(0, .ref a), (1, .int 0), (2, .int 1)]) rfl ?_
  exact (main (μ4 f 0 1 + 1)) f 0 1  h (Nat.lt_succ_self _)
def kX8_mostHidden (P : Sk) (f : St) (a : Nat) (K : Int32 → St → Prop) : Prop := False
theorem metX8_mostHidden (l : Launch) (G : Gl) (P : Sk) (f : St) (sz : Nat) (a : Nat) (ha : IsModel P a) (K : Int32 → St → Prop) (h : kX8_mostHidden P f a K) : Met l yX8_mostHidden (wU yX8_mostHidden cX8_mostHidden 3 (some .int)) rmX8_mostHidden (PcW G P f sz [.ref a]) (QcI G P sz K) 0 0 (frA P sz) := sorry

def vX8_areAlike (P : Sk) (f : St) (a : Nat) (p1 : Int32) (p2 : Int32) (K : Int32 → St → Prop) : Prop :=
  kX8_takes P f a p1 (fun g2 => kX8_loosens P g2 a (fun g6 => kX8_keepsOther P g6 a (fun g10 => kX8_takes P g10 a p2 (fun g15 => kX8_loosens P g15 a (fun g19 => kX8_of P g19 a p1 0 (fun r25 g25 => kX8_of P g25 a p2 0 (fun r31 g31 => (¬ r25 = r31 → K 0 g31) ∧ (r25 = r31 → kX8_isLikeOther P g31 a (fun r38 g38 => (r38 = 0 → K 0 g38) ∧ (¬ r38 = 0 → K 1 g38))))))))))
set_option maxRecDepth 20000 in
set_option maxHeartbeats 4000000 in
theorem mX8_areAlike (l : Launch) (G : Gl) (P : Sk) (f : St) (sz : Nat) (a : Nat) (ha : IsModel P a) (p1 : Int32) (p2 : Int32) (K : Int32 → St → Prop) (h : vX8_areAlike P f a p1 p2 K)  :
  Met l yX8_areAlike (wU yX8_areAlike cX8_areAlike 3 (some .boolean)) rmX8_areAlike (PcW G P f sz [.ref a, .int p1, .int p2]) (QcI G P sz K) 0 0 (frA P sz) := by
  refine v_met (own := RX8) [.ref a, .int p1, .int p2] (by decide +kernel) rfl (Nat.le_of_ble_eq_true rfl) (fun p e s m args below meth c hsz o hr hnm => ?_)
  refine v_lv (lv2 := [(0, .ref a), (1, .int p1), (2, .int p2)]) rfl ?_
  unfold vX8_areAlike at h
  refine v_aload_n o 0 dX8_areAlike_0 rfl ?_
  refine v_iload_n o 1 dX8_areAlike_1 rfl ?_
  refine v_cVv o [.int p1] [] (fun sz => metX8_takes l G P f sz a ha p1 _ h) (cwX8_107 o.1.2.2.2.2 (by decide)) ⟨_, _, rfl⟩ (by decide) (wfModel_o ha) rfl (Nat.le_of_ble_eq_true rfl) ⟨Nat.zero_le _, Nat.zero_le _⟩ dX8_areAlike_2 rfl (fun g2 h => ?_)
  refine v_aload_n o 0 dX8_areAlike_5 rfl ?_
  refine v_cVv o [] [] (fun sz => metX8_loosens l G P g2 sz a ha _ h) (cwX8_101 o.1.2.2.2.2 (by decide)) ⟨_, _, rfl⟩ (by decide) (wfModel_o ha) rfl (Nat.le_of_ble_eq_true rfl) ⟨Nat.zero_le _, Nat.zero_le _⟩ dX8_areAlike_6 rfl (fun g6 h => ?_)
  refine v_aload_n o 0 dX8_areAlike_9 rfl ?_
  refine v_cVv o [] [] (fun sz => metX8_keepsOther l G P g6 sz a ha _ h) (cwX8_195 o.1.2.2.2.2 (by decide)) ⟨_, _, rfl⟩ (by decide) (wfModel_o ha) rfl (Nat.le_of_ble_eq_true rfl) ⟨Nat.zero_le _, Nat.zero_le _⟩ dX8_areAlike_10 rfl (fun g10 h => ?_)
  refine v_aload_n o 0 dX8_areAlike_13 rfl ?_
  refine v_iload_n o 2 dX8_areAlike_14 rfl ?_
  refine v_cVv o [.int p2] [] (fun sz => metX8_takes l G P g10 sz a ha p2 _ h) (cwX8_107 o.1.2.2.2.2 (by decide)) ⟨_, _, rfl⟩ (by decide) (wfModel_o ha) rfl (Nat.le_of_ble_eq_true rfl) ⟨Nat.zero_le _, Nat.zero_le _⟩ dX8_areAlike_15 rfl (fun g15 h => ?_)
  refine v_aload_n o 0 dX8_areAlike_18 rfl ?_
  refine v_cVv o [] [] (fun sz => metX8_loosens l G P g15 sz a ha _ h) (cwX8_101 o.1.2.2.2.2 (by decide)) ⟨_, _, rfl⟩ (by decide) (wfModel_o ha) rfl (Nat.le_of_ble_eq_true rfl) ⟨Nat.zero_le _, Nat.zero_le _⟩ dX8_areAlike_19 rfl (fun g19 h => ?_)
  refine v_aload_n o 0 dX8_areAlike_22 rfl ?_
  refine v_iload_n o 1 dX8_areAlike_23 rfl ?_
  refine v_iconst o (v := 0) dX8_areAlike_24 (by decide) ?_
  refine v_cVi o [.int p1, .int 0] [] (fun sz => metX8_of l G P g19 sz a ha p1 0 _ h) (cwX8_51 o.1.2.2.2.2 (by decide)) ⟨_, _, rfl⟩ (by decide) (wfModel_o ha) rfl (Nat.le_of_ble_eq_true rfl) ⟨Nat.zero_le _, Nat.zero_le _⟩ dX8_areAlike_25 rfl (fun r25 g25 h => ?_)
  refine v_aload_n o 0 dX8_areAlike_28 rfl ?_
  refine v_iload_n o 2 dX8_areAlike_29 rfl ?_
  refine v_iconst o (v := 0) dX8_areAlike_30 (by decide) ?_
  refine v_cVi o [.int p2, .int 0] [.int r25] (fun sz => metX8_of l G P g25 sz a ha p2 0 _ h) (cwX8_51 o.1.2.2.2.2 (by decide)) ⟨_, _, rfl⟩ (by decide) (wfModel_o ha) rfl (Nat.le_of_ble_eq_true rfl) ⟨Nat.zero_le _, Nat.zero_le _⟩ dX8_areAlike_31 rfl (fun r31 g31 h => ?_)
  refine v_icmp_ne o (tgt := 48) dX8_areAlike_34 (by decide) (fun c34 => ?_) (fun c34 => ?_)
  · replace h := h.1 c34
    refine v_iconst o (v := 0) dX8_areAlike_48 (by decide) ?_
    exact v_zret o rfl hr bz0.1 dX8_areAlike_49 h
  · replace h := h.2 c34
    refine v_aload_n o 0 dX8_areAlike_37 rfl ?_
    refine v_cVi o [] [] (fun sz => metX8_isLikeOther l G P g31 sz a ha _ h) (cwX8_198 o.1.2.2.2.2 (by decide)) ⟨_, _, rfl⟩ (by decide) (wfModel_o ha) rfl (Nat.le_of_ble_eq_true rfl) ⟨Nat.zero_le _, Nat.zero_le _⟩ dX8_areAlike_38 rfl (fun r38 g38 h => ?_)
    refine v_if_eq o (tgt := 48) dX8_areAlike_41 (by decide) (fun c41 => ?_) (fun c41 => ?_)
    · replace h := h.1 c41
      refine v_iconst o (v := 0) dX8_areAlike_48 (by decide) ?_
      exact v_zret o rfl hr bz0.1 dX8_areAlike_49 h
    · replace h := h.2 c41
      refine v_iconst o (v := 1) dX8_areAlike_44 (by decide) ?_
      refine v_goto o (tgt := 49) dX8_areAlike_45 (by decide) ?_
      exact v_zret o rfl hr bz1.1 dX8_areAlike_49 h
abbrev kX8_areAlike := @vX8_areAlike
abbrev metX8_areAlike := @mX8_areAlike

def jX8_firstAlike_24 (P : Sk) (a : Nat) (p1 : Int32) (L6 : St → Int32 → Int32 → Prop) (K : Int32 → St → Prop) (x2 : Int32) (x3 : Int32) (y0 : Int32) (f : St) : Prop :=
  ∀ x3_25 : Int32, x3_25 = x3 + (-1) → L6 f y0 x3_25
def bX8_firstAlike_6 (P : Sk) (a : Nat) (p1 : Int32) (L6 : St → Int32 → Int32 → Prop) (K : Int32 → St → Prop) (f : St) (x2 : Int32) (x3 : Int32) : Prop :=
  (x3 < 0 → K x2 f) ∧ (¬ x3 < 0 → kX8_areAlike P f a x3 p1 (fun r13 g13 => (r13 = 0 → jX8_firstAlike_24 P a p1 L6 K x2 x3 x2 g13) ∧ (¬ r13 = 0 → jX8_firstAlike_24 P a p1 L6 K x2 x3 x3 g13)))
def vX8_firstAlike (P : Sk) (f : St) (a : Nat) (p1 : Int32) (L6 : St → Int32 → Int32 → Prop) (K : Int32 → St → Prop) : Prop :=
  ∀ x3_5 : Int32, x3_5 = p1 - 1 → L6 f p1 x3_5
set_option maxRecDepth 20000 in
set_option maxHeartbeats 4000000 in
theorem mX8_firstAlike (l : Launch) (G : Gl) (P : Sk) (f : St) (sz : Nat) (a : Nat) (ha : IsModel P a) (p1 : Int32) (K : Int32 → St → Prop) (I6 : St → Int32 → Int32 → Prop) (μ6 : St → Int32 → Int32 → Nat) 
  (h : vX8_firstAlike P f a p1 I6 K)
  (h6 : ∀ (g : St) (x2 : Int32) (x3 : Int32) , I6 g x2 x3 → bX8_firstAlike_6 P a p1 (fun g' z0 z1 => I6 g' z0 z1 ∧ μ6 g' z0 z1 < μ6 g x2 x3) K g x2 x3) :
  Met l yX8_firstAlike (wU yX8_firstAlike cX8_firstAlike 4 (some .int)) rmX8_firstAlike (PcW G P f sz [.ref a, .int p1]) (QcI G P sz K) 0 0 (frA P sz) := by
  refine v_met (own := RX8) [.ref a, .int p1] (by decide +kernel) rfl (Nat.le_of_ble_eq_true rfl) (fun p e s m args below meth c hsz o hr hnm => ?_)
  refine v_lv (lv2 := [(0, .ref a), (1, .int p1)]) rfl ?_
  have main : ∀ n : Nat, (∀ (g : St) (x2 : Int32) (x3 : Int32) , I6 g x2 x3 → μ6 g x2 x3 < n → V p l e rmX8_firstAlike s m args below meth c 4 G (frA P sz) (MQ below (QcI G P sz K) args s 0 0 (frA P sz)) 0 0 P [(0, .ref a), (1, .int p1), (2, .int x2), (3, .int x3)] [] 6 g) := by
    intro n
    induction n with
    | zero => exact fun g x2 x3 hI hm => absurd hm (Nat.not_lt_zero _)
    | succ n ih =>
      intro g x2 x3 hI hm
      have h := h6 g x2 x3 hI
      clear hI
      have J24 : ∀ (x2_24 : Int32) (x3_24 : Int32) (y0_24 : Int32) (g24 : St), jX8_firstAlike_24 P a p1 (fun g' z0 z1 => I6 g' z0 z1 ∧ μ6 g' z0 z1 < μ6 g x2 x3) K x2_24 x3_24 y0_24 g24 → V p l e rmX8_firstAlike s m args below meth c 4 G (frA P sz) (MQ below (QcI G P sz K) args s 0 0 (frA P sz)) 0 0 P [(0, .ref a), (1, .int p1), (2, .int x2_24), (3, .int x3_24)] [.int y0_24] 24 g24 := by
        intro x2_24 x3_24 y0_24 g24  h
        unfold jX8_firstAlike_24 at h
        refine v_istore_n o (lv' := [(2, .int y0_24), (0, .ref a), (1, .int p1), (3, .int x3_24)]) dX8_firstAlike_24 rfl (by decide) rfl ?_
        obtain ⟨x3_25, ex3_25⟩ : ∃ y : Int32, y = x3_24 + (-1) := ⟨_, rfl⟩
        replace h := h x3_25 ex3_25
        refine v_iinc o (v := x3_25) (lv' := [(3, .int x3_25), (2, .int y0_24), (0, .ref a), (1, .int p1)]) 3 dX8_firstAlike_25 rfl (by rw [ex3_25]; rfl) (by decide) rfl ?_
        refine v_goto o (tgt := 6) dX8_firstAlike_28 (by decide) ?_
        refine v_sub [2, 3, 1, 0] (lv2 := [(0, .ref a), (1, .int p1), (2, .int y0_24), (3, .int x3_25)]) rfl ?_
        exact ih g24 y0_24 x3_25  h.1 (by have := h.2; omega)
      unfold bX8_firstAlike_6 at h
      refine v_iload_n o 3 dX8_firstAlike_6 rfl ?_
      refine v_if_lt o (tgt := 31) dX8_firstAlike_7 (by decide) (fun c7 => ?_) (fun c7 => ?_)
      · replace h := h.1 c7
        refine v_iload_n o 2 dX8_firstAlike_31 rfl ?_
        exact v_iret o rfl hr dX8_firstAlike_32 h
      · replace h := h.2 c7
        refine v_aload_n o 0 dX8_firstAlike_10 rfl ?_
        refine v_iload_n o 3 dX8_firstAlike_11 rfl ?_
        refine v_iload_n o 1 dX8_firstAlike_12 rfl ?_
        refine v_cVi o [.int x3, .int p1] [] (fun sz => metX8_areAlike l G P g sz a ha x3 p1 _ h) (cwX8_201 o.1.2.2.2.2 (by decide)) ⟨_, _, rfl⟩ (by decide) (wfModel_o ha) rfl (Nat.le_of_ble_eq_true rfl) ⟨Nat.zero_le _, Nat.zero_le _⟩ dX8_firstAlike_13 rfl (fun r13 g13 h => ?_)
        refine v_if_eq o (tgt := 23) dX8_firstAlike_16 (by decide) (fun c16 => ?_) (fun c16 => ?_)
        · replace h := h.1 c16
          refine v_iload_n o 2 dX8_firstAlike_23 rfl ?_
          refine v_sub [0, 1, 2, 3] (lv2 := [(0, .ref a), (1, .int p1), (2, .int x2), (3, .int x3)]) rfl ?_
          exact J24 x2 x3 x2 g13  h
        · replace h := h.2 c16
          refine v_iload_n o 3 dX8_firstAlike_19 rfl ?_
          refine v_goto o (tgt := 24) dX8_firstAlike_20 (by decide) ?_
          refine v_sub [0, 1, 2, 3] (lv2 := [(0, .ref a), (1, .int p1), (2, .int x2), (3, .int x3)]) rfl ?_
          exact J24 x2 x3 x3 g13  h
  unfold vX8_firstAlike at h
  refine v_iload_n o 1 dX8_firstAlike_0 rfl ?_
  refine v_istore_n o (lv' := [(2, .int p1), (0, .ref a), (1, .int p1)]) dX8_firstAlike_1 rfl (by decide) rfl ?_
  refine v_iload_n o 2 dX8_firstAlike_2 rfl ?_
  refine v_iconst o (v := 1) dX8_firstAlike_3 (by decide) ?_
  refine v_isub o dX8_firstAlike_4 ?_
  refine v_topi (fun x3_5 ex3_5 => ?_)
  replace h := h x3_5 ex3_5
  refine v_istore_n o (lv' := [(3, .int x3_5), (2, .int p1), (0, .ref a), (1, .int p1)]) dX8_firstAlike_5 rfl (by decide) rfl ?_
  refine v_sub [2, 3, 1, 0] (lv2 := [(0, .ref a), (1, .int p1), (2, .int p1), (3, .int x3_5)]) rfl ?_
  exact (main (μ6 f p1 x3_5 + 1)) f p1 x3_5  h (Nat.lt_succ_self _)
def kX8_firstAlike (P : Sk) (f : St) (a : Nat) (p1 : Int32) (K : Int32 → St → Prop) : Prop := False
theorem metX8_firstAlike (l : Launch) (G : Gl) (P : Sk) (f : St) (sz : Nat) (a : Nat) (ha : IsModel P a) (p1 : Int32) (K : Int32 → St → Prop) (h : kX8_firstAlike P f a p1 K) : Met l yX8_firstAlike (wU yX8_firstAlike cX8_firstAlike 4 (some .int)) rmX8_firstAlike (PcW G P f sz [.ref a, .int p1]) (QcI G P sz K) 0 0 (frA P sz) := sorry

def vX8_looseLength (P : Sk) (f : St) (a : Nat) (p1 : Int32) (K : Int32 → St → Prop) : Prop :=
  kX8_takes P f a p1 (fun g2 => kX8_loosens P g2 a (fun g6 => K (g6 a 9) g6))
set_option maxRecDepth 20000 in
set_option maxHeartbeats 4000000 in
theorem mX8_looseLength (l : Launch) (G : Gl) (P : Sk) (f : St) (sz : Nat) (a : Nat) (ha : IsModel P a) (p1 : Int32) (K : Int32 → St → Prop) (h : vX8_looseLength P f a p1 K)  :
  Met l yX8_looseLength (wU yX8_looseLength cX8_looseLength 2 (some .int)) rmX8_looseLength (PcW G P f sz [.ref a, .int p1]) (QcI G P sz K) 0 0 (frA P sz) := by
  refine v_met (own := RX8) [.ref a, .int p1] (by decide +kernel) rfl (Nat.le_of_ble_eq_true rfl) (fun p e s m args below meth c hsz o hr hnm => ?_)
  refine v_lv (lv2 := [(0, .ref a), (1, .int p1)]) rfl ?_
  unfold vX8_looseLength at h
  refine v_aload_n o 0 dX8_looseLength_0 rfl ?_
  refine v_iload_n o 1 dX8_looseLength_1 rfl ?_
  refine v_cVv o [.int p1] [] (fun sz => metX8_takes l G P f sz a ha p1 _ h) (cwX8_107 o.1.2.2.2.2 (by decide)) ⟨_, _, rfl⟩ (by decide) (wfModel_o ha) rfl (Nat.le_of_ble_eq_true rfl) ⟨Nat.zero_le _, Nat.zero_le _⟩ dX8_looseLength_2 rfl (fun g2 h => ?_)
  refine v_aload_n o 0 dX8_looseLength_5 rfl ?_
  refine v_cVv o [] [] (fun sz => metX8_loosens l G P g2 sz a ha _ h) (cwX8_101 o.1.2.2.2.2 (by decide)) ⟨_, _, rfl⟩ (by decide) (wfModel_o ha) rfl (Nat.le_of_ble_eq_true rfl) ⟨Nat.zero_le _, Nat.zero_le _⟩ dX8_looseLength_6 rfl (fun g6 h => ?_)
  refine v_aload_n o 0 dX8_looseLength_9 rfl ?_
  refine v_gfI o lkX8_58 (by decide) (wfModel_o ha) dX8_looseLength_10 ?_
  exact v_iret o rfl hr dX8_looseLength_13 h
abbrev kX8_looseLength := @vX8_looseLength
abbrev metX8_looseLength := @mX8_looseLength

def vX8_shortLength (P : Sk) (f : St) (a : Nat) (p1 : Int32) (K : Int32 → St → Prop) : Prop :=
  kX8_takes P f a p1 (fun g2 => kX8_shortens P g2 a (fun g6 => K (g6 a 9) g6))
set_option maxRecDepth 20000 in
set_option maxHeartbeats 4000000 in
theorem mX8_shortLength (l : Launch) (G : Gl) (P : Sk) (f : St) (sz : Nat) (a : Nat) (ha : IsModel P a) (p1 : Int32) (K : Int32 → St → Prop) (h : vX8_shortLength P f a p1 K)  :
  Met l yX8_shortLength (wU yX8_shortLength cX8_shortLength 2 (some .int)) rmX8_shortLength (PcW G P f sz [.ref a, .int p1]) (QcI G P sz K) 0 0 (frA P sz) := by
  refine v_met (own := RX8) [.ref a, .int p1] (by decide +kernel) rfl (Nat.le_of_ble_eq_true rfl) (fun p e s m args below meth c hsz o hr hnm => ?_)
  refine v_lv (lv2 := [(0, .ref a), (1, .int p1)]) rfl ?_
  unfold vX8_shortLength at h
  refine v_aload_n o 0 dX8_shortLength_0 rfl ?_
  refine v_iload_n o 1 dX8_shortLength_1 rfl ?_
  refine v_cVv o [.int p1] [] (fun sz => metX8_takes l G P f sz a ha p1 _ h) (cwX8_107 o.1.2.2.2.2 (by decide)) ⟨_, _, rfl⟩ (by decide) (wfModel_o ha) rfl (Nat.le_of_ble_eq_true rfl) ⟨Nat.zero_le _, Nat.zero_le _⟩ dX8_shortLength_2 rfl (fun g2 h => ?_)
  refine v_aload_n o 0 dX8_shortLength_5 rfl ?_
  refine v_cVv o [] [] (fun sz => metX8_shortens l G P g2 sz a ha _ h) (cwX8_205 o.1.2.2.2.2 (by decide)) ⟨_, _, rfl⟩ (by decide) (wfModel_o ha) rfl (Nat.le_of_ble_eq_true rfl) ⟨Nat.zero_le _, Nat.zero_le _⟩ dX8_shortLength_6 rfl (fun g6 h => ?_)
  refine v_aload_n o 0 dX8_shortLength_9 rfl ?_
  refine v_gfI o lkX8_58 (by decide) (wfModel_o ha) dX8_shortLength_10 ?_
  exact v_iret o rfl hr dX8_shortLength_13 h
abbrev kX8_shortLength := @vX8_shortLength
abbrev metX8_shortLength := @mX8_shortLength

def jX8_tellsLoaf_68 (P : Sk) (a : Nat) (p1 : Int32) (p2 : Int32) (K : Int32 → St → Prop) (f : St) : Prop :=
  kX8_of P f a p1 p2 (fun r71 g71 => K r71 g71)
def jX8_tellsLoaf_83 (P : Sk) (a : Nat) (p1 : Int32) (p2 : Int32) (K : Int32 → St → Prop) (f : St) : Prop :=
  kX8_rings P f a (fun r84 g84 => K r84 g84)
def jX8_tellsLoaf_88 (P : Sk) (a : Nat) (p1 : Int32) (p2 : Int32) (K : Int32 → St → Prop) (f : St) : Prop :=
  kX8_shortLength P f a p1 (fun r90 g90 => K r90 g90)
def vX8_tellsLoaf (P : Sk) (f : St) (a : Nat) (p1 : Int32) (p2 : Int32) (K : Int32 → St → Prop) : Prop :=
  kX8_takes P f a p1 (fun g2 => kX8_walks P g2 a (g2 a 9) (fun g10 => (p2 = 0 → jX8_tellsLoaf_68 P a p1 p2 K  g10) ∧ (¬ p2 = 0 → (p2 = 1 → jX8_tellsLoaf_68 P a p1 p2 K  g10) ∧ (¬ p2 = 1 → (p2 = 2 → kX8_rightLessLeft P g10 a (fun r78 g78 => K (100 + r78) g78)) ∧ (¬ p2 = 2 → (p2 = 3 → jX8_tellsLoaf_83 P a p1 p2 K  g10) ∧ (¬ p2 = 3 → (p2 = 4 → jX8_tellsLoaf_83 P a p1 p2 K  g10) ∧ (¬ p2 = 4 → (p2 = 5 → jX8_tellsLoaf_88 P a p1 p2 K  g10) ∧ (¬ p2 = 5 → (p2 = 6 → jX8_tellsLoaf_88 P a p1 p2 K  g10) ∧ (¬ p2 = 6 → (p2 = 7 → kX8_looseLength P g10 a p1 (fun r96 g96 => K r96 g96)) ∧ (¬ p2 = 7 → (p2 = 8 → kX8_rings P g10 a (fun r101 g101 => (¬ r101 = g101 a 10 → K 0 g101) ∧ (r101 = g101 a 10 → K 1 g101))) ∧ (¬ p2 = 8 → (p2 = 9 → kX8_mostHidden P g10 a (fun r118 g118 => K r118 g118)) ∧ (¬ p2 = 9 → kX8_firstAlike P g10 a p1 (fun r124 g124 => K r124 g124)))))))))))))
set_option maxRecDepth 20000 in
set_option maxHeartbeats 4000000 in
theorem mX8_tellsLoaf (l : Launch) (G : Gl) (P : Sk) (f : St) (sz : Nat) (a : Nat) (ha : IsModel P a) (p1 : Int32) (p2 : Int32) (K : Int32 → St → Prop) (h : vX8_tellsLoaf P f a p1 p2 K)  :
  Met l yX8_tellsLoaf (wU yX8_tellsLoaf cX8_tellsLoaf 3 (some .int)) rmX8_tellsLoaf (PcW G P f sz [.ref a, .int p1, .int p2]) (QcI G P sz K) 0 0 (frA P sz) := by
  refine v_met (own := RX8) [.ref a, .int p1, .int p2] (by decide +kernel) rfl (Nat.le_of_ble_eq_true rfl) (fun p e s m args below meth c hsz o hr hnm => ?_)
  refine v_lv (lv2 := [(0, .ref a), (1, .int p1), (2, .int p2)]) rfl ?_
  have J68 : ∀ (g68 : St), jX8_tellsLoaf_68 P a p1 p2 K  g68 → V p l e rmX8_tellsLoaf s m args below meth c 3 G (frA P sz) (MQ below (QcI G P sz K) args s 0 0 (frA P sz)) 0 0 P [(0, .ref a), (1, .int p1), (2, .int p2)] [] 68 g68 := by
    intro  g68  h
    unfold jX8_tellsLoaf_68 at h
    refine v_aload_n o 0 dX8_tellsLoaf_68 rfl ?_
    refine v_iload_n o 1 dX8_tellsLoaf_69 rfl ?_
    refine v_iload_n o 2 dX8_tellsLoaf_70 rfl ?_
    refine v_cVi o [.int p1, .int p2] [] (fun sz => metX8_of l G P g68 sz a ha p1 p2 _ h) (cwX8_51 o.1.2.2.2.2 (by decide)) ⟨_, _, rfl⟩ (by decide) (wfModel_o ha) rfl (Nat.le_of_ble_eq_true rfl) ⟨Nat.zero_le _, Nat.zero_le _⟩ dX8_tellsLoaf_71 rfl (fun r71 g71 h => ?_)
    exact v_iret o rfl hr dX8_tellsLoaf_74 h
  have J83 : ∀ (g83 : St), jX8_tellsLoaf_83 P a p1 p2 K  g83 → V p l e rmX8_tellsLoaf s m args below meth c 3 G (frA P sz) (MQ below (QcI G P sz K) args s 0 0 (frA P sz)) 0 0 P [(0, .ref a), (1, .int p1), (2, .int p2)] [] 83 g83 := by
    intro  g83  h
    unfold jX8_tellsLoaf_83 at h
    refine v_aload_n o 0 dX8_tellsLoaf_83 rfl ?_
    refine v_cVi o [] [] (fun sz => metX8_rings l G P g83 sz a ha _ h) (cwX8_211 o.1.2.2.2.2 (by decide)) ⟨_, _, rfl⟩ (by decide) (wfModel_o ha) rfl (Nat.le_of_ble_eq_true rfl) ⟨Nat.zero_le _, Nat.zero_le _⟩ dX8_tellsLoaf_84 rfl (fun r84 g84 h => ?_)
    exact v_iret o rfl hr dX8_tellsLoaf_87 h
  have J88 : ∀ (g88 : St), jX8_tellsLoaf_88 P a p1 p2 K  g88 → V p l e rmX8_tellsLoaf s m args below meth c 3 G (frA P sz) (MQ below (QcI G P sz K) args s 0 0 (frA P sz)) 0 0 P [(0, .ref a), (1, .int p1), (2, .int p2)] [] 88 g88 := by
    intro  g88  h
    unfold jX8_tellsLoaf_88 at h
    refine v_aload_n o 0 dX8_tellsLoaf_88 rfl ?_
    refine v_iload_n o 1 dX8_tellsLoaf_89 rfl ?_
    refine v_cVi o [.int p1] [] (fun sz => metX8_shortLength l G P g88 sz a ha p1 _ h) (cwX8_214 o.1.2.2.2.2 (by decide)) ⟨_, _, rfl⟩ (by decide) (wfModel_o ha) rfl (Nat.le_of_ble_eq_true rfl) ⟨Nat.zero_le _, Nat.zero_le _⟩ dX8_tellsLoaf_90 rfl (fun r90 g90 h => ?_)
    exact v_iret o rfl hr dX8_tellsLoaf_93 h
  unfold vX8_tellsLoaf at h
  refine v_aload_n o 0 dX8_tellsLoaf_0 rfl ?_
  refine v_iload_n o 1 dX8_tellsLoaf_1 rfl ?_
  refine v_cVv o [.int p1] [] (fun sz => metX8_takes l G P f sz a ha p1 _ h) (cwX8_107 o.1.2.2.2.2 (by decide)) ⟨_, _, rfl⟩ (by decide) (wfModel_o ha) rfl (Nat.le_of_ble_eq_true rfl) ⟨Nat.zero_le _, Nat.zero_le _⟩ dX8_tellsLoaf_2 rfl (fun g2 h => ?_)
  refine v_aload_n o 0 dX8_tellsLoaf_5 rfl ?_
  refine v_aload_n o 0 dX8_tellsLoaf_6 rfl ?_
  refine v_gfI o lkX8_58 (by decide) (wfModel_o ha) dX8_tellsLoaf_7 ?_
  refine v_cVv o [.int (g2 a 9)] [] (fun sz => metX8_walks l G P g2 sz a ha (g2 a 9) _ h) (cwX8_89 o.1.2.2.2.2 (by decide)) ⟨_, _, rfl⟩ (by decide) (wfModel_o ha) rfl (Nat.le_of_ble_eq_true rfl) ⟨Nat.zero_le _, Nat.zero_le _⟩ dX8_tellsLoaf_10 rfl (fun g10 h => ?_)
  refine v_iload_n o 2 dX8_tellsLoaf_13 rfl ?_
  by_cases c14_0 : p2 = 0
  · replace h := h.1 c14_0
    refine v_tableIn o (off := 54) (tgt := 68) dX8_tellsLoaf_14 (by rw [c14_0]; decide) (by rw [c14_0]; decide) (by rw [c14_0]; decide) (by decide) ?_
    refine v_sub [0, 1, 2] (lv2 := [(0, .ref a), (1, .int p1), (2, .int p2)]) rfl ?_
    exact J68  g10  h
  · replace h := h.2 c14_0
    by_cases c14_1 : p2 = 1
    · replace h := h.1 c14_1
      refine v_tableIn o (off := 54) (tgt := 68) dX8_tellsLoaf_14 (by rw [c14_1]; decide) (by rw [c14_1]; decide) (by rw [c14_1]; decide) (by decide) ?_
      refine v_sub [0, 1, 2] (lv2 := [(0, .ref a), (1, .int p1), (2, .int p2)]) rfl ?_
      exact J68  g10  h
    · replace h := h.2 c14_1
      by_cases c14_2 : p2 = 2
      · replace h := h.1 c14_2
        refine v_tableIn o (off := 61) (tgt := 75) dX8_tellsLoaf_14 (by rw [c14_2]; decide) (by rw [c14_2]; decide) (by rw [c14_2]; decide) (by decide) ?_
        refine v_bipush o (v := 100) dX8_tellsLoaf_75 (by decide) ?_
        refine v_aload_n o 0 dX8_tellsLoaf_77 rfl ?_
        refine v_cVi o [] [.int 100] (fun sz => metX8_rightLessLeft l G P g10 sz a ha _ h) (cwX8_208 o.1.2.2.2.2 (by decide)) ⟨_, _, rfl⟩ (by decide) (wfModel_o ha) rfl (Nat.le_of_ble_eq_true rfl) ⟨Nat.zero_le _, Nat.zero_le _⟩ dX8_tellsLoaf_78 rfl (fun r78 g78 h => ?_)
        refine v_iadd o dX8_tellsLoaf_81 ?_
        exact v_iret o rfl hr dX8_tellsLoaf_82 h
      · replace h := h.2 c14_2
        by_cases c14_3 : p2 = 3
        · replace h := h.1 c14_3
          refine v_tableIn o (off := 69) (tgt := 83) dX8_tellsLoaf_14 (by rw [c14_3]; decide) (by rw [c14_3]; decide) (by rw [c14_3]; decide) (by decide) ?_
          refine v_sub [0, 1, 2] (lv2 := [(0, .ref a), (1, .int p1), (2, .int p2)]) rfl ?_
          exact J83  g10  h
        · replace h := h.2 c14_3
          by_cases c14_4 : p2 = 4
          · replace h := h.1 c14_4
            refine v_tableIn o (off := 69) (tgt := 83) dX8_tellsLoaf_14 (by rw [c14_4]; decide) (by rw [c14_4]; decide) (by rw [c14_4]; decide) (by decide) ?_
            refine v_sub [0, 1, 2] (lv2 := [(0, .ref a), (1, .int p1), (2, .int p2)]) rfl ?_
            exact J83  g10  h
          · replace h := h.2 c14_4
            by_cases c14_5 : p2 = 5
            · replace h := h.1 c14_5
              refine v_tableIn o (off := 74) (tgt := 88) dX8_tellsLoaf_14 (by rw [c14_5]; decide) (by rw [c14_5]; decide) (by rw [c14_5]; decide) (by decide) ?_
              refine v_sub [0, 1, 2] (lv2 := [(0, .ref a), (1, .int p1), (2, .int p2)]) rfl ?_
              exact J88  g10  h
            · replace h := h.2 c14_5
              by_cases c14_6 : p2 = 6
              · replace h := h.1 c14_6
                refine v_tableIn o (off := 74) (tgt := 88) dX8_tellsLoaf_14 (by rw [c14_6]; decide) (by rw [c14_6]; decide) (by rw [c14_6]; decide) (by decide) ?_
                refine v_sub [0, 1, 2] (lv2 := [(0, .ref a), (1, .int p1), (2, .int p2)]) rfl ?_
                exact J88  g10  h
              · replace h := h.2 c14_6
                by_cases c14_7 : p2 = 7
                · replace h := h.1 c14_7
                  refine v_tableIn o (off := 80) (tgt := 94) dX8_tellsLoaf_14 (by rw [c14_7]; decide) (by rw [c14_7]; decide) (by rw [c14_7]; decide) (by decide) ?_
                  refine v_aload_n o 0 dX8_tellsLoaf_94 rfl ?_
                  refine v_iload_n o 1 dX8_tellsLoaf_95 rfl ?_
                  refine v_cVi o [.int p1] [] (fun sz => metX8_looseLength l G P g10 sz a ha p1 _ h) (cwX8_217 o.1.2.2.2.2 (by decide)) ⟨_, _, rfl⟩ (by decide) (wfModel_o ha) rfl (Nat.le_of_ble_eq_true rfl) ⟨Nat.zero_le _, Nat.zero_le _⟩ dX8_tellsLoaf_96 rfl (fun r96 g96 h => ?_)
                  exact v_iret o rfl hr dX8_tellsLoaf_99 h
                · replace h := h.2 c14_7
                  by_cases c14_8 : p2 = 8
                  · replace h := h.1 c14_8
                    refine v_tableIn o (off := 86) (tgt := 100) dX8_tellsLoaf_14 (by rw [c14_8]; decide) (by rw [c14_8]; decide) (by rw [c14_8]; decide) (by decide) ?_
                    refine v_aload_n o 0 dX8_tellsLoaf_100 rfl ?_
                    refine v_cVi o [] [] (fun sz => metX8_rings l G P g10 sz a ha _ h) (cwX8_211 o.1.2.2.2.2 (by decide)) ⟨_, _, rfl⟩ (by decide) (wfModel_o ha) rfl (Nat.le_of_ble_eq_true rfl) ⟨Nat.zero_le _, Nat.zero_le _⟩ dX8_tellsLoaf_101 rfl (fun r101 g101 h => ?_)
                    refine v_aload_n o 0 dX8_tellsLoaf_104 rfl ?_
                    refine v_gfI o lkX8_55 (by decide) (wfModel_o ha) dX8_tellsLoaf_105 ?_
                    refine v_icmp_ne o (tgt := 115) dX8_tellsLoaf_108 (by decide) (fun c108 => ?_) (fun c108 => ?_)
                    · replace h := h.1 c108
                      refine v_iconst o (v := 0) dX8_tellsLoaf_115 (by decide) ?_
                      exact v_iret o rfl hr dX8_tellsLoaf_116 h
                    · replace h := h.2 c108
                      refine v_iconst o (v := 1) dX8_tellsLoaf_111 (by decide) ?_
                      refine v_goto o (tgt := 116) dX8_tellsLoaf_112 (by decide) ?_
                      exact v_iret o rfl hr dX8_tellsLoaf_116 h
                  · replace h := h.2 c14_8
                    by_cases c14_9 : p2 = 9
                    · replace h := h.1 c14_9
                      refine v_tableIn o (off := 103) (tgt := 117) dX8_tellsLoaf_14 (by rw [c14_9]; decide) (by rw [c14_9]; decide) (by rw [c14_9]; decide) (by decide) ?_
                      refine v_aload_n o 0 dX8_tellsLoaf_117 rfl ?_
                      refine v_cVi o [] [] (fun sz => metX8_mostHidden l G P g10 sz a ha _ h) (cwX8_220 o.1.2.2.2.2 (by decide)) ⟨_, _, rfl⟩ (by decide) (wfModel_o ha) rfl (Nat.le_of_ble_eq_true rfl) ⟨Nat.zero_le _, Nat.zero_le _⟩ dX8_tellsLoaf_118 rfl (fun r118 g118 h => ?_)
                      exact v_iret o rfl hr dX8_tellsLoaf_121 h
                    · replace h := h.2 c14_9
                      refine v_tableOut o (tgt := 122) dX8_tellsLoaf_14 (by have q0 := lv_neT c14_0 (a := 0) (by decide); have q1 := lv_neT c14_1 (a := 1) (by decide); have q2 := lv_neT c14_2 (a := 2) (by decide); have q3 := lv_neT c14_3 (a := 3) (by decide); have q4 := lv_neT c14_4 (a := 4) (by decide); have q5 := lv_neT c14_5 (a := 5) (by decide); have q6 := lv_neT c14_6 (a := 6) (by decide); have q7 := lv_neT c14_7 (a := 7) (by decide); have q8 := lv_neT c14_8 (a := 8) (by decide); have q9 := lv_neT c14_9 (a := 9) (by decide); omega) (by decide) ?_
                      refine v_aload_n o 0 dX8_tellsLoaf_122 rfl ?_
                      refine v_iload_n o 1 dX8_tellsLoaf_123 rfl ?_
                      refine v_cVi o [.int p1] [] (fun sz => metX8_firstAlike l G P g10 sz a ha p1 _ h) (cwX8_223 o.1.2.2.2.2 (by decide)) ⟨_, _, rfl⟩ (by decide) (wfModel_o ha) rfl (Nat.le_of_ble_eq_true rfl) ⟨Nat.zero_le _, Nat.zero_le _⟩ dX8_tellsLoaf_124 rfl (fun r124 g124 h => ?_)
                      exact v_iret o rfl hr dX8_tellsLoaf_127 h
abbrev kX8_tellsLoaf := @vX8_tellsLoaf
abbrev metX8_tellsLoaf := @mX8_tellsLoaf

def vX8_loaf (P : Sk) (f : St) (a : Nat) (p1 : Int32) (p2 : Int32) (K : Int32 → St → Prop) : Prop :=
  ∀ g2 : St, g2 = setf f a 0 0 → kX8_isLoaf P g2 a p1 (fun r7 g7 => (¬ r7 = 0 → kX8_in P g7 p2 0 10 (fun r23 g23 => (r23 = 0 → kX8_fails P g23 a 2 (fun r40 g40 => K r40 g40)) ∧ (¬ r23 = 0 → kX8_tellsLoaf P g23 a p1 p2 (fun r32 g32 => K r32 g32)))) ∧ (r7 = 0 → kX8_fails P g7 a 1 (fun r15 g15 => K r15 g15)))
set_option maxRecDepth 20000 in
set_option maxHeartbeats 4000000 in
theorem mX8_loaf (l : Launch) (G : Gl) (P : Sk) (f : St) (sz : Nat) (a : Nat) (ha : IsModel P a) (p1 : Int32) (p2 : Int32) (K : Int32 → St → Prop) (h : vX8_loaf P f a p1 p2 K)  :
  Met l yX8_loaf (wU yX8_loaf cX8_loaf 3 (some .int)) rmX8_loaf (PcW G P f sz [.ref a, .int p1, .int p2]) (QcI G P sz K) 0 0 (frA P sz) := by
  refine v_met (own := RX8) [.ref a, .int p1, .int p2] (by decide +kernel) rfl (Nat.le_of_ble_eq_true rfl) (fun p e s m args below meth c hsz o hr hnm => ?_)
  refine v_lv (lv2 := [(0, .ref a), (1, .int p1), (2, .int p2)]) rfl ?_
  unfold vX8_loaf at h
  refine v_aload_n o 0 dX8_loaf_0 rfl ?_
  refine v_iconst o (v := 0) dX8_loaf_1 (by decide) ?_
  refine v_pf o lpX8_40 (wfModel_o ha) ⟨rfl, rfl⟩ dX8_loaf_2 ?_
  refine v_nmf (fun g2 eg2 => ?_)
  replace h := h g2 eg2
  refine v_aload_n o 0 dX8_loaf_5 rfl ?_
  refine v_iload_n o 1 dX8_loaf_6 rfl ?_
  refine v_cVi o [.int p1] [] (fun sz => metX8_isLoaf l G P g2 sz a ha p1 _ h) (cwX8_104 o.1.2.2.2.2 (by decide)) ⟨_, _, rfl⟩ (by decide) (wfModel_o ha) rfl (Nat.le_of_ble_eq_true rfl) ⟨Nat.zero_le _, Nat.zero_le _⟩ dX8_loaf_7 rfl (fun r7 g7 h => ?_)
  refine v_if_ne o (tgt := 19) dX8_loaf_10 (by decide) (fun c10 => ?_) (fun c10 => ?_)
  · replace h := h.1 c10
    refine v_iload_n o 2 dX8_loaf_19 rfl ?_
    refine v_iconst o (v := 0) dX8_loaf_20 (by decide) ?_
    refine v_bipush o (v := 10) dX8_loaf_21 (by decide) ?_
    refine v_cSi o [.int p2, .int 0, .int 10] [] (fun sz => metX8_in l G P g7 sz p2 0 10 _ h) (cwX8_44 o.1.2.2.2.2 (by decide)) rfl (Nat.le_of_ble_eq_true rfl) ⟨Nat.zero_le _, Nat.zero_le _⟩ dX8_loaf_23 rfl (fun r23 g23 h => ?_)
    refine v_if_eq o (tgt := 38) dX8_loaf_26 (by decide) (fun c26 => ?_) (fun c26 => ?_)
    · replace h := h.1 c26
      refine v_aload_n o 0 dX8_loaf_38 rfl ?_
      refine v_iconst o (v := 2) dX8_loaf_39 (by decide) ?_
      refine v_cVi o [.int 2] [] (fun sz => metX8_fails l G P g23 sz a ha 2 _ h) (cwX8_123 o.1.2.2.2.2 (by decide)) ⟨_, _, rfl⟩ (by decide) (wfModel_o ha) rfl (Nat.le_of_ble_eq_true rfl) ⟨Nat.zero_le _, Nat.zero_le _⟩ dX8_loaf_40 rfl (fun r40 g40 h => ?_)
      exact v_iret o rfl hr dX8_loaf_43 h
    · replace h := h.2 c26
      refine v_aload_n o 0 dX8_loaf_29 rfl ?_
      refine v_iload_n o 1 dX8_loaf_30 rfl ?_
      refine v_iload_n o 2 dX8_loaf_31 rfl ?_
      refine v_cVi o [.int p1, .int p2] [] (fun sz => metX8_tellsLoaf l G P g23 sz a ha p1 p2 _ h) (cwX8_226 o.1.2.2.2.2 (by decide)) ⟨_, _, rfl⟩ (by decide) (wfModel_o ha) rfl (Nat.le_of_ble_eq_true rfl) ⟨Nat.zero_le _, Nat.zero_le _⟩ dX8_loaf_32 rfl (fun r32 g32 h => ?_)
      refine v_goto o (tgt := 43) dX8_loaf_35 (by decide) ?_
      exact v_iret o rfl hr dX8_loaf_43 h
  · replace h := h.2 c10
    refine v_aload_n o 0 dX8_loaf_13 rfl ?_
    refine v_iconst o (v := 1) dX8_loaf_14 (by decide) ?_
    refine v_cVi o [.int 1] [] (fun sz => metX8_fails l G P g7 sz a ha 1 _ h) (cwX8_123 o.1.2.2.2.2 (by decide)) ⟨_, _, rfl⟩ (by decide) (wfModel_o ha) rfl (Nat.le_of_ble_eq_true rfl) ⟨Nat.zero_le _, Nat.zero_le _⟩ dX8_loaf_15 rfl (fun r15 g15 h => ?_)
    exact v_iret o rfl hr dX8_loaf_18 h
abbrev kX8_loaf := @vX8_loaf
abbrev metX8_loaf := @mX8_loaf

def vX8_tellsLoose (P : Sk) (f : St) (a : Nat) (p1 : Int32) (p2 : Int32) (K : Int32 → St → Prop) : Prop :=
  kX8_looseLength P f a p1 (fun r3 g3 => (r3 ≤ p2 → K (-1) g3) ∧ (¬ r3 ≤ p2 → vp_in p2 50 ∧ (K (g3 (a + 5) p2.toNatClampNeg) g3)))
set_option maxRecDepth 20000 in
set_option maxHeartbeats 4000000 in
theorem mX8_tellsLoose (l : Launch) (G : Gl) (P : Sk) (f : St) (sz : Nat) (a : Nat) (ha : IsModel P a) (p1 : Int32) (p2 : Int32) (K : Int32 → St → Prop) (h : vX8_tellsLoose P f a p1 p2 K)  :
  Met l yX8_tellsLoose (wU yX8_tellsLoose cX8_tellsLoose 3 (some .int)) rmX8_tellsLoose (PcW G P f sz [.ref a, .int p1, .int p2]) (QcI G P sz K) 0 0 (frA P sz) := by
  refine v_met (own := RX8) [.ref a, .int p1, .int p2] (by decide +kernel) rfl (Nat.le_of_ble_eq_true rfl) (fun p e s m args below meth c hsz o hr hnm => ?_)
  refine v_lv (lv2 := [(0, .ref a), (1, .int p1), (2, .int p2)]) rfl ?_
  unfold vX8_tellsLoose at h
  refine v_iload_n o 2 dX8_tellsLoose_0 rfl ?_
  refine v_aload_n o 0 dX8_tellsLoose_1 rfl ?_
  refine v_iload_n o 1 dX8_tellsLoose_2 rfl ?_
  refine v_cVi o [.int p1] [.int p2] (fun sz => metX8_looseLength l G P f sz a ha p1 _ h) (cwX8_217 o.1.2.2.2.2 (by decide)) ⟨_, _, rfl⟩ (by decide) (wfModel_o ha) rfl (Nat.le_of_ble_eq_true rfl) ⟨Nat.zero_le _, Nat.zero_le _⟩ dX8_tellsLoose_3 rfl (fun r3 g3 h => ?_)
  refine v_icmp_ge o (tgt := 18) dX8_tellsLoose_6 (by decide) (fun c6 => ?_) (fun c6 => ?_)
  · replace h := h.1 c6
    refine v_iconst o (v := (-1)) dX8_tellsLoose_18 (by decide) ?_
    exact v_iret o rfl hr dX8_tellsLoose_19 h
  · replace h := h.2 c6
    refine v_aload_n o 0 dX8_tellsLoose_9 rfl ?_
    refine v_gfR o lkX8_22 (by decide) (wfModel_o ha) (wfModel_r8 ha) dX8_tellsLoose_10 ?_
    refine v_iload_n o 2 dX8_tellsLoose_13 rfl ?_
    refine v_iald o (wfModel_t8 ha) (wfModel_n8 ha) h.1 dX8_tellsLoose_14 ?_
    replace h := h.2
    refine v_goto o (tgt := 19) dX8_tellsLoose_15 (by decide) ?_
    exact v_iret o rfl hr dX8_tellsLoose_19 h
abbrev kX8_tellsLoose := @vX8_tellsLoose
abbrev metX8_tellsLoose := @mX8_tellsLoose

def vX8_loose (P : Sk) (f : St) (a : Nat) (p1 : Int32) (p2 : Int32) (K : Int32 → St → Prop) : Prop :=
  ∀ g2 : St, g2 = setf f a 0 0 → kX8_isLoaf P g2 a p1 (fun r7 g7 => (¬ r7 = 0 → kX8_in P g7 p2 0 23 (fun r23 g23 => (r23 = 0 → kX8_fails P g23 a 2 (fun r40 g40 => K r40 g40)) ∧ (¬ r23 = 0 → kX8_tellsLoose P g23 a p1 p2 (fun r32 g32 => K r32 g32)))) ∧ (r7 = 0 → kX8_fails P g7 a 1 (fun r15 g15 => K r15 g15)))
set_option maxRecDepth 20000 in
set_option maxHeartbeats 4000000 in
theorem mX8_loose (l : Launch) (G : Gl) (P : Sk) (f : St) (sz : Nat) (a : Nat) (ha : IsModel P a) (p1 : Int32) (p2 : Int32) (K : Int32 → St → Prop) (h : vX8_loose P f a p1 p2 K)  :
  Met l yX8_loose (wU yX8_loose cX8_loose 3 (some .int)) rmX8_loose (PcW G P f sz [.ref a, .int p1, .int p2]) (QcI G P sz K) 0 0 (frA P sz) := by
  refine v_met (own := RX8) [.ref a, .int p1, .int p2] (by decide +kernel) rfl (Nat.le_of_ble_eq_true rfl) (fun p e s m args below meth c hsz o hr hnm => ?_)
  refine v_lv (lv2 := [(0, .ref a), (1, .int p1), (2, .int p2)]) rfl ?_
  unfold vX8_loose at h
  refine v_aload_n o 0 dX8_loose_0 rfl ?_
  refine v_iconst o (v := 0) dX8_loose_1 (by decide) ?_
  refine v_pf o lpX8_40 (wfModel_o ha) ⟨rfl, rfl⟩ dX8_loose_2 ?_
  refine v_nmf (fun g2 eg2 => ?_)
  replace h := h g2 eg2
  refine v_aload_n o 0 dX8_loose_5 rfl ?_
  refine v_iload_n o 1 dX8_loose_6 rfl ?_
  refine v_cVi o [.int p1] [] (fun sz => metX8_isLoaf l G P g2 sz a ha p1 _ h) (cwX8_104 o.1.2.2.2.2 (by decide)) ⟨_, _, rfl⟩ (by decide) (wfModel_o ha) rfl (Nat.le_of_ble_eq_true rfl) ⟨Nat.zero_le _, Nat.zero_le _⟩ dX8_loose_7 rfl (fun r7 g7 h => ?_)
  refine v_if_ne o (tgt := 19) dX8_loose_10 (by decide) (fun c10 => ?_) (fun c10 => ?_)
  · replace h := h.1 c10
    refine v_iload_n o 2 dX8_loose_19 rfl ?_
    refine v_iconst o (v := 0) dX8_loose_20 (by decide) ?_
    refine v_bipush o (v := 23) dX8_loose_21 (by decide) ?_
    refine v_cSi o [.int p2, .int 0, .int 23] [] (fun sz => metX8_in l G P g7 sz p2 0 23 _ h) (cwX8_44 o.1.2.2.2.2 (by decide)) rfl (Nat.le_of_ble_eq_true rfl) ⟨Nat.zero_le _, Nat.zero_le _⟩ dX8_loose_23 rfl (fun r23 g23 h => ?_)
    refine v_if_eq o (tgt := 38) dX8_loose_26 (by decide) (fun c26 => ?_) (fun c26 => ?_)
    · replace h := h.1 c26
      refine v_aload_n o 0 dX8_loose_38 rfl ?_
      refine v_iconst o (v := 2) dX8_loose_39 (by decide) ?_
      refine v_cVi o [.int 2] [] (fun sz => metX8_fails l G P g23 sz a ha 2 _ h) (cwX8_123 o.1.2.2.2.2 (by decide)) ⟨_, _, rfl⟩ (by decide) (wfModel_o ha) rfl (Nat.le_of_ble_eq_true rfl) ⟨Nat.zero_le _, Nat.zero_le _⟩ dX8_loose_40 rfl (fun r40 g40 h => ?_)
      exact v_iret o rfl hr dX8_loose_43 h
    · replace h := h.2 c26
      refine v_aload_n o 0 dX8_loose_29 rfl ?_
      refine v_iload_n o 1 dX8_loose_30 rfl ?_
      refine v_iload_n o 2 dX8_loose_31 rfl ?_
      refine v_cVi o [.int p1, .int p2] [] (fun sz => metX8_tellsLoose l G P g23 sz a ha p1 p2 _ h) (cwX8_229 o.1.2.2.2.2 (by decide)) ⟨_, _, rfl⟩ (by decide) (wfModel_o ha) rfl (Nat.le_of_ble_eq_true rfl) ⟨Nat.zero_le _, Nat.zero_le _⟩ dX8_loose_32 rfl (fun r32 g32 h => ?_)
      refine v_goto o (tgt := 43) dX8_loose_35 (by decide) ?_
      exact v_iret o rfl hr dX8_loose_43 h
  · replace h := h.2 c10
    refine v_aload_n o 0 dX8_loose_13 rfl ?_
    refine v_iconst o (v := 1) dX8_loose_14 (by decide) ?_
    refine v_cVi o [.int 1] [] (fun sz => metX8_fails l G P g7 sz a ha 1 _ h) (cwX8_123 o.1.2.2.2.2 (by decide)) ⟨_, _, rfl⟩ (by decide) (wfModel_o ha) rfl (Nat.le_of_ble_eq_true rfl) ⟨Nat.zero_le _, Nat.zero_le _⟩ dX8_loose_15 rfl (fun r15 g15 h => ?_)
    exact v_iret o rfl hr dX8_loose_18 h
abbrev kX8_loose := @vX8_loose
abbrev metX8_loose := @mX8_loose

def bX8_crossings_4 (P : Sk) (a : Nat) (L4 : St → Int32 → Int32 → Prop) (K : Int32 → St → Prop) (f : St) (x1 : Int32) (x2 : Int32) : Prop :=
  vp_in 0 160 ∧ ((f (a + 1) ((0 : Int32)).toNatClampNeg ≤ x2 → K x1 f) ∧ (¬ f (a + 1) ((0 : Int32)).toNatClampNeg ≤ x2 → kX8_of P f a x2 1 (fun r18 g18 => ∀ x1_22 : Int32, x1_22 = x1 + r18 → ∀ x2_23 : Int32, x2_23 = x2 + 1 → L4 g18 x1_22 x2_23)))
def vX8_crossings (P : Sk) (f : St) (a : Nat) (L4 : St → Int32 → Int32 → Prop) (K : Int32 → St → Prop) : Prop :=
  L4 f 0 0
set_option maxRecDepth 20000 in
set_option maxHeartbeats 4000000 in
theorem mX8_crossings (l : Launch) (G : Gl) (P : Sk) (f : St) (sz : Nat) (a : Nat) (ha : IsModel P a) (K : Int32 → St → Prop) (I4 : St → Int32 → Int32 → Prop) (μ4 : St → Int32 → Int32 → Nat) 
  (h : vX8_crossings P f a I4 K)
  (h4 : ∀ (g : St) (x1 : Int32) (x2 : Int32) , I4 g x1 x2 → bX8_crossings_4 P a (fun g' z0 z1 => I4 g' z0 z1 ∧ μ4 g' z0 z1 < μ4 g x1 x2) K g x1 x2) :
  Met l yX8_crossings (wU yX8_crossings cX8_crossings 3 (some .int)) rmX8_crossings (PcW G P f sz [.ref a]) (QcI G P sz K) 0 0 (frA P sz) := by
  refine v_met (own := RX8) [.ref a] (by decide +kernel) rfl (Nat.le_of_ble_eq_true rfl) (fun p e s m args below meth c hsz o hr hnm => ?_)
  refine v_lv (lv2 := [(0, .ref a)]) rfl ?_
  have main : ∀ n : Nat, (∀ (g : St) (x1 : Int32) (x2 : Int32) , I4 g x1 x2 → μ4 g x1 x2 < n → V p l e rmX8_crossings s m args below meth c 3 G (frA P sz) (MQ below (QcI G P sz K) args s 0 0 (frA P sz)) 0 0 P [(0, .ref a), (1, .int x1), (2, .int x2)] [] 4 g) := by
    intro n
    induction n with
    | zero => exact fun g x1 x2 hI hm => absurd hm (Nat.not_lt_zero _)
    | succ n ih =>
      intro g x1 x2 hI hm
      have h := h4 g x1 x2 hI
      clear hI
      unfold bX8_crossings_4 at h
      refine v_iload_n o 2 dX8_crossings_4 rfl ?_
      refine v_aload_n o 0 dX8_crossings_5 rfl ?_
      refine v_gfR o lkX8_7 (by decide) (wfModel_o ha) (wfModel_r1 ha) dX8_crossings_6 ?_
      refine v_iconst o (v := 0) dX8_crossings_9 (by decide) ?_
      refine v_iald o (wfModel_t1 ha) (wfModel_n1 ha) h.1 dX8_crossings_10 ?_
      replace h := h.2
      refine v_icmp_ge o (tgt := 29) dX8_crossings_11 (by decide) (fun c11 => ?_) (fun c11 => ?_)
      · replace h := h.1 c11
        refine v_iload_n o 1 dX8_crossings_29 rfl ?_
        exact v_iret o rfl hr dX8_crossings_30 h
      · replace h := h.2 c11
        refine v_iload_n o 1 dX8_crossings_14 rfl ?_
        refine v_aload_n o 0 dX8_crossings_15 rfl ?_
        refine v_iload_n o 2 dX8_crossings_16 rfl ?_
        refine v_iconst o (v := 1) dX8_crossings_17 (by decide) ?_
        refine v_cVi o [.int x2, .int 1] [.int x1] (fun sz => metX8_of l G P g sz a ha x2 1 _ h) (cwX8_51 o.1.2.2.2.2 (by decide)) ⟨_, _, rfl⟩ (by decide) (wfModel_o ha) rfl (Nat.le_of_ble_eq_true rfl) ⟨Nat.zero_le _, Nat.zero_le _⟩ dX8_crossings_18 rfl (fun r18 g18 h => ?_)
        refine v_iadd o dX8_crossings_21 ?_
        refine v_topi (fun x1_22 ex1_22 => ?_)
        replace h := h x1_22 ex1_22
        refine v_istore_n o (lv' := [(1, .int x1_22), (0, .ref a), (2, .int x2)]) dX8_crossings_22 rfl (by decide) rfl ?_
        obtain ⟨x2_23, ex2_23⟩ : ∃ y : Int32, y = x2 + 1 := ⟨_, rfl⟩
        replace h := h x2_23 ex2_23
        refine v_iinc o (v := x2_23) (lv' := [(2, .int x2_23), (1, .int x1_22), (0, .ref a)]) 2 dX8_crossings_23 rfl (by rw [ex2_23]; rfl) (by decide) rfl ?_
        refine v_goto o (tgt := 4) dX8_crossings_26 (by decide) ?_
        refine v_sub [2, 1, 0] (lv2 := [(0, .ref a), (1, .int x1_22), (2, .int x2_23)]) rfl ?_
        exact ih g18 x1_22 x2_23  h.1 (by have := h.2; omega)
  unfold vX8_crossings at h
  refine v_iconst o (v := 0) dX8_crossings_0 (by decide) ?_
  refine v_istore_n o (lv' := [(1, .int 0), (0, .ref a)]) dX8_crossings_1 rfl (by decide) rfl ?_
  refine v_iconst o (v := 0) dX8_crossings_2 (by decide) ?_
  refine v_istore_n o (lv' := [(2, .int 0), (1, .int 0), (0, .ref a)]) dX8_crossings_3 rfl (by decide) rfl ?_
  refine v_sub [2, 1, 0] (lv2 := [(0, .ref a), (1, .int 0), (2, .int 0)]) rfl ?_
  exact (main (μ4 f 0 0 + 1)) f 0 0  h (Nat.lt_succ_self _)
def kX8_crossings (P : Sk) (f : St) (a : Nat) (K : Int32 → St → Prop) : Prop := False
theorem metX8_crossings (l : Launch) (G : Gl) (P : Sk) (f : St) (sz : Nat) (a : Nat) (ha : IsModel P a) (K : Int32 → St → Prop) (h : kX8_crossings P f a K) : Met l yX8_crossings (wU yX8_crossings cX8_crossings 3 (some .int)) rmX8_crossings (PcW G P f sz [.ref a]) (QcI G P sz K) 0 0 (frA P sz) := sorry

def jX8_kinds_29 (P : Sk) (a : Nat) (L4 : St → Int32 → Int32 → Prop) (K : Int32 → St → Prop) (x1 : Int32) (x2 : Int32) (y0 : Int32) (y1 : Int32) (f : St) : Prop :=
  ∀ x1_30 : Int32, x1_30 = y0 + y1 → ∀ x2_31 : Int32, x2_31 = x2 + 1 → L4 f x1_30 x2_31
def bX8_kinds_4 (P : Sk) (a : Nat) (L4 : St → Int32 → Int32 → Prop) (K : Int32 → St → Prop) (f : St) (x1 : Int32) (x2 : Int32) : Prop :=
  vp_in 0 160 ∧ ((f (a + 1) ((0 : Int32)).toNatClampNeg ≤ x2 → K x1 f) ∧ (¬ f (a + 1) ((0 : Int32)).toNatClampNeg ≤ x2 → kX8_firstAlike P f a x2 (fun r17 g17 => (¬ r17 = x2 → jX8_kinds_29 P a L4 K x1 x2 x1 0 g17) ∧ (r17 = x2 → jX8_kinds_29 P a L4 K x1 x2 x1 1 g17))))
def vX8_kinds (P : Sk) (f : St) (a : Nat) (L4 : St → Int32 → Int32 → Prop) (K : Int32 → St → Prop) : Prop :=
  L4 f 0 0
set_option maxRecDepth 20000 in
set_option maxHeartbeats 4000000 in
theorem mX8_kinds (l : Launch) (G : Gl) (P : Sk) (f : St) (sz : Nat) (a : Nat) (ha : IsModel P a) (K : Int32 → St → Prop) (I4 : St → Int32 → Int32 → Prop) (μ4 : St → Int32 → Int32 → Nat) 
  (h : vX8_kinds P f a I4 K)
  (h4 : ∀ (g : St) (x1 : Int32) (x2 : Int32) , I4 g x1 x2 → bX8_kinds_4 P a (fun g' z0 z1 => I4 g' z0 z1 ∧ μ4 g' z0 z1 < μ4 g x1 x2) K g x1 x2) :
  Met l yX8_kinds (wU yX8_kinds cX8_kinds 3 (some .int)) rmX8_kinds (PcW G P f sz [.ref a]) (QcI G P sz K) 0 0 (frA P sz) := by
  refine v_met (own := RX8) [.ref a] (by decide +kernel) rfl (Nat.le_of_ble_eq_true rfl) (fun p e s m args below meth c hsz o hr hnm => ?_)
  refine v_lv (lv2 := [(0, .ref a)]) rfl ?_
  have main : ∀ n : Nat, (∀ (g : St) (x1 : Int32) (x2 : Int32) , I4 g x1 x2 → μ4 g x1 x2 < n → V p l e rmX8_kinds s m args below meth c 3 G (frA P sz) (MQ below (QcI G P sz K) args s 0 0 (frA P sz)) 0 0 P [(0, .ref a), (1, .int x1), (2, .int x2)] [] 4 g) := by
    intro n
    induction n with
    | zero => exact fun g x1 x2 hI hm => absurd hm (Nat.not_lt_zero _)
    | succ n ih =>
      intro g x1 x2 hI hm
      have h := h4 g x1 x2 hI
      clear hI
      have J29 : ∀ (x1_29 : Int32) (x2_29 : Int32) (y0_29 : Int32) (y1_29 : Int32) (g29 : St), jX8_kinds_29 P a (fun g' z0 z1 => I4 g' z0 z1 ∧ μ4 g' z0 z1 < μ4 g x1 x2) K x1_29 x2_29 y0_29 y1_29 g29 → V p l e rmX8_kinds s m args below meth c 3 G (frA P sz) (MQ below (QcI G P sz K) args s 0 0 (frA P sz)) 0 0 P [(0, .ref a), (1, .int x1_29), (2, .int x2_29)] [.int y1_29, .int y0_29] 29 g29 := by
        intro x1_29 x2_29 y0_29 y1_29 g29  h
        unfold jX8_kinds_29 at h
        refine v_iadd o dX8_kinds_29 ?_
        refine v_topi (fun x1_30 ex1_30 => ?_)
        replace h := h x1_30 ex1_30
        refine v_istore_n o (lv' := [(1, .int x1_30), (0, .ref a), (2, .int x2_29)]) dX8_kinds_30 rfl (by decide) rfl ?_
        obtain ⟨x2_31, ex2_31⟩ : ∃ y : Int32, y = x2_29 + 1 := ⟨_, rfl⟩
        replace h := h x2_31 ex2_31
        refine v_iinc o (v := x2_31) (lv' := [(2, .int x2_31), (1, .int x1_30), (0, .ref a)]) 2 dX8_kinds_31 rfl (by rw [ex2_31]; rfl) (by decide) rfl ?_
        refine v_goto o (tgt := 4) dX8_kinds_34 (by decide) ?_
        refine v_sub [2, 1, 0] (lv2 := [(0, .ref a), (1, .int x1_30), (2, .int x2_31)]) rfl ?_
        exact ih g29 x1_30 x2_31  h.1 (by have := h.2; omega)
      unfold bX8_kinds_4 at h
      refine v_iload_n o 2 dX8_kinds_4 rfl ?_
      refine v_aload_n o 0 dX8_kinds_5 rfl ?_
      refine v_gfR o lkX8_7 (by decide) (wfModel_o ha) (wfModel_r1 ha) dX8_kinds_6 ?_
      refine v_iconst o (v := 0) dX8_kinds_9 (by decide) ?_
      refine v_iald o (wfModel_t1 ha) (wfModel_n1 ha) h.1 dX8_kinds_10 ?_
      replace h := h.2
      refine v_icmp_ge o (tgt := 37) dX8_kinds_11 (by decide) (fun c11 => ?_) (fun c11 => ?_)
      · replace h := h.1 c11
        refine v_iload_n o 1 dX8_kinds_37 rfl ?_
        exact v_iret o rfl hr dX8_kinds_38 h
      · replace h := h.2 c11
        refine v_iload_n o 1 dX8_kinds_14 rfl ?_
        refine v_aload_n o 0 dX8_kinds_15 rfl ?_
        refine v_iload_n o 2 dX8_kinds_16 rfl ?_
        refine v_cVi o [.int x2] [.int x1] (fun sz => metX8_firstAlike l G P g sz a ha x2 _ h) (cwX8_223 o.1.2.2.2.2 (by decide)) ⟨_, _, rfl⟩ (by decide) (wfModel_o ha) rfl (Nat.le_of_ble_eq_true rfl) ⟨Nat.zero_le _, Nat.zero_le _⟩ dX8_kinds_17 rfl (fun r17 g17 h => ?_)
        refine v_iload_n o 2 dX8_kinds_20 rfl ?_
        refine v_icmp_ne o (tgt := 28) dX8_kinds_21 (by decide) (fun c21 => ?_) (fun c21 => ?_)
        · replace h := h.1 c21
          refine v_iconst o (v := 0) dX8_kinds_28 (by decide) ?_
          refine v_sub [0, 1, 2] (lv2 := [(0, .ref a), (1, .int x1), (2, .int x2)]) rfl ?_
          exact J29 x1 x2 x1 0 g17  h
        · replace h := h.2 c21
          refine v_iconst o (v := 1) dX8_kinds_24 (by decide) ?_
          refine v_goto o (tgt := 29) dX8_kinds_25 (by decide) ?_
          refine v_sub [0, 1, 2] (lv2 := [(0, .ref a), (1, .int x1), (2, .int x2)]) rfl ?_
          exact J29 x1 x2 x1 1 g17  h
  unfold vX8_kinds at h
  refine v_iconst o (v := 0) dX8_kinds_0 (by decide) ?_
  refine v_istore_n o (lv' := [(1, .int 0), (0, .ref a)]) dX8_kinds_1 rfl (by decide) rfl ?_
  refine v_iconst o (v := 0) dX8_kinds_2 (by decide) ?_
  refine v_istore_n o (lv' := [(2, .int 0), (1, .int 0), (0, .ref a)]) dX8_kinds_3 rfl (by decide) rfl ?_
  refine v_sub [2, 1, 0] (lv2 := [(0, .ref a), (1, .int 0), (2, .int 0)]) rfl ?_
  exact (main (μ4 f 0 0 + 1)) f 0 0  h (Nat.lt_succ_self _)
def kX8_kinds (P : Sk) (f : St) (a : Nat) (K : Int32 → St → Prop) : Prop := False
theorem metX8_kinds (l : Launch) (G : Gl) (P : Sk) (f : St) (sz : Nat) (a : Nat) (ha : IsModel P a) (K : Int32 → St → Prop) (h : kX8_kinds P f a K) : Met l yX8_kinds (wU yX8_kinds cX8_kinds 3 (some .int)) rmX8_kinds (PcW G P f sz [.ref a]) (QcI G P sz K) 0 0 (frA P sz) := sorry

def jX8_tellsCount_52 (P : Sk) (a : Nat) (p1 : Int32) (K : Int32 → St → Prop) (f : St) : Prop :=
  kX8_crossings P f a (fun r54 g54 => K (3 * r54) g54)
def vX8_tellsCount (P : Sk) (f : St) (a : Nat) (p1 : Int32) (K : Int32 → St → Prop) : Prop :=
  (p1 = 0 → vp_in 0 160 ∧ (K (f (a + 1) ((0 : Int32)).toNatClampNeg) f)) ∧ (¬ p1 = 0 → (p1 = 1 → kX8_crossings P f a (fun r48 g48 => K r48 g48)) ∧ (¬ p1 = 1 → (p1 = 2 → jX8_tellsCount_52 P a p1 K  f) ∧ (¬ p1 = 2 → (p1 = 3 → jX8_tellsCount_52 P a p1 K  f) ∧ (¬ p1 = 3 → (p1 = 4 → kX8_kinds P f a (fun r60 g60 => K r60 g60)) ∧ (¬ p1 = 4 → (p1 = 5 → vp_in 1 160 ∧ (K (f (a + 1) ((1 : Int32)).toNatClampNeg) f)) ∧ (¬ p1 = 5 → K (f a 3) f))))))
set_option maxRecDepth 20000 in
set_option maxHeartbeats 4000000 in
theorem mX8_tellsCount (l : Launch) (G : Gl) (P : Sk) (f : St) (sz : Nat) (a : Nat) (ha : IsModel P a) (p1 : Int32) (K : Int32 → St → Prop) (h : vX8_tellsCount P f a p1 K)  :
  Met l yX8_tellsCount (wU yX8_tellsCount cX8_tellsCount 2 (some .int)) rmX8_tellsCount (PcW G P f sz [.ref a, .int p1]) (QcI G P sz K) 0 0 (frA P sz) := by
  refine v_met (own := RX8) [.ref a, .int p1] (by decide +kernel) rfl (Nat.le_of_ble_eq_true rfl) (fun p e s m args below meth c hsz o hr hnm => ?_)
  refine v_lv (lv2 := [(0, .ref a), (1, .int p1)]) rfl ?_
  have J52 : ∀ (g52 : St), jX8_tellsCount_52 P a p1 K  g52 → V p l e rmX8_tellsCount s m args below meth c 2 G (frA P sz) (MQ below (QcI G P sz K) args s 0 0 (frA P sz)) 0 0 P [(0, .ref a), (1, .int p1)] [] 52 g52 := by
    intro  g52  h
    unfold jX8_tellsCount_52 at h
    refine v_iconst o (v := 3) dX8_tellsCount_52 (by decide) ?_
    refine v_aload_n o 0 dX8_tellsCount_53 rfl ?_
    refine v_cVi o [] [.int 3] (fun sz => metX8_crossings l G P g52 sz a ha _ h) (cwX8_232 o.1.2.2.2.2 (by decide)) ⟨_, _, rfl⟩ (by decide) (wfModel_o ha) rfl (Nat.le_of_ble_eq_true rfl) ⟨Nat.zero_le _, Nat.zero_le _⟩ dX8_tellsCount_54 rfl (fun r54 g54 h => ?_)
    refine v_imul o dX8_tellsCount_57 ?_
    exact v_iret o rfl hr dX8_tellsCount_58 h
  unfold vX8_tellsCount at h
  refine v_iload_n o 1 dX8_tellsCount_0 rfl ?_
  by_cases c1_0 : p1 = 0
  · replace h := h.1 c1_0
    refine v_tableIn o (off := 39) (tgt := 40) dX8_tellsCount_1 (by rw [c1_0]; decide) (by rw [c1_0]; decide) (by rw [c1_0]; decide) (by decide) ?_
    refine v_aload_n o 0 dX8_tellsCount_40 rfl ?_
    refine v_gfR o lkX8_7 (by decide) (wfModel_o ha) (wfModel_r1 ha) dX8_tellsCount_41 ?_
    refine v_iconst o (v := 0) dX8_tellsCount_44 (by decide) ?_
    refine v_iald o (wfModel_t1 ha) (wfModel_n1 ha) h.1 dX8_tellsCount_45 ?_
    replace h := h.2
    exact v_iret o rfl hr dX8_tellsCount_46 h
  · replace h := h.2 c1_0
    by_cases c1_1 : p1 = 1
    · replace h := h.1 c1_1
      refine v_tableIn o (off := 46) (tgt := 47) dX8_tellsCount_1 (by rw [c1_1]; decide) (by rw [c1_1]; decide) (by rw [c1_1]; decide) (by decide) ?_
      refine v_aload_n o 0 dX8_tellsCount_47 rfl ?_
      refine v_cVi o [] [] (fun sz => metX8_crossings l G P f sz a ha _ h) (cwX8_232 o.1.2.2.2.2 (by decide)) ⟨_, _, rfl⟩ (by decide) (wfModel_o ha) rfl (Nat.le_of_ble_eq_true rfl) ⟨Nat.zero_le _, Nat.zero_le _⟩ dX8_tellsCount_48 rfl (fun r48 g48 h => ?_)
      exact v_iret o rfl hr dX8_tellsCount_51 h
    · replace h := h.2 c1_1
      by_cases c1_2 : p1 = 2
      · replace h := h.1 c1_2
        refine v_tableIn o (off := 51) (tgt := 52) dX8_tellsCount_1 (by rw [c1_2]; decide) (by rw [c1_2]; decide) (by rw [c1_2]; decide) (by decide) ?_
        refine v_sub [0, 1] (lv2 := [(0, .ref a), (1, .int p1)]) rfl ?_
        exact J52  f  h
      · replace h := h.2 c1_2
        by_cases c1_3 : p1 = 3
        · replace h := h.1 c1_3
          refine v_tableIn o (off := 51) (tgt := 52) dX8_tellsCount_1 (by rw [c1_3]; decide) (by rw [c1_3]; decide) (by rw [c1_3]; decide) (by decide) ?_
          refine v_sub [0, 1] (lv2 := [(0, .ref a), (1, .int p1)]) rfl ?_
          exact J52  f  h
        · replace h := h.2 c1_3
          by_cases c1_4 : p1 = 4
          · replace h := h.1 c1_4
            refine v_tableIn o (off := 58) (tgt := 59) dX8_tellsCount_1 (by rw [c1_4]; decide) (by rw [c1_4]; decide) (by rw [c1_4]; decide) (by decide) ?_
            refine v_aload_n o 0 dX8_tellsCount_59 rfl ?_
            refine v_cVi o [] [] (fun sz => metX8_kinds l G P f sz a ha _ h) (cwX8_235 o.1.2.2.2.2 (by decide)) ⟨_, _, rfl⟩ (by decide) (wfModel_o ha) rfl (Nat.le_of_ble_eq_true rfl) ⟨Nat.zero_le _, Nat.zero_le _⟩ dX8_tellsCount_60 rfl (fun r60 g60 h => ?_)
            exact v_iret o rfl hr dX8_tellsCount_63 h
          · replace h := h.2 c1_4
            by_cases c1_5 : p1 = 5
            · replace h := h.1 c1_5
              refine v_tableIn o (off := 63) (tgt := 64) dX8_tellsCount_1 (by rw [c1_5]; decide) (by rw [c1_5]; decide) (by rw [c1_5]; decide) (by decide) ?_
              refine v_aload_n o 0 dX8_tellsCount_64 rfl ?_
              refine v_gfR o lkX8_7 (by decide) (wfModel_o ha) (wfModel_r1 ha) dX8_tellsCount_65 ?_
              refine v_iconst o (v := 1) dX8_tellsCount_68 (by decide) ?_
              refine v_iald o (wfModel_t1 ha) (wfModel_n1 ha) h.1 dX8_tellsCount_69 ?_
              replace h := h.2
              exact v_iret o rfl hr dX8_tellsCount_70 h
            · replace h := h.2 c1_5
              refine v_tableOut o (tgt := 71) dX8_tellsCount_1 (by have q0 := lv_neT c1_0 (a := 0) (by decide); have q1 := lv_neT c1_1 (a := 1) (by decide); have q2 := lv_neT c1_2 (a := 2) (by decide); have q3 := lv_neT c1_3 (a := 3) (by decide); have q4 := lv_neT c1_4 (a := 4) (by decide); have q5 := lv_neT c1_5 (a := 5) (by decide); omega) (by decide) ?_
              refine v_aload_n o 0 dX8_tellsCount_71 rfl ?_
              refine v_gfI o lkX8_48 (by decide) (wfModel_o ha) dX8_tellsCount_72 ?_
              exact v_iret o rfl hr dX8_tellsCount_75 h
abbrev kX8_tellsCount := @vX8_tellsCount
abbrev metX8_tellsCount := @mX8_tellsCount

def vX8_count (P : Sk) (f : St) (a : Nat) (p1 : Int32) (K : Int32 → St → Prop) : Prop :=
  ∀ g2 : St, g2 = setf f a 0 0 → kX8_in P g2 p1 0 6 (fun r9 g9 => (r9 = 0 → kX8_fails P g9 a 1 (fun r25 g25 => K r25 g25)) ∧ (¬ r9 = 0 → kX8_tellsCount P g9 a p1 (fun r17 g17 => K r17 g17)))
set_option maxRecDepth 20000 in
set_option maxHeartbeats 4000000 in
theorem mX8_count (l : Launch) (G : Gl) (P : Sk) (f : St) (sz : Nat) (a : Nat) (ha : IsModel P a) (p1 : Int32) (K : Int32 → St → Prop) (h : vX8_count P f a p1 K)  :
  Met l yX8_count (wU yX8_count cX8_count 2 (some .int)) rmX8_count (PcW G P f sz [.ref a, .int p1]) (QcI G P sz K) 0 0 (frA P sz) := by
  refine v_met (own := RX8) [.ref a, .int p1] (by decide +kernel) rfl (Nat.le_of_ble_eq_true rfl) (fun p e s m args below meth c hsz o hr hnm => ?_)
  refine v_lv (lv2 := [(0, .ref a), (1, .int p1)]) rfl ?_
  unfold vX8_count at h
  refine v_aload_n o 0 dX8_count_0 rfl ?_
  refine v_iconst o (v := 0) dX8_count_1 (by decide) ?_
  refine v_pf o lpX8_40 (wfModel_o ha) ⟨rfl, rfl⟩ dX8_count_2 ?_
  refine v_nmf (fun g2 eg2 => ?_)
  replace h := h g2 eg2
  refine v_iload_n o 1 dX8_count_5 rfl ?_
  refine v_iconst o (v := 0) dX8_count_6 (by decide) ?_
  refine v_bipush o (v := 6) dX8_count_7 (by decide) ?_
  refine v_cSi o [.int p1, .int 0, .int 6] [] (fun sz => metX8_in l G P g2 sz p1 0 6 _ h) (cwX8_44 o.1.2.2.2.2 (by decide)) rfl (Nat.le_of_ble_eq_true rfl) ⟨Nat.zero_le _, Nat.zero_le _⟩ dX8_count_9 rfl (fun r9 g9 h => ?_)
  refine v_if_eq o (tgt := 23) dX8_count_12 (by decide) (fun c12 => ?_) (fun c12 => ?_)
  · replace h := h.1 c12
    refine v_aload_n o 0 dX8_count_23 rfl ?_
    refine v_iconst o (v := 1) dX8_count_24 (by decide) ?_
    refine v_cVi o [.int 1] [] (fun sz => metX8_fails l G P g9 sz a ha 1 _ h) (cwX8_123 o.1.2.2.2.2 (by decide)) ⟨_, _, rfl⟩ (by decide) (wfModel_o ha) rfl (Nat.le_of_ble_eq_true rfl) ⟨Nat.zero_le _, Nat.zero_le _⟩ dX8_count_25 rfl (fun r25 g25 h => ?_)
    exact v_iret o rfl hr dX8_count_28 h
  · replace h := h.2 c12
    refine v_aload_n o 0 dX8_count_15 rfl ?_
    refine v_iload_n o 1 dX8_count_16 rfl ?_
    refine v_cVi o [.int p1] [] (fun sz => metX8_tellsCount l G P g9 sz a ha p1 _ h) (cwX8_238 o.1.2.2.2.2 (by decide)) ⟨_, _, rfl⟩ (by decide) (wfModel_o ha) rfl (Nat.le_of_ble_eq_true rfl) ⟨Nat.zero_le _, Nat.zero_le _⟩ dX8_count_17 rfl (fun r17 g17 h => ?_)
    refine v_goto o (tgt := 28) dX8_count_20 (by decide) ?_
    exact v_iret o rfl hr dX8_count_28 h
abbrev kX8_count := @vX8_count
abbrev metX8_count := @mX8_count

def jX8_whyNot_17 (P : Sk) (a : Nat) (p1 : Int32) (p2 : Int32) (p3 : Int32) (K : Int32 → St → Prop) (y3 : Int32) (f : St) : Prop :=
  kX8_refusesCross P f a p1 p2 y3 (fun r17 g17 => (3 ≤ r17 → kX8_fails P g17 a 1 (fun r35 g35 => K r35 g35)) ∧ (¬ 3 ≤ r17 → K r17 g17))
def vX8_whyNot (P : Sk) (f : St) (a : Nat) (p1 : Int32) (p2 : Int32) (p3 : Int32) (K : Int32 → St → Prop) : Prop :=
  ∀ g2 : St, g2 = setf f a 0 0 → (p3 = 0 → jX8_whyNot_17 P a p1 p2 p3 K 0 g2) ∧ (¬ p3 = 0 → jX8_whyNot_17 P a p1 p2 p3 K 1 g2)
set_option maxRecDepth 20000 in
set_option maxHeartbeats 4000000 in
theorem mX8_whyNot (l : Launch) (G : Gl) (P : Sk) (f : St) (sz : Nat) (a : Nat) (ha : IsModel P a) (p1 : Int32) (p2 : Int32) (p3 : Int32) (K : Int32 → St → Prop) (h : vX8_whyNot P f a p1 p2 p3 K)  :
  Met l yX8_whyNot (wU yX8_whyNot cX8_whyNot 5 (some .int)) rmX8_whyNot (PcW G P f sz [.ref a, .int p1, .int p2, .int p3]) (QcI G P sz K) 0 0 (frA P sz) := by
  refine v_met (own := RX8) [.ref a, .int p1, .int p2, .int p3] (by decide +kernel) rfl (Nat.le_of_ble_eq_true rfl) (fun p e s m args below meth c hsz o hr hnm => ?_)
  refine v_lv (lv2 := [(0, .ref a), (1, .int p1), (2, .int p2), (3, .int p3)]) rfl ?_
  have J17 : ∀ (y3_17 : Int32) (g17 : St), jX8_whyNot_17 P a p1 p2 p3 K y3_17 g17 → V p l e rmX8_whyNot s m args below meth c 5 G (frA P sz) (MQ below (QcI G P sz K) args s 0 0 (frA P sz)) 0 0 P [(0, .ref a), (1, .int p1), (2, .int p2), (3, .int p3)] [.int y3_17, .int p2, .int p1, .ref a] 17 g17 := by
    intro y3_17 g17  h
    unfold jX8_whyNot_17 at h
    refine v_cVi o [.int p1, .int p2, .int y3_17] [] (fun sz => metX8_refusesCross l G P g17 sz a ha p1 p2 y3_17 _ h) (cwX8_136 o.1.2.2.2.2 (by decide)) ⟨_, _, rfl⟩ (by decide) (wfModel_o ha) rfl (Nat.le_of_ble_eq_true rfl) ⟨Nat.zero_le _, Nat.zero_le _⟩ dX8_whyNot_17 rfl (fun r17 g17 h => ?_)
    refine v_istore o (lv' := [(4, .int r17), (0, .ref a), (1, .int p1), (2, .int p2), (3, .int p3)]) dX8_whyNot_20 (by decide) rfl ?_
    refine v_iload o 0 dX8_whyNot_22 rfl ?_
    refine v_iconst o (v := 3) dX8_whyNot_24 (by decide) ?_
    refine v_icmp_ge o (tgt := 33) dX8_whyNot_25 (by decide) (fun c25 => ?_) (fun c25 => ?_)
    · replace h := h.1 c25
      refine v_aload_n o 1 dX8_whyNot_33 rfl ?_
      refine v_iconst o (v := 1) dX8_whyNot_34 (by decide) ?_
      refine v_cVi o [.int 1] [] (fun sz => metX8_fails l G P g17 sz a ha 1 _ h) (cwX8_123 o.1.2.2.2.2 (by decide)) ⟨_, _, rfl⟩ (by decide) (wfModel_o ha) rfl (Nat.le_of_ble_eq_true rfl) ⟨Nat.zero_le _, Nat.zero_le _⟩ dX8_whyNot_35 rfl (fun r35 g35 h => ?_)
      exact v_iret o rfl hr dX8_whyNot_38 h
    · replace h := h.2 c25
      refine v_iload o 0 dX8_whyNot_28 rfl ?_
      refine v_goto o (tgt := 38) dX8_whyNot_30 (by decide) ?_
      exact v_iret o rfl hr dX8_whyNot_38 h
  unfold vX8_whyNot at h
  refine v_aload_n o 0 dX8_whyNot_0 rfl ?_
  refine v_iconst o (v := 0) dX8_whyNot_1 (by decide) ?_
  refine v_pf o lpX8_40 (wfModel_o ha) ⟨rfl, rfl⟩ dX8_whyNot_2 ?_
  refine v_nmf (fun g2 eg2 => ?_)
  replace h := h g2 eg2
  refine v_aload_n o 0 dX8_whyNot_5 rfl ?_
  refine v_iload_n o 1 dX8_whyNot_6 rfl ?_
  refine v_iload_n o 2 dX8_whyNot_7 rfl ?_
  refine v_iload_n o 3 dX8_whyNot_8 rfl ?_
  refine v_if_eq o (tgt := 16) dX8_whyNot_9 (by decide) (fun c9 => ?_) (fun c9 => ?_)
  · replace h := h.1 c9
    refine v_iconst o (v := 0) dX8_whyNot_16 (by decide) ?_
    refine v_sub [0, 1, 2, 3] (lv2 := [(0, .ref a), (1, .int p1), (2, .int p2), (3, .int p3)]) rfl ?_
    exact J17 0 g2  h
  · replace h := h.2 c9
    refine v_iconst o (v := 1) dX8_whyNot_12 (by decide) ?_
    refine v_goto o (tgt := 17) dX8_whyNot_13 (by decide) ?_
    refine v_sub [0, 1, 2, 3] (lv2 := [(0, .ref a), (1, .int p1), (2, .int p2), (3, .int p3)]) rfl ?_
    exact J17 1 g2  h
abbrev kX8_whyNot := @vX8_whyNot
abbrev metX8_whyNot := @mX8_whyNot

def vX8_looseBehind (P : Sk) (f : St) (a : Nat) (p1 : Int32) (p2 : Int32) (K : Int32 → St → Prop) : Prop :=
  kX8_takes P f a p1 (fun g2 => kX8_changes P g2 a p2 (fun g7 => kX8_loosens P g7 a (fun g11 => K (g11 a 9) g11)))
set_option maxRecDepth 20000 in
set_option maxHeartbeats 4000000 in
theorem mX8_looseBehind (l : Launch) (G : Gl) (P : Sk) (f : St) (sz : Nat) (a : Nat) (ha : IsModel P a) (p1 : Int32) (p2 : Int32) (K : Int32 → St → Prop) (h : vX8_looseBehind P f a p1 p2 K)  :
  Met l yX8_looseBehind (wU yX8_looseBehind cX8_looseBehind 3 (some .int)) rmX8_looseBehind (PcW G P f sz [.ref a, .int p1, .int p2]) (QcI G P sz K) 0 0 (frA P sz) := by
  refine v_met (own := RX8) [.ref a, .int p1, .int p2] (by decide +kernel) rfl (Nat.le_of_ble_eq_true rfl) (fun p e s m args below meth c hsz o hr hnm => ?_)
  refine v_lv (lv2 := [(0, .ref a), (1, .int p1), (2, .int p2)]) rfl ?_
  unfold vX8_looseBehind at h
  refine v_aload_n o 0 dX8_looseBehind_0 rfl ?_
  refine v_iload_n o 1 dX8_looseBehind_1 rfl ?_
  refine v_cVv o [.int p1] [] (fun sz => metX8_takes l G P f sz a ha p1 _ h) (cwX8_107 o.1.2.2.2.2 (by decide)) ⟨_, _, rfl⟩ (by decide) (wfModel_o ha) rfl (Nat.le_of_ble_eq_true rfl) ⟨Nat.zero_le _, Nat.zero_le _⟩ dX8_looseBehind_2 rfl (fun g2 h => ?_)
  refine v_aload_n o 0 dX8_looseBehind_5 rfl ?_
  refine v_iload_n o 2 dX8_looseBehind_6 rfl ?_
  refine v_cVv o [.int p2] [] (fun sz => metX8_changes l G P g2 sz a ha p2 _ h) (cwX8_113 o.1.2.2.2.2 (by decide)) ⟨_, _, rfl⟩ (by decide) (wfModel_o ha) rfl (Nat.le_of_ble_eq_true rfl) ⟨Nat.zero_le _, Nat.zero_le _⟩ dX8_looseBehind_7 rfl (fun g7 h => ?_)
  refine v_aload_n o 0 dX8_looseBehind_10 rfl ?_
  refine v_cVv o [] [] (fun sz => metX8_loosens l G P g7 sz a ha _ h) (cwX8_101 o.1.2.2.2.2 (by decide)) ⟨_, _, rfl⟩ (by decide) (wfModel_o ha) rfl (Nat.le_of_ble_eq_true rfl) ⟨Nat.zero_le _, Nat.zero_le _⟩ dX8_looseBehind_11 rfl (fun g11 h => ?_)
  refine v_aload_n o 0 dX8_looseBehind_14 rfl ?_
  refine v_gfI o lkX8_58 (by decide) (wfModel_o ha) dX8_looseBehind_15 ?_
  exact v_iret o rfl hr dX8_looseBehind_18 h
abbrev kX8_looseBehind := @vX8_looseBehind
abbrev metX8_looseBehind := @mX8_looseBehind

def vX8_ifChanged (P : Sk) (f : St) (a : Nat) (p1 : Int32) (p2 : Int32) (K : Int32 → St → Prop) : Prop :=
  ∀ g2 : St, g2 = setf f a 0 0 → kX8_isLoaf P g2 a p1 (fun r7 g7 => (¬ r7 = 0 → kX8_in P g7 p2 0 3 (fun r22 g22 => (r22 = 0 → kX8_fails P g22 a 2 (fun r39 g39 => K r39 g39)) ∧ (¬ r22 = 0 → kX8_looseBehind P g22 a p1 p2 (fun r31 g31 => K r31 g31)))) ∧ (r7 = 0 → kX8_fails P g7 a 1 (fun r15 g15 => K r15 g15)))
set_option maxRecDepth 20000 in
set_option maxHeartbeats 4000000 in
theorem mX8_ifChanged (l : Launch) (G : Gl) (P : Sk) (f : St) (sz : Nat) (a : Nat) (ha : IsModel P a) (p1 : Int32) (p2 : Int32) (K : Int32 → St → Prop) (h : vX8_ifChanged P f a p1 p2 K)  :
  Met l yX8_ifChanged (wU yX8_ifChanged cX8_ifChanged 3 (some .int)) rmX8_ifChanged (PcW G P f sz [.ref a, .int p1, .int p2]) (QcI G P sz K) 0 0 (frA P sz) := by
  refine v_met (own := RX8) [.ref a, .int p1, .int p2] (by decide +kernel) rfl (Nat.le_of_ble_eq_true rfl) (fun p e s m args below meth c hsz o hr hnm => ?_)
  refine v_lv (lv2 := [(0, .ref a), (1, .int p1), (2, .int p2)]) rfl ?_
  unfold vX8_ifChanged at h
  refine v_aload_n o 0 dX8_ifChanged_0 rfl ?_
  refine v_iconst o (v := 0) dX8_ifChanged_1 (by decide) ?_
  refine v_pf o lpX8_40 (wfModel_o ha) ⟨rfl, rfl⟩ dX8_ifChanged_2 ?_
  refine v_nmf (fun g2 eg2 => ?_)
  replace h := h g2 eg2
  refine v_aload_n o 0 dX8_ifChanged_5 rfl ?_
  refine v_iload_n o 1 dX8_ifChanged_6 rfl ?_
  refine v_cVi o [.int p1] [] (fun sz => metX8_isLoaf l G P g2 sz a ha p1 _ h) (cwX8_104 o.1.2.2.2.2 (by decide)) ⟨_, _, rfl⟩ (by decide) (wfModel_o ha) rfl (Nat.le_of_ble_eq_true rfl) ⟨Nat.zero_le _, Nat.zero_le _⟩ dX8_ifChanged_7 rfl (fun r7 g7 h => ?_)
  refine v_if_ne o (tgt := 19) dX8_ifChanged_10 (by decide) (fun c10 => ?_) (fun c10 => ?_)
  · replace h := h.1 c10
    refine v_iload_n o 2 dX8_ifChanged_19 rfl ?_
    refine v_iconst o (v := 0) dX8_ifChanged_20 (by decide) ?_
    refine v_iconst o (v := 3) dX8_ifChanged_21 (by decide) ?_
    refine v_cSi o [.int p2, .int 0, .int 3] [] (fun sz => metX8_in l G P g7 sz p2 0 3 _ h) (cwX8_44 o.1.2.2.2.2 (by decide)) rfl (Nat.le_of_ble_eq_true rfl) ⟨Nat.zero_le _, Nat.zero_le _⟩ dX8_ifChanged_22 rfl (fun r22 g22 h => ?_)
    refine v_if_eq o (tgt := 37) dX8_ifChanged_25 (by decide) (fun c25 => ?_) (fun c25 => ?_)
    · replace h := h.1 c25
      refine v_aload_n o 0 dX8_ifChanged_37 rfl ?_
      refine v_iconst o (v := 2) dX8_ifChanged_38 (by decide) ?_
      refine v_cVi o [.int 2] [] (fun sz => metX8_fails l G P g22 sz a ha 2 _ h) (cwX8_123 o.1.2.2.2.2 (by decide)) ⟨_, _, rfl⟩ (by decide) (wfModel_o ha) rfl (Nat.le_of_ble_eq_true rfl) ⟨Nat.zero_le _, Nat.zero_le _⟩ dX8_ifChanged_39 rfl (fun r39 g39 h => ?_)
      exact v_iret o rfl hr dX8_ifChanged_42 h
    · replace h := h.2 c25
      refine v_aload_n o 0 dX8_ifChanged_28 rfl ?_
      refine v_iload_n o 1 dX8_ifChanged_29 rfl ?_
      refine v_iload_n o 2 dX8_ifChanged_30 rfl ?_
      refine v_cVi o [.int p1, .int p2] [] (fun sz => metX8_looseBehind l G P g22 sz a ha p1 p2 _ h) (cwX8_241 o.1.2.2.2.2 (by decide)) ⟨_, _, rfl⟩ (by decide) (wfModel_o ha) rfl (Nat.le_of_ble_eq_true rfl) ⟨Nat.zero_le _, Nat.zero_le _⟩ dX8_ifChanged_31 rfl (fun r31 g31 h => ?_)
      refine v_goto o (tgt := 42) dX8_ifChanged_34 (by decide) ?_
      exact v_iret o rfl hr dX8_ifChanged_42 h
  · replace h := h.2 c10
    refine v_aload_n o 0 dX8_ifChanged_13 rfl ?_
    refine v_iconst o (v := 1) dX8_ifChanged_14 (by decide) ?_
    refine v_cVi o [.int 1] [] (fun sz => metX8_fails l G P g7 sz a ha 1 _ h) (cwX8_123 o.1.2.2.2.2 (by decide)) ⟨_, _, rfl⟩ (by decide) (wfModel_o ha) rfl (Nat.le_of_ble_eq_true rfl) ⟨Nat.zero_le _, Nat.zero_le _⟩ dX8_ifChanged_15 rfl (fun r15 g15 h => ?_)
    exact v_iret o rfl hr dX8_ifChanged_18 h
abbrev kX8_ifChanged := @vX8_ifChanged
abbrev metX8_ifChanged := @mX8_ifChanged

def bX8_likeness_29 (P : Sk) (a : Nat) (p1 : Int32) (p2 : Int32) (L29 : St → Int32 → Prop) (K : Int32 → St → Prop) (f : St) (x3 : Int32) : Prop :=
  (4 ≤ x3 → K 0 f) ∧ (¬ 4 ≤ x3 → kX8_takes P f a p1 (fun g36 => kX8_changes P g36 a (x3 - 1) (fun g43 => kX8_loosens P g43 a (fun g47 => kX8_isLikeOther P g47 a (fun r51 g51 => (r51 = 0 → ∀ x3_61 : Int32, x3_61 = x3 + 1 → L29 g51 x3_61) ∧ (¬ r51 = 0 → K (x3 + 1) g51))))))
def vX8_likeness (P : Sk) (f : St) (a : Nat) (p1 : Int32) (p2 : Int32) (L29 : St → Int32 → Prop) (K : Int32 → St → Prop) : Prop :=
  kX8_of P f a p1 0 (fun r3 g3 => kX8_of P g3 a p2 0 (fun r9 g9 => (r3 = r9 → kX8_looseLength P g9 a p2 (fun r19 g19 => kX8_keepsOther P g19 a (fun g24 => L29 g24 0))) ∧ (¬ r3 = r9 → K 0 g9)))
set_option maxRecDepth 20000 in
set_option maxHeartbeats 4000000 in
theorem mX8_likeness (l : Launch) (G : Gl) (P : Sk) (f : St) (sz : Nat) (a : Nat) (ha : IsModel P a) (p1 : Int32) (p2 : Int32) (K : Int32 → St → Prop) (I29 : St → Int32 → Prop) (μ29 : St → Int32 → Nat) 
  (h : vX8_likeness P f a p1 p2 I29 K)
  (h29 : ∀ (g : St) (x3 : Int32) , I29 g x3 → bX8_likeness_29 P a p1 p2 (fun g' z0 => I29 g' z0 ∧ μ29 g' z0 < μ29 g x3) K g x3) :
  Met l yX8_likeness (wU yX8_likeness cX8_likeness 4 (some .int)) rmX8_likeness (PcW G P f sz [.ref a, .int p1, .int p2]) (QcI G P sz K) 0 0 (frA P sz) := by
  refine v_met (own := RX8) [.ref a, .int p1, .int p2] (by decide +kernel) rfl (Nat.le_of_ble_eq_true rfl) (fun p e s m args below meth c hsz o hr hnm => ?_)
  refine v_lv (lv2 := [(0, .ref a), (1, .int p1), (2, .int p2)]) rfl ?_
  have main : ∀ n : Nat, (∀ (g : St) (x3 : Int32) , I29 g x3 → μ29 g x3 < n → V p l e rmX8_likeness s m args below meth c 4 G (frA P sz) (MQ below (QcI G P sz K) args s 0 0 (frA P sz)) 0 0 P [(0, .ref a), (1, .int p1), (2, .int p2), (3, .int x3)] [] 29 g) := by
    intro n
    induction n with
    | zero => exact fun g x3 hI hm => absurd hm (Nat.not_lt_zero _)
    | succ n ih =>
      intro g x3 hI hm
      have h := h29 g x3 hI
      clear hI
      unfold bX8_likeness_29 at h
      refine v_iload_n o 3 dX8_likeness_29 rfl ?_
      refine v_iconst o (v := 4) dX8_likeness_30 (by decide) ?_
      refine v_icmp_ge o (tgt := 67) dX8_likeness_31 (by decide) (fun c31 => ?_) (fun c31 => ?_)
      · replace h := h.1 c31
        refine v_iconst o (v := 0) dX8_likeness_67 (by decide) ?_
        exact v_iret o rfl hr dX8_likeness_68 h
      · replace h := h.2 c31
        refine v_aload_n o 0 dX8_likeness_34 rfl ?_
        refine v_iload_n o 1 dX8_likeness_35 rfl ?_
        refine v_cVv o [.int p1] [] (fun sz => metX8_takes l G P g sz a ha p1 _ h) (cwX8_107 o.1.2.2.2.2 (by decide)) ⟨_, _, rfl⟩ (by decide) (wfModel_o ha) rfl (Nat.le_of_ble_eq_true rfl) ⟨Nat.zero_le _, Nat.zero_le _⟩ dX8_likeness_36 rfl (fun g36 h => ?_)
        refine v_aload_n o 0 dX8_likeness_39 rfl ?_
        refine v_iload_n o 3 dX8_likeness_40 rfl ?_
        refine v_iconst o (v := 1) dX8_likeness_41 (by decide) ?_
        refine v_isub o dX8_likeness_42 ?_
        refine v_cVv o [.int (x3 - 1)] [] (fun sz => metX8_changes l G P g36 sz a ha (x3 - 1) _ h) (cwX8_113 o.1.2.2.2.2 (by decide)) ⟨_, _, rfl⟩ (by decide) (wfModel_o ha) rfl (Nat.le_of_ble_eq_true rfl) ⟨Nat.zero_le _, Nat.zero_le _⟩ dX8_likeness_43 rfl (fun g43 h => ?_)
        refine v_aload_n o 0 dX8_likeness_46 rfl ?_
        refine v_cVv o [] [] (fun sz => metX8_loosens l G P g43 sz a ha _ h) (cwX8_101 o.1.2.2.2.2 (by decide)) ⟨_, _, rfl⟩ (by decide) (wfModel_o ha) rfl (Nat.le_of_ble_eq_true rfl) ⟨Nat.zero_le _, Nat.zero_le _⟩ dX8_likeness_47 rfl (fun g47 h => ?_)
        refine v_aload_n o 0 dX8_likeness_50 rfl ?_
        refine v_cVi o [] [] (fun sz => metX8_isLikeOther l G P g47 sz a ha _ h) (cwX8_198 o.1.2.2.2.2 (by decide)) ⟨_, _, rfl⟩ (by decide) (wfModel_o ha) rfl (Nat.le_of_ble_eq_true rfl) ⟨Nat.zero_le _, Nat.zero_le _⟩ dX8_likeness_51 rfl (fun r51 g51 h => ?_)
        refine v_if_eq o (tgt := 61) dX8_likeness_54 (by decide) (fun c54 => ?_) (fun c54 => ?_)
        · replace h := h.1 c54
          obtain ⟨x3_61, ex3_61⟩ : ∃ y : Int32, y = x3 + 1 := ⟨_, rfl⟩
          replace h := h x3_61 ex3_61
          refine v_iinc o (v := x3_61) (lv' := [(3, .int x3_61), (0, .ref a), (1, .int p1), (2, .int p2)]) 3 dX8_likeness_61 rfl (by rw [ex3_61]; rfl) (by decide) rfl ?_
          refine v_goto o (tgt := 29) dX8_likeness_64 (by decide) ?_
          refine v_sub [1, 2, 3, 0] (lv2 := [(0, .ref a), (1, .int p1), (2, .int p2), (3, .int x3_61)]) rfl ?_
          exact ih g51 x3_61  h.1 (by have := h.2; omega)
        · replace h := h.2 c54
          refine v_iload_n o 3 dX8_likeness_57 rfl ?_
          refine v_iconst o (v := 1) dX8_likeness_58 (by decide) ?_
          refine v_iadd o dX8_likeness_59 ?_
          exact v_iret o rfl hr dX8_likeness_60 h
  unfold vX8_likeness at h
  refine v_aload_n o 0 dX8_likeness_0 rfl ?_
  refine v_iload_n o 1 dX8_likeness_1 rfl ?_
  refine v_iconst o (v := 0) dX8_likeness_2 (by decide) ?_
  refine v_cVi o [.int p1, .int 0] [] (fun sz => metX8_of l G P f sz a ha p1 0 _ h) (cwX8_51 o.1.2.2.2.2 (by decide)) ⟨_, _, rfl⟩ (by decide) (wfModel_o ha) rfl (Nat.le_of_ble_eq_true rfl) ⟨Nat.zero_le _, Nat.zero_le _⟩ dX8_likeness_3 rfl (fun r3 g3 h => ?_)
  refine v_aload_n o 0 dX8_likeness_6 rfl ?_
  refine v_iload_n o 2 dX8_likeness_7 rfl ?_
  refine v_iconst o (v := 0) dX8_likeness_8 (by decide) ?_
  refine v_cVi o [.int p2, .int 0] [.int r3] (fun sz => metX8_of l G P g3 sz a ha p2 0 _ h) (cwX8_51 o.1.2.2.2.2 (by decide)) ⟨_, _, rfl⟩ (by decide) (wfModel_o ha) rfl (Nat.le_of_ble_eq_true rfl) ⟨Nat.zero_le _, Nat.zero_le _⟩ dX8_likeness_9 rfl (fun r9 g9 h => ?_)
  refine v_icmp_eq o (tgt := 17) dX8_likeness_12 (by decide) (fun c12 => ?_) (fun c12 => ?_)
  · replace h := h.1 c12
    refine v_aload_n o 0 dX8_likeness_17 rfl ?_
    refine v_iload_n o 2 dX8_likeness_18 rfl ?_
    refine v_cVi o [.int p2] [] (fun sz => metX8_looseLength l G P g9 sz a ha p2 _ h) (cwX8_217 o.1.2.2.2.2 (by decide)) ⟨_, _, rfl⟩ (by decide) (wfModel_o ha) rfl (Nat.le_of_ble_eq_true rfl) ⟨Nat.zero_le _, Nat.zero_le _⟩ dX8_likeness_19 rfl (fun r19 g19 h => ?_)
    refine v_pop o dX8_likeness_22 rfl ?_
    refine v_aload_n o 0 dX8_likeness_23 rfl ?_
    refine v_cVv o [] [] (fun sz => metX8_keepsOther l G P g19 sz a ha _ h) (cwX8_195 o.1.2.2.2.2 (by decide)) ⟨_, _, rfl⟩ (by decide) (wfModel_o ha) rfl (Nat.le_of_ble_eq_true rfl) ⟨Nat.zero_le _, Nat.zero_le _⟩ dX8_likeness_24 rfl (fun g24 h => ?_)
    refine v_iconst o (v := 0) dX8_likeness_27 (by decide) ?_
    refine v_istore_n o (lv' := [(3, .int 0), (0, .ref a), (1, .int p1), (2, .int p2)]) dX8_likeness_28 rfl (by decide) rfl ?_
    refine v_sub [1, 2, 3, 0] (lv2 := [(0, .ref a), (1, .int p1), (2, .int p2), (3, .int 0)]) rfl ?_
    exact (main (μ29 g24 0 + 1)) g24 0  h (Nat.lt_succ_self _)
  · replace h := h.2 c12
    refine v_iconst o (v := 0) dX8_likeness_15 (by decide) ?_
    exact v_iret o rfl hr dX8_likeness_16 h
def kX8_likeness (P : Sk) (f : St) (a : Nat) (p1 : Int32) (p2 : Int32) (K : Int32 → St → Prop) : Prop := False
theorem metX8_likeness (l : Launch) (G : Gl) (P : Sk) (f : St) (sz : Nat) (a : Nat) (ha : IsModel P a) (p1 : Int32) (p2 : Int32) (K : Int32 → St → Prop) (h : kX8_likeness P f a p1 p2 K) : Met l yX8_likeness (wU yX8_likeness cX8_likeness 4 (some .int)) rmX8_likeness (PcW G P f sz [.ref a, .int p1, .int p2]) (QcI G P sz K) 0 0 (frA P sz) := sorry

def jX8_alike_30 (P : Sk) (a : Nat) (p1 : Int32) (p2 : Int32) (K : Int32 → St → Prop) (f : St) : Prop :=
  kX8_fails P f a 1 (fun r32 g32 => K r32 g32)
def vX8_alike (P : Sk) (f : St) (a : Nat) (p1 : Int32) (p2 : Int32) (K : Int32 → St → Prop) : Prop :=
  ∀ g2 : St, g2 = setf f a 0 0 → kX8_isLoaf P g2 a p1 (fun r7 g7 => (r7 = 0 → jX8_alike_30 P a p1 p2 K  g7) ∧ (¬ r7 = 0 → kX8_isLoaf P g7 a p2 (fun r15 g15 => (r15 = 0 → jX8_alike_30 P a p1 p2 K  g15) ∧ (¬ r15 = 0 → kX8_likeness P g15 a p1 p2 (fun r24 g24 => K r24 g24)))))
set_option maxRecDepth 20000 in
set_option maxHeartbeats 4000000 in
theorem mX8_alike (l : Launch) (G : Gl) (P : Sk) (f : St) (sz : Nat) (a : Nat) (ha : IsModel P a) (p1 : Int32) (p2 : Int32) (K : Int32 → St → Prop) (h : vX8_alike P f a p1 p2 K)  :
  Met l yX8_alike (wU yX8_alike cX8_alike 3 (some .int)) rmX8_alike (PcW G P f sz [.ref a, .int p1, .int p2]) (QcI G P sz K) 0 0 (frA P sz) := by
  refine v_met (own := RX8) [.ref a, .int p1, .int p2] (by decide +kernel) rfl (Nat.le_of_ble_eq_true rfl) (fun p e s m args below meth c hsz o hr hnm => ?_)
  refine v_lv (lv2 := [(0, .ref a), (1, .int p1), (2, .int p2)]) rfl ?_
  have J30 : ∀ (g30 : St), jX8_alike_30 P a p1 p2 K  g30 → V p l e rmX8_alike s m args below meth c 3 G (frA P sz) (MQ below (QcI G P sz K) args s 0 0 (frA P sz)) 0 0 P [(0, .ref a), (1, .int p1), (2, .int p2)] [] 30 g30 := by
    intro  g30  h
    unfold jX8_alike_30 at h
    refine v_aload_n o 0 dX8_alike_30 rfl ?_
    refine v_iconst o (v := 1) dX8_alike_31 (by decide) ?_
    refine v_cVi o [.int 1] [] (fun sz => metX8_fails l G P g30 sz a ha 1 _ h) (cwX8_123 o.1.2.2.2.2 (by decide)) ⟨_, _, rfl⟩ (by decide) (wfModel_o ha) rfl (Nat.le_of_ble_eq_true rfl) ⟨Nat.zero_le _, Nat.zero_le _⟩ dX8_alike_32 rfl (fun r32 g32 h => ?_)
    exact v_iret o rfl hr dX8_alike_35 h
  unfold vX8_alike at h
  refine v_aload_n o 0 dX8_alike_0 rfl ?_
  refine v_iconst o (v := 0) dX8_alike_1 (by decide) ?_
  refine v_pf o lpX8_40 (wfModel_o ha) ⟨rfl, rfl⟩ dX8_alike_2 ?_
  refine v_nmf (fun g2 eg2 => ?_)
  replace h := h g2 eg2
  refine v_aload_n o 0 dX8_alike_5 rfl ?_
  refine v_iload_n o 1 dX8_alike_6 rfl ?_
  refine v_cVi o [.int p1] [] (fun sz => metX8_isLoaf l G P g2 sz a ha p1 _ h) (cwX8_104 o.1.2.2.2.2 (by decide)) ⟨_, _, rfl⟩ (by decide) (wfModel_o ha) rfl (Nat.le_of_ble_eq_true rfl) ⟨Nat.zero_le _, Nat.zero_le _⟩ dX8_alike_7 rfl (fun r7 g7 h => ?_)
  refine v_if_eq o (tgt := 30) dX8_alike_10 (by decide) (fun c10 => ?_) (fun c10 => ?_)
  · replace h := h.1 c10
    refine v_sub [0, 1, 2] (lv2 := [(0, .ref a), (1, .int p1), (2, .int p2)]) rfl ?_
    exact J30  g7  h
  · replace h := h.2 c10
    refine v_aload_n o 0 dX8_alike_13 rfl ?_
    refine v_iload_n o 2 dX8_alike_14 rfl ?_
    refine v_cVi o [.int p2] [] (fun sz => metX8_isLoaf l G P g7 sz a ha p2 _ h) (cwX8_104 o.1.2.2.2.2 (by decide)) ⟨_, _, rfl⟩ (by decide) (wfModel_o ha) rfl (Nat.le_of_ble_eq_true rfl) ⟨Nat.zero_le _, Nat.zero_le _⟩ dX8_alike_15 rfl (fun r15 g15 h => ?_)
    refine v_if_eq o (tgt := 30) dX8_alike_18 (by decide) (fun c18 => ?_) (fun c18 => ?_)
    · replace h := h.1 c18
      refine v_sub [0, 1, 2] (lv2 := [(0, .ref a), (1, .int p1), (2, .int p2)]) rfl ?_
      exact J30  g15  h
    · replace h := h.2 c18
      refine v_aload_n o 0 dX8_alike_21 rfl ?_
      refine v_iload_n o 1 dX8_alike_22 rfl ?_
      refine v_iload_n o 2 dX8_alike_23 rfl ?_
      refine v_cVi o [.int p1, .int p2] [] (fun sz => metX8_likeness l G P g15 sz a ha p1 p2 _ h) (cwX8_244 o.1.2.2.2.2 (by decide)) ⟨_, _, rfl⟩ (by decide) (wfModel_o ha) rfl (Nat.le_of_ble_eq_true rfl) ⟨Nat.zero_le _, Nat.zero_le _⟩ dX8_alike_24 rfl (fun r24 g24 h => ?_)
      refine v_goto o (tgt := 35) dX8_alike_27 (by decide) ?_
      exact v_iret o rfl hr dX8_alike_35 h
abbrev kX8_alike := @vX8_alike
abbrev metX8_alike := @mX8_alike

def bX8_common_4 (P : Sk) (p0 : Int32) (p1 : Int32) (L4 : St → Int32 → Int32 → Prop) (K : Int32 → St → Prop) (f : St) (x2 : Int32) (x3 : Int32) : Prop :=
  (x3 = 0 → (¬ x2 = 0) ∧ (K ((p0 / x2) * p1) f)) ∧ (¬ x3 = 0 → (¬ x3 = 0) ∧ (∀ x4_11 : Int32, x4_11 = x2 - x2 / x3 * x3 → L4 f x3 x4_11))
def vX8_common (P : Sk) (f : St) (p0 : Int32) (p1 : Int32) (L4 : St → Int32 → Int32 → Prop) (K : Int32 → St → Prop) : Prop :=
  L4 f p0 p1
set_option maxRecDepth 20000 in
set_option maxHeartbeats 4000000 in
theorem mX8_common (l : Launch) (G : Gl) (P : Sk) (f : St) (sz : Nat) (p0 : Int32) (p1 : Int32) (K : Int32 → St → Prop) (I4 : St → Int32 → Int32 → Prop) (μ4 : St → Int32 → Int32 → Nat) 
  (h : vX8_common P f p0 p1 I4 K)
  (h4 : ∀ (g : St) (x2 : Int32) (x3 : Int32) , I4 g x2 x3 → bX8_common_4 P p0 p1 (fun g' z0 z1 => I4 g' z0 z1 ∧ μ4 g' z0 z1 < μ4 g x2 x3) K g x2 x3) :
  Met l yX8_common (wU yX8_common cX8_common 5 (some .int)) rmX8_common (PcW G P f sz [.int p0, .int p1]) (QcI G P sz K) 0 0 (frA P sz) := by
  refine v_met (own := RX8) [.int p0, .int p1] (by decide +kernel) rfl (Nat.le_of_ble_eq_true rfl) (fun p e s m args below meth c hsz o hr hnm => ?_)
  refine v_lv (lv2 := [(0, .int p0), (1, .int p1)]) rfl ?_
  have main : ∀ n : Nat, (∀ (g : St) (x2 : Int32) (x3 : Int32) , I4 g x2 x3 → μ4 g x2 x3 < n → V p l e rmX8_common s m args below meth c 5 G (frA P sz) (MQ below (QcI G P sz K) args s 0 0 (frA P sz)) 0 0 P [(0, .int p0), (1, .int p1), (2, .int x2), (3, .int x3)] [] 4 g) := by
    intro n
    induction n with
    | zero => exact fun g x2 x3 hI hm => absurd hm (Nat.not_lt_zero _)
    | succ n ih =>
      intro g x2 x3 hI hm
      have h := h4 g x2 x3 hI
      clear hI
      unfold bX8_common_4 at h
      refine v_iload_n o 3 dX8_common_4 rfl ?_
      refine v_if_eq o (tgt := 21) dX8_common_5 (by decide) (fun c5 => ?_) (fun c5 => ?_)
      · replace h := h.1 c5
        refine v_iload_n o 0 dX8_common_21 rfl ?_
        refine v_iload_n o 2 dX8_common_22 rfl ?_
        refine v_idiv o dX8_common_23 h.1 ?_
        replace h := h.2
        refine v_iload_n o 1 dX8_common_24 rfl ?_
        refine v_imul o dX8_common_25 ?_
        exact v_iret o rfl hr dX8_common_26 h
      · replace h := h.2 c5
        refine v_iload_n o 2 dX8_common_8 rfl ?_
        refine v_iload_n o 3 dX8_common_9 rfl ?_
        refine v_irem o dX8_common_10 h.1 ?_
        replace h := h.2
        refine v_topi (fun x4_11 ex4_11 => ?_)
        replace h := h x4_11 ex4_11
        refine v_istore o (lv' := [(4, .int x4_11), (0, .int p0), (1, .int p1), (2, .int x2), (3, .int x3)]) dX8_common_11 (by decide) rfl ?_
        refine v_iload_n o 4 dX8_common_13 rfl ?_
        refine v_istore_n o (lv' := [(2, .int x3), (4, .int x4_11), (0, .int p0), (1, .int p1), (3, .int x3)]) dX8_common_14 rfl (by decide) rfl ?_
        refine v_iload o 1 dX8_common_15 rfl ?_
        refine v_istore_n o (lv' := [(3, .int x4_11), (2, .int x3), (4, .int x4_11), (0, .int p0), (1, .int p1)]) dX8_common_17 rfl (by decide) rfl ?_
        refine v_goto o (tgt := 4) dX8_common_18 (by decide) ?_
        refine v_sub [3, 4, 1, 0] (lv2 := [(0, .int p0), (1, .int p1), (2, .int x3), (3, .int x4_11)]) rfl ?_
        exact ih g x3 x4_11  h.1 (by have := h.2; omega)
  unfold vX8_common at h
  refine v_iload_n o 0 dX8_common_0 rfl ?_
  refine v_istore_n o (lv' := [(2, .int p0), (0, .int p0), (1, .int p1)]) dX8_common_1 rfl (by decide) rfl ?_
  refine v_iload_n o 2 dX8_common_2 rfl ?_
  refine v_istore_n o (lv' := [(3, .int p1), (2, .int p0), (0, .int p0), (1, .int p1)]) dX8_common_3 rfl (by decide) rfl ?_
  refine v_sub [2, 3, 1, 0] (lv2 := [(0, .int p0), (1, .int p1), (2, .int p0), (3, .int p1)]) rfl ?_
  exact (main (μ4 f p0 p1 + 1)) f p0 p1  h (Nat.lt_succ_self _)
def kX8_common (P : Sk) (f : St) (p0 : Int32) (p1 : Int32) (K : Int32 → St → Prop) : Prop := False
theorem metX8_common (l : Launch) (G : Gl) (P : Sk) (f : St) (sz : Nat) (p0 : Int32) (p1 : Int32) (K : Int32 → St → Prop) (h : kX8_common P f p0 p1 K) : Met l yX8_common (wU yX8_common cX8_common 5 (some .int)) rmX8_common (PcW G P f sz [.int p0, .int p1]) (QcI G P sz K) 0 0 (frA P sz) := sorry

def bX8_periodOf_17 (P : Sk) (a : Nat) (p1 : Int32) (L17 : St → Int32 → Int32 → Prop) (L36 : St → Int32 → Int32 → Int32 → Int32 → Prop) (K : Int32 → St → Prop) (f : St) (x2 : Int32) (x3 : Int32) : Prop :=
  (f a 10 ≤ x3 → K x2 f) ∧ (¬ f a 10 ≤ x3 → vp_in x3 7 ∧ (∀ x5_34 : Int32, x5_34 = f (a + 6) x3.toNatClampNeg → L36 f x2 x3 1 x5_34))
def bX8_periodOf_36 (P : Sk) (a : Nat) (p1 : Int32) (L17 : St → Int32 → Int32 → Prop) (L36 : St → Int32 → Int32 → Int32 → Int32 → Prop) (K : Int32 → St → Prop) (f : St) (x2 : Int32) (x3 : Int32) (x4 : Int32) (x5 : Int32) : Prop :=
  (x5 = x3 → kX8_common P f x2 x4 (fun r60 g60 => ∀ x3_64 : Int32, x3_64 = x3 + 1 → L17 g60 r60 x3_64)) ∧ (¬ x5 = x3 → ∀ x4_42 : Int32, x4_42 = x4 + 1 → vp_in x5 7 ∧ (∀ x5_52 : Int32, x5_52 = f (a + 6) x5.toNatClampNeg → L36 f x2 x3 x4_42 x5_52))
def vX8_periodOf (P : Sk) (f : St) (a : Nat) (p1 : Int32) (L17 : St → Int32 → Int32 → Prop) (L36 : St → Int32 → Int32 → Int32 → Int32 → Prop) (K : Int32 → St → Prop) : Prop :=
  kX8_takes P f a p1 (fun g2 => kX8_walks P g2 a (g2 a 9) (fun g10 => L17 g10 1 0))
set_option maxRecDepth 20000 in
set_option maxHeartbeats 4000000 in
theorem mX8_periodOf (l : Launch) (G : Gl) (P : Sk) (f : St) (sz : Nat) (a : Nat) (ha : IsModel P a) (p1 : Int32) (K : Int32 → St → Prop) (I17 : St → Int32 → Int32 → Prop) (μ17 : St → Int32 → Int32 → Nat) (I36 : St → Int32 → Int32 → Int32 → Int32 → Prop) (μ36 : St → Int32 → Int32 → Int32 → Int32 → Nat) 
  (h : vX8_periodOf P f a p1 I17 I36 K)
  (h17 : ∀ (g : St) (x2 : Int32) (x3 : Int32) , I17 g x2 x3 → bX8_periodOf_17 P a p1 (fun g' z0 z1 => I17 g' z0 z1 ∧ μ17 g' z0 z1 < μ17 g x2 x3) (fun g' z0 z1 z2 z3 => I36 g' z0 z1 z2 z3 ∧ μ36 g' z0 z1 z2 z3 < μ17 g x2 x3) K g x2 x3)
  (h36 : ∀ (g : St) (x2 : Int32) (x3 : Int32) (x4 : Int32) (x5 : Int32) , I36 g x2 x3 x4 x5 → bX8_periodOf_36 P a p1 (fun g' z0 z1 => I17 g' z0 z1 ∧ μ17 g' z0 z1 < μ36 g x2 x3 x4 x5) (fun g' z0 z1 z2 z3 => I36 g' z0 z1 z2 z3 ∧ μ36 g' z0 z1 z2 z3 < μ36 g x2 x3 x4 x5) K g x2 x3 x4 x5) :
  Met l yX8_periodOf (wU yX8_periodOf cX8_periodOf 6 (some .int)) rmX8_periodOf (PcW G P f sz [.ref a, .int p1]) (QcI G P sz K) 0 0 (frA P sz) := by
  refine v_met (own := RX8) [.ref a, .int p1] (by decide +kernel) rfl (Nat.le_of_ble_eq_true rfl) (fun p e s m args below meth c hsz o hr hnm => ?_)
  refine v_lv (lv2 := [(0, .ref a), (1, .int p1)]) rfl ?_
  have main : ∀ n : Nat, (∀ (g : St) (x2 : Int32) (x3 : Int32) , I17 g x2 x3 → μ17 g x2 x3 < n → V p l e rmX8_periodOf s m args below meth c 6 G (frA P sz) (MQ below (QcI G P sz K) args s 0 0 (frA P sz)) 0 0 P [(0, .ref a), (1, .int p1), (2, .int x2), (3, .int x3)] [] 17 g) ∧ (∀ (g : St) (x2 : Int32) (x3 : Int32) (x4 : Int32) (x5 : Int32) , I36 g x2 x3 x4 x5 → μ36 g x2 x3 x4 x5 < n → V p l e rmX8_periodOf s m args below meth c 6 G (frA P sz) (MQ below (QcI G P sz K) args s 0 0 (frA P sz)) 0 0 P [(0, .ref a), (1, .int p1), (2, .int x2), (3, .int x3), (4, .int x4), (5, .int x5)] [] 36 g) := by
    intro n
    induction n with
    | zero => exact ⟨fun g x2 x3 hI hm => absurd hm (Nat.not_lt_zero _), fun g x2 x3 x4 x5 hI hm => absurd hm (Nat.not_lt_zero _)⟩
    | succ n ih =>
      refine ⟨?_, ?_⟩
      · intro g x2 x3 hI hm
        have h := h17 g x2 x3 hI
        clear hI
        unfold bX8_periodOf_17 at h
        refine v_iload_n o 3 dX8_periodOf_17 rfl ?_
        refine v_aload_n o 0 dX8_periodOf_18 rfl ?_
        refine v_gfI o lkX8_55 (by decide) (wfModel_o ha) dX8_periodOf_19 ?_
        refine v_icmp_ge o (tgt := 70) dX8_periodOf_22 (by decide) (fun c22 => ?_) (fun c22 => ?_)
        · replace h := h.1 c22
          refine v_iload_n o 2 dX8_periodOf_70 rfl ?_
          exact v_iret o rfl hr dX8_periodOf_71 h
        · replace h := h.2 c22
          refine v_iconst o (v := 1) dX8_periodOf_25 (by decide) ?_
          refine v_istore o (lv' := [(4, .int 1), (0, .ref a), (1, .int p1), (2, .int x2), (3, .int x3)]) dX8_periodOf_26 (by decide) rfl ?_
          refine v_aload_n o 1 dX8_periodOf_28 rfl ?_
          refine v_gfR o lkX8_25 (by decide) (wfModel_o ha) (wfModel_r11 ha) dX8_periodOf_29 ?_
          refine v_iload_n o 4 dX8_periodOf_32 rfl ?_
          refine v_iald o (wfModel_t11 ha) (wfModel_n11 ha) h.1 dX8_periodOf_33 ?_
          replace h := h.2
          refine v_topi (fun x5_34 ex5_34 => ?_)
          replace h := h x5_34 ex5_34
          refine v_istore o (lv' := [(5, .int x5_34), (4, .int 1), (0, .ref a), (1, .int p1), (2, .int x2), (3, .int x3)]) dX8_periodOf_34 (by decide) rfl ?_
          refine v_sub [2, 3, 4, 5, 1, 0] (lv2 := [(0, .ref a), (1, .int p1), (2, .int x2), (3, .int x3), (4, .int 1), (5, .int x5_34)]) rfl ?_
          exact ih.2 g x2 x3 1 x5_34  h.1 (by have := h.2; omega)
      · intro g x2 x3 x4 x5 hI hm
        have h := h36 g x2 x3 x4 x5 hI
        clear hI
        unfold bX8_periodOf_36 at h
        refine v_iload o 5 dX8_periodOf_36 rfl ?_
        refine v_iload_n o 3 dX8_periodOf_38 rfl ?_
        refine v_icmp_eq o (tgt := 57) dX8_periodOf_39 (by decide) (fun c39 => ?_) (fun c39 => ?_)
        · replace h := h.1 c39
          refine v_iload_n o 2 dX8_periodOf_57 rfl ?_
          refine v_iload o 4 dX8_periodOf_58 rfl ?_
          refine v_cSi o [.int x2, .int x4] [] (fun sz => metX8_common l G P g sz x2 x4 _ h) (cwX8_247 o.1.2.2.2.2 (by decide)) rfl (Nat.le_of_ble_eq_true rfl) ⟨Nat.zero_le _, Nat.zero_le _⟩ dX8_periodOf_60 rfl (fun r60 g60 h => ?_)
          refine v_istore_n o (lv' := [(2, .int r60), (0, .ref a), (1, .int p1), (3, .int x3), (4, .int x4), (5, .int x5)]) dX8_periodOf_63 rfl (by decide) rfl ?_
          obtain ⟨x3_64, ex3_64⟩ : ∃ y : Int32, y = x3 + 1 := ⟨_, rfl⟩
          replace h := h x3_64 ex3_64
          refine v_iinc o (v := x3_64) (lv' := [(3, .int x3_64), (2, .int r60), (0, .ref a), (1, .int p1), (4, .int x4), (5, .int x5)]) 3 dX8_periodOf_64 rfl (by rw [ex3_64]; rfl) (by decide) rfl ?_
          refine v_goto o (tgt := 17) dX8_periodOf_67 (by decide) ?_
          refine v_sub [2, 3, 1, 0] (lv2 := [(0, .ref a), (1, .int p1), (2, .int r60), (3, .int x3_64)]) rfl ?_
          exact ih.1 g60 r60 x3_64  h.1 (by have := h.2; omega)
        · replace h := h.2 c39
          obtain ⟨x4_42, ex4_42⟩ : ∃ y : Int32, y = x4 + 1 := ⟨_, rfl⟩
          replace h := h x4_42 ex4_42
          refine v_iinc o (v := x4_42) (lv' := [(4, .int x4_42), (0, .ref a), (1, .int p1), (2, .int x2), (3, .int x3), (5, .int x5)]) 4 dX8_periodOf_42 rfl (by rw [ex4_42]; rfl) (by decide) rfl ?_
          refine v_aload_n o 1 dX8_periodOf_45 rfl ?_
          refine v_gfR o lkX8_25 (by decide) (wfModel_o ha) (wfModel_r11 ha) dX8_periodOf_46 ?_
          refine v_iload o 5 dX8_periodOf_49 rfl ?_
          refine v_iald o (wfModel_t11 ha) (wfModel_n11 ha) h.1 dX8_periodOf_51 ?_
          replace h := h.2
          refine v_topi (fun x5_52 ex5_52 => ?_)
          replace h := h x5_52 ex5_52
          refine v_istore o (lv' := [(5, .int x5_52), (4, .int x4_42), (0, .ref a), (1, .int p1), (2, .int x2), (3, .int x3)]) dX8_periodOf_52 (by decide) rfl ?_
          refine v_goto o (tgt := 36) dX8_periodOf_54 (by decide) ?_
          refine v_sub [2, 3, 4, 5, 1, 0] (lv2 := [(0, .ref a), (1, .int p1), (2, .int x2), (3, .int x3), (4, .int x4_42), (5, .int x5_52)]) rfl ?_
          exact ih.2 g x2 x3 x4_42 x5_52  h.1 (by have := h.2; omega)
  unfold vX8_periodOf at h
  refine v_aload_n o 0 dX8_periodOf_0 rfl ?_
  refine v_iload_n o 1 dX8_periodOf_1 rfl ?_
  refine v_cVv o [.int p1] [] (fun sz => metX8_takes l G P f sz a ha p1 _ h) (cwX8_107 o.1.2.2.2.2 (by decide)) ⟨_, _, rfl⟩ (by decide) (wfModel_o ha) rfl (Nat.le_of_ble_eq_true rfl) ⟨Nat.zero_le _, Nat.zero_le _⟩ dX8_periodOf_2 rfl (fun g2 h => ?_)
  refine v_aload_n o 0 dX8_periodOf_5 rfl ?_
  refine v_aload_n o 0 dX8_periodOf_6 rfl ?_
  refine v_gfI o lkX8_58 (by decide) (wfModel_o ha) dX8_periodOf_7 ?_
  refine v_cVv o [.int (g2 a 9)] [] (fun sz => metX8_walks l G P g2 sz a ha (g2 a 9) _ h) (cwX8_89 o.1.2.2.2.2 (by decide)) ⟨_, _, rfl⟩ (by decide) (wfModel_o ha) rfl (Nat.le_of_ble_eq_true rfl) ⟨Nat.zero_le _, Nat.zero_le _⟩ dX8_periodOf_10 rfl (fun g10 h => ?_)
  refine v_iconst o (v := 1) dX8_periodOf_13 (by decide) ?_
  refine v_istore_n o (lv' := [(2, .int 1), (0, .ref a), (1, .int p1)]) dX8_periodOf_14 rfl (by decide) rfl ?_
  refine v_iconst o (v := 0) dX8_periodOf_15 (by decide) ?_
  refine v_istore_n o (lv' := [(3, .int 0), (2, .int 1), (0, .ref a), (1, .int p1)]) dX8_periodOf_16 rfl (by decide) rfl ?_
  refine v_sub [2, 3, 1, 0] (lv2 := [(0, .ref a), (1, .int p1), (2, .int 1), (3, .int 0)]) rfl ?_
  exact (main (μ17 g10 1 0 + 1)).1 g10 1 0  h (Nat.lt_succ_self _)
def kX8_periodOf (P : Sk) (f : St) (a : Nat) (p1 : Int32) (K : Int32 → St → Prop) : Prop := False
theorem metX8_periodOf (l : Launch) (G : Gl) (P : Sk) (f : St) (sz : Nat) (a : Nat) (ha : IsModel P a) (p1 : Int32) (K : Int32 → St → Prop) (h : kX8_periodOf P f a p1 K) : Met l yX8_periodOf (wU yX8_periodOf cX8_periodOf 6 (some .int)) rmX8_periodOf (PcW G P f sz [.ref a, .int p1]) (QcI G P sz K) 0 0 (frA P sz) := sorry

def vX8_period (P : Sk) (f : St) (a : Nat) (p1 : Int32) (K : Int32 → St → Prop) : Prop :=
  ∀ g2 : St, g2 = setf f a 0 0 → kX8_isLoaf P g2 a p1 (fun r7 g7 => (r7 = 0 → kX8_fails P g7 a 1 (fun r23 g23 => K r23 g23)) ∧ (¬ r7 = 0 → kX8_periodOf P g7 a p1 (fun r15 g15 => K r15 g15)))
set_option maxRecDepth 20000 in
set_option maxHeartbeats 4000000 in
theorem mX8_period (l : Launch) (G : Gl) (P : Sk) (f : St) (sz : Nat) (a : Nat) (ha : IsModel P a) (p1 : Int32) (K : Int32 → St → Prop) (h : vX8_period P f a p1 K)  :
  Met l yX8_period (wU yX8_period cX8_period 2 (some .int)) rmX8_period (PcW G P f sz [.ref a, .int p1]) (QcI G P sz K) 0 0 (frA P sz) := by
  refine v_met (own := RX8) [.ref a, .int p1] (by decide +kernel) rfl (Nat.le_of_ble_eq_true rfl) (fun p e s m args below meth c hsz o hr hnm => ?_)
  refine v_lv (lv2 := [(0, .ref a), (1, .int p1)]) rfl ?_
  unfold vX8_period at h
  refine v_aload_n o 0 dX8_period_0 rfl ?_
  refine v_iconst o (v := 0) dX8_period_1 (by decide) ?_
  refine v_pf o lpX8_40 (wfModel_o ha) ⟨rfl, rfl⟩ dX8_period_2 ?_
  refine v_nmf (fun g2 eg2 => ?_)
  replace h := h g2 eg2
  refine v_aload_n o 0 dX8_period_5 rfl ?_
  refine v_iload_n o 1 dX8_period_6 rfl ?_
  refine v_cVi o [.int p1] [] (fun sz => metX8_isLoaf l G P g2 sz a ha p1 _ h) (cwX8_104 o.1.2.2.2.2 (by decide)) ⟨_, _, rfl⟩ (by decide) (wfModel_o ha) rfl (Nat.le_of_ble_eq_true rfl) ⟨Nat.zero_le _, Nat.zero_le _⟩ dX8_period_7 rfl (fun r7 g7 h => ?_)
  refine v_if_eq o (tgt := 21) dX8_period_10 (by decide) (fun c10 => ?_) (fun c10 => ?_)
  · replace h := h.1 c10
    refine v_aload_n o 0 dX8_period_21 rfl ?_
    refine v_iconst o (v := 1) dX8_period_22 (by decide) ?_
    refine v_cVi o [.int 1] [] (fun sz => metX8_fails l G P g7 sz a ha 1 _ h) (cwX8_123 o.1.2.2.2.2 (by decide)) ⟨_, _, rfl⟩ (by decide) (wfModel_o ha) rfl (Nat.le_of_ble_eq_true rfl) ⟨Nat.zero_le _, Nat.zero_le _⟩ dX8_period_23 rfl (fun r23 g23 h => ?_)
    exact v_iret o rfl hr dX8_period_26 h
  · replace h := h.2 c10
    refine v_aload_n o 0 dX8_period_13 rfl ?_
    refine v_iload_n o 1 dX8_period_14 rfl ?_
    refine v_cVi o [.int p1] [] (fun sz => metX8_periodOf l G P g7 sz a ha p1 _ h) (cwX8_250 o.1.2.2.2.2 (by decide)) ⟨_, _, rfl⟩ (by decide) (wfModel_o ha) rfl (Nat.le_of_ble_eq_true rfl) ⟨Nat.zero_le _, Nat.zero_le _⟩ dX8_period_15 rfl (fun r15 g15 h => ?_)
    refine v_goto o (tgt := 26) dX8_period_18 (by decide) ?_
    exact v_iret o rfl hr dX8_period_26 h
abbrev kX8_period := @vX8_period
abbrev metX8_period := @mX8_period

def bX8_share_4 (P : Sk) (a : Nat) (L4 : St → Int32 → Int32 → Prop) (K : UInt64 → St → Prop) (f : St) (x1 : Int32) (x2 : Int32) : Prop :=
  vp_in 0 160 ∧ ((f (a + 1) ((0 : Int32)).toNatClampNeg ≤ x2 → kX8_crossings P f a (fun r29 g29 => (¬ r29 = 0 → kX8_crossings P g29 a (fun r42 g42 => vf_n64 (FP.ddiv (FP.i2d x1) (FP.i2d r42)) ∧ (K (FP.ddiv (FP.i2d x1) (FP.i2d r42)) g42))) ∧ (r29 = 0 → K (FP.dconst1) g29))) ∧ (¬ f (a + 1) ((0 : Int32)).toNatClampNeg ≤ x2 → kX8_looseLength P f a x2 (fun r17 g17 => ∀ x1_21 : Int32, x1_21 = x1 + r17 → ∀ x2_22 : Int32, x2_22 = x2 + 1 → L4 g17 x1_21 x2_22)))
def vX8_share (P : Sk) (f : St) (a : Nat) (L4 : St → Int32 → Int32 → Prop) (K : UInt64 → St → Prop) : Prop :=
  L4 f 0 0
set_option maxRecDepth 20000 in
set_option maxHeartbeats 4000000 in
theorem mX8_share (l : Launch) (G : Gl) (P : Sk) (f : St) (sz : Nat) (a : Nat) (ha : IsModel P a) (K : UInt64 → St → Prop) (I4 : St → Int32 → Int32 → Prop) (μ4 : St → Int32 → Int32 → Nat) 
  (h : vX8_share P f a I4 K)
  (h4 : ∀ (g : St) (x1 : Int32) (x2 : Int32) , I4 g x1 x2 → bX8_share_4 P a (fun g' z0 z1 => I4 g' z0 z1 ∧ μ4 g' z0 z1 < μ4 g x1 x2) K g x1 x2) :
  Met l yX8_share (wU yX8_share cX8_share 3 (some .double)) rmX8_share (PcW G P f sz [.ref a]) (QcD G P sz K) 0 0 (frA P sz) := by
  refine v_met (own := RX8) [.ref a] (by decide +kernel) rfl (Nat.le_of_ble_eq_true rfl) (fun p e s m args below meth c hsz o hr hnm => ?_)
  refine v_lv (lv2 := [(0, .ref a)]) rfl ?_
  have main : ∀ n : Nat, (∀ (g : St) (x1 : Int32) (x2 : Int32) , I4 g x1 x2 → μ4 g x1 x2 < n → V p l e rmX8_share s m args below meth c 3 G (frA P sz) (MQ below (QcD G P sz K) args s 0 0 (frA P sz)) 0 0 P [(0, .ref a), (1, .int x1), (2, .int x2)] [] 4 g) := by
    intro n
    induction n with
    | zero => exact fun g x1 x2 hI hm => absurd hm (Nat.not_lt_zero _)
    | succ n ih =>
      intro g x1 x2 hI hm
      have h := h4 g x1 x2 hI
      clear hI
      unfold bX8_share_4 at h
      refine v_iload_n o 2 dX8_share_4 rfl ?_
      refine v_aload_n o 0 dX8_share_5 rfl ?_
      refine v_gfR o lkX8_7 (by decide) (wfModel_o ha) (wfModel_r1 ha) dX8_share_6 ?_
      refine v_iconst o (v := 0) dX8_share_9 (by decide) ?_
      refine v_iald o (wfModel_t1 ha) (wfModel_n1 ha) h.1 dX8_share_10 ?_
      replace h := h.2
      refine v_icmp_ge o (tgt := 28) dX8_share_11 (by decide) (fun c11 => ?_) (fun c11 => ?_)
      · replace h := h.1 c11
        refine v_aload_n o 0 dX8_share_28 rfl ?_
        refine v_cVi o [] [] (fun sz => metX8_crossings l G P g sz a ha _ h) (cwX8_232 o.1.2.2.2.2 (by decide)) ⟨_, _, rfl⟩ (by decide) (wfModel_o ha) rfl (Nat.le_of_ble_eq_true rfl) ⟨Nat.zero_le _, Nat.zero_le _⟩ dX8_share_29 rfl (fun r29 g29 h => ?_)
        refine v_if_ne o (tgt := 39) dX8_share_32 (by decide) (fun c32 => ?_) (fun c32 => ?_)
        · replace h := h.1 c32
          refine v_iload_n o 1 dX8_share_39 rfl ?_
          refine v_i2d o dX8_share_40 ?_
          refine v_aload_n o 0 dX8_share_41 rfl ?_
          refine v_cVi o [] [.double (FP.i2d x1)] (fun sz => metX8_crossings l G P g29 sz a ha _ h) (cwX8_232 o.1.2.2.2.2 (by decide)) ⟨_, _, rfl⟩ (by decide) (wfModel_o ha) rfl (Nat.le_of_ble_eq_true rfl) ⟨Nat.zero_le _, Nat.zero_le _⟩ dX8_share_42 rfl (fun r42 g42 h => ?_)
          refine v_i2d o dX8_share_45 ?_
          refine v_ddiv o dX8_share_46 h.1 ?_
          replace h := h.2
          exact v_dret o rfl hr dX8_share_47 h
        · replace h := h.2 c32
          refine v_dconst1 o dX8_share_35 ?_
          refine v_goto o (tgt := 47) dX8_share_36 (by decide) ?_
          exact v_dret o rfl hr dX8_share_47 h
      · replace h := h.2 c11
        refine v_iload_n o 1 dX8_share_14 rfl ?_
        refine v_aload_n o 0 dX8_share_15 rfl ?_
        refine v_iload_n o 2 dX8_share_16 rfl ?_
        refine v_cVi o [.int x2] [.int x1] (fun sz => metX8_looseLength l G P g sz a ha x2 _ h) (cwX8_217 o.1.2.2.2.2 (by decide)) ⟨_, _, rfl⟩ (by decide) (wfModel_o ha) rfl (Nat.le_of_ble_eq_true rfl) ⟨Nat.zero_le _, Nat.zero_le _⟩ dX8_share_17 rfl (fun r17 g17 h => ?_)
        refine v_iadd o dX8_share_20 ?_
        refine v_topi (fun x1_21 ex1_21 => ?_)
        replace h := h x1_21 ex1_21
        refine v_istore_n o (lv' := [(1, .int x1_21), (0, .ref a), (2, .int x2)]) dX8_share_21 rfl (by decide) rfl ?_
        obtain ⟨x2_22, ex2_22⟩ : ∃ y : Int32, y = x2 + 1 := ⟨_, rfl⟩
        replace h := h x2_22 ex2_22
        refine v_iinc o (v := x2_22) (lv' := [(2, .int x2_22), (1, .int x1_21), (0, .ref a)]) 2 dX8_share_22 rfl (by rw [ex2_22]; rfl) (by decide) rfl ?_
        refine v_goto o (tgt := 4) dX8_share_25 (by decide) ?_
        refine v_sub [2, 1, 0] (lv2 := [(0, .ref a), (1, .int x1_21), (2, .int x2_22)]) rfl ?_
        exact ih g17 x1_21 x2_22  h.1 (by have := h.2; omega)
  unfold vX8_share at h
  refine v_iconst o (v := 0) dX8_share_0 (by decide) ?_
  refine v_istore_n o (lv' := [(1, .int 0), (0, .ref a)]) dX8_share_1 rfl (by decide) rfl ?_
  refine v_iconst o (v := 0) dX8_share_2 (by decide) ?_
  refine v_istore_n o (lv' := [(2, .int 0), (1, .int 0), (0, .ref a)]) dX8_share_3 rfl (by decide) rfl ?_
  refine v_sub [2, 1, 0] (lv2 := [(0, .ref a), (1, .int 0), (2, .int 0)]) rfl ?_
  exact (main (μ4 f 0 0 + 1)) f 0 0  h (Nat.lt_succ_self _)
def kX8_share (P : Sk) (f : St) (a : Nat) (K : UInt64 → St → Prop) : Prop := False
theorem metX8_share (l : Launch) (G : Gl) (P : Sk) (f : St) (sz : Nat) (a : Nat) (ha : IsModel P a) (K : UInt64 → St → Prop) (h : kX8_share P f a K) : Met l yX8_share (wU yX8_share cX8_share 3 (some .double)) rmX8_share (PcW G P f sz [.ref a]) (QcD G P sz K) 0 0 (frA P sz) := sorry

def vX8_looseShare (P : Sk) (f : St) (a : Nat) (K : UInt64 → St → Prop) : Prop :=
  ∀ g2 : St, g2 = setf f a 0 0 → kX8_share P g2 a (fun r6 g6 => K r6 g6)
set_option maxRecDepth 20000 in
set_option maxHeartbeats 4000000 in
theorem mX8_looseShare (l : Launch) (G : Gl) (P : Sk) (f : St) (sz : Nat) (a : Nat) (ha : IsModel P a) (K : UInt64 → St → Prop) (h : vX8_looseShare P f a K)  :
  Met l yX8_looseShare (wU yX8_looseShare cX8_looseShare 1 (some .double)) rmX8_looseShare (PcW G P f sz [.ref a]) (QcD G P sz K) 0 0 (frA P sz) := by
  refine v_met (own := RX8) [.ref a] (by decide +kernel) rfl (Nat.le_of_ble_eq_true rfl) (fun p e s m args below meth c hsz o hr hnm => ?_)
  refine v_lv (lv2 := [(0, .ref a)]) rfl ?_
  unfold vX8_looseShare at h
  refine v_aload_n o 0 dX8_looseShare_0 rfl ?_
  refine v_iconst o (v := 0) dX8_looseShare_1 (by decide) ?_
  refine v_pf o lpX8_40 (wfModel_o ha) ⟨rfl, rfl⟩ dX8_looseShare_2 ?_
  refine v_nmf (fun g2 eg2 => ?_)
  replace h := h g2 eg2
  refine v_aload_n o 0 dX8_looseShare_5 rfl ?_
  refine v_cVd o [] [] (fun sz => metX8_share l G P g2 sz a ha _ h) (cwX8_253 o.1.2.2.2.2 (by decide)) ⟨_, _, rfl⟩ (by decide) (wfModel_o ha) rfl (Nat.le_of_ble_eq_true rfl) ⟨Nat.zero_le _, Nat.zero_le _⟩ dX8_looseShare_6 rfl (fun r6 g6 h => ?_)
  exact v_dret o rfl hr dX8_looseShare_9 h
abbrev kX8_looseShare := @vX8_looseShare
abbrev metX8_looseShare := @mX8_looseShare

def bX8_digestLoaf_6 (P : Sk) (a : Nat) (p1 : Int64) (p3 : Int32) (L6 : St → Int64 → Int32 → Prop) (L54 : St → Int64 → Int32 → Prop) (L86 : St → Int64 → Int32 → Prop) (L100 : St → Int64 → Int32 → Int32 → Prop) (L147 : St → Int64 → Int32 → Int32 → Prop) (L180 : St → Int64 → Int32 → Int32 → Prop) (L194 : St → Int64 → Int32 → Int32 → Int32 → Prop) (L234 : St → Int64 → Int32 → Int32 → Prop) (K : Int64 → St → Prop) (f : St) (x4 : Int64) (x6 : Int32) : Prop :=
  (11 ≤ x6 → kX8_periodOf P f a p3 (fun r44 g44 => ∀ x4_49 : Int64, x4_49 = (31 * x4) + (r44.toInt64) → L54 g44 x4_49 0)) ∧ (¬ 11 ≤ x6 → kX8_tellsLoaf P f a p3 x6 (fun r23 g23 => ∀ x4_28 : Int64, x4_28 = (31 * x4) + (r23.toInt64) → ∀ x6_30 : Int32, x6_30 = x6 + 1 → L6 g23 x4_28 x6_30))
def bX8_digestLoaf_54 (P : Sk) (a : Nat) (p1 : Int64) (p3 : Int32) (L6 : St → Int64 → Int32 → Prop) (L54 : St → Int64 → Int32 → Prop) (L86 : St → Int64 → Int32 → Prop) (L100 : St → Int64 → Int32 → Int32 → Prop) (L147 : St → Int64 → Int32 → Int32 → Prop) (L180 : St → Int64 → Int32 → Int32 → Prop) (L194 : St → Int64 → Int32 → Int32 → Int32 → Prop) (L234 : St → Int64 → Int32 → Int32 → Prop) (K : Int64 → St → Prop) (f : St) (x4 : Int64) (x6 : Int32) : Prop :=
  (4 ≤ x6 → L86 f x4 0) ∧ (¬ 4 ≤ x6 → kX8_looseBehind P f a p3 x6 (fun r70 g70 => ∀ x4_75 : Int64, x4_75 = (31 * x4) + (r70.toInt64) → ∀ x6_77 : Int32, x6_77 = x6 + 1 → L54 g70 x4_75 x6_77))
def bX8_digestLoaf_86 (P : Sk) (a : Nat) (p1 : Int64) (p3 : Int32) (L6 : St → Int64 → Int32 → Prop) (L54 : St → Int64 → Int32 → Prop) (L86 : St → Int64 → Int32 → Prop) (L100 : St → Int64 → Int32 → Int32 → Prop) (L147 : St → Int64 → Int32 → Int32 → Prop) (L180 : St → Int64 → Int32 → Int32 → Prop) (L194 : St → Int64 → Int32 → Int32 → Int32 → Prop) (L234 : St → Int64 → Int32 → Int32 → Prop) (K : Int64 → St → Prop) (f : St) (x4 : Int64) (x6 : Int32) : Prop :=
  kX8_of P f a p3 1 (fun r91 g91 => (r91 ≤ x6 → kX8_looseLength P g91 a p3 (fun r139 g139 => L147 g139 x4 r139 0)) ∧ (¬ r91 ≤ x6 → L100 g91 x4 x6 0))
def bX8_digestLoaf_100 (P : Sk) (a : Nat) (p1 : Int64) (p3 : Int32) (L6 : St → Int64 → Int32 → Prop) (L54 : St → Int64 → Int32 → Prop) (L86 : St → Int64 → Int32 → Prop) (L100 : St → Int64 → Int32 → Int32 → Prop) (L147 : St → Int64 → Int32 → Int32 → Prop) (L180 : St → Int64 → Int32 → Int32 → Prop) (L194 : St → Int64 → Int32 → Int32 → Int32 → Prop) (L234 : St → Int64 → Int32 → Int32 → Prop) (K : Int64 → St → Prop) (f : St) (x4 : Int64) (x6 : Int32) (x7 : Int32) : Prop :=
  (4 ≤ x7 → ∀ x6_131 : Int32, x6_131 = x6 + 1 → L86 f x4 x6_131) ∧ (¬ 4 ≤ x7 → kX8_tellsCrossing P f a p3 x6 x7 (fun r118 g118 => ∀ x4_123 : Int64, x4_123 = (31 * x4) + (r118.toInt64) → ∀ x7_125 : Int32, x7_125 = x7 + 1 → L100 g118 x4_123 x6 x7_125))
def bX8_digestLoaf_147 (P : Sk) (a : Nat) (p1 : Int64) (p3 : Int32) (L6 : St → Int64 → Int32 → Prop) (L54 : St → Int64 → Int32 → Prop) (L86 : St → Int64 → Int32 → Prop) (L100 : St → Int64 → Int32 → Int32 → Prop) (L147 : St → Int64 → Int32 → Int32 → Prop) (L180 : St → Int64 → Int32 → Int32 → Prop) (L194 : St → Int64 → Int32 → Int32 → Int32 → Prop) (L234 : St → Int64 → Int32 → Int32 → Prop) (K : Int64 → St → Prop) (f : St) (x4 : Int64) (x6 : Int32) (x7 : Int32) : Prop :=
  (x6 ≤ x7 → L180 f x4 x6 0) ∧ (¬ x6 ≤ x7 → vp_in x7 50 ∧ (∀ x4_169 : Int64, x4_169 = (31 * x4) + ((f (a + 5) x7.toNatClampNeg : Int32).toInt64) → ∀ x7_171 : Int32, x7_171 = x7 + 1 → L147 f x4_169 x6 x7_171))
def bX8_digestLoaf_180 (P : Sk) (a : Nat) (p1 : Int64) (p3 : Int32) (L6 : St → Int64 → Int32 → Prop) (L54 : St → Int64 → Int32 → Prop) (L86 : St → Int64 → Int32 → Prop) (L100 : St → Int64 → Int32 → Int32 → Prop) (L147 : St → Int64 → Int32 → Int32 → Prop) (L180 : St → Int64 → Int32 → Int32 → Prop) (L194 : St → Int64 → Int32 → Int32 → Int32 → Prop) (L234 : St → Int64 → Int32 → Int32 → Prop) (K : Int64 → St → Prop) (f : St) (x4 : Int64) (x6 : Int32) (x7 : Int32) : Prop :=
  kX8_of P f a p3 0 (fun r185 g185 => (r185 ≤ x7 → L234 g185 x4 x6 0) ∧ (¬ r185 ≤ x7 → L194 g185 x4 x6 x7 0))
def bX8_digestLoaf_194 (P : Sk) (a : Nat) (p1 : Int64) (p3 : Int32) (L6 : St → Int64 → Int32 → Prop) (L54 : St → Int64 → Int32 → Prop) (L86 : St → Int64 → Int32 → Prop) (L100 : St → Int64 → Int32 → Int32 → Prop) (L147 : St → Int64 → Int32 → Int32 → Prop) (L180 : St → Int64 → Int32 → Int32 → Prop) (L194 : St → Int64 → Int32 → Int32 → Int32 → Prop) (L234 : St → Int64 → Int32 → Int32 → Prop) (K : Int64 → St → Prop) (f : St) (x4 : Int64) (x6 : Int32) (x7 : Int32) (x8 : Int32) : Prop :=
  (5 ≤ x8 → ∀ x7_225 : Int32, x7_225 = x7 + 1 → L180 f x4 x6 x7_225) ∧ (¬ 5 ≤ x8 → kX8_tellsStrand P f a p3 x7 x8 (fun r212 g212 => ∀ x4_217 : Int64, x4_217 = (31 * x4) + (r212.toInt64) → ∀ x8_219 : Int32, x8_219 = x8 + 1 → L194 g212 x4_217 x6 x7 x8_219))
def bX8_digestLoaf_234 (P : Sk) (a : Nat) (p1 : Int64) (p3 : Int32) (L6 : St → Int64 → Int32 → Prop) (L54 : St → Int64 → Int32 → Prop) (L86 : St → Int64 → Int32 → Prop) (L100 : St → Int64 → Int32 → Int32 → Prop) (L147 : St → Int64 → Int32 → Int32 → Prop) (L180 : St → Int64 → Int32 → Int32 → Prop) (L194 : St → Int64 → Int32 → Int32 → Int32 → Prop) (L234 : St → Int64 → Int32 → Int32 → Prop) (K : Int64 → St → Prop) (f : St) (x4 : Int64) (x6 : Int32) (x7 : Int32) : Prop :=
  vp_in 0 160 ∧ ((f (a + 1) ((0 : Int32)).toNatClampNeg ≤ x7 → K x4 f) ∧ (¬ f (a + 1) ((0 : Int32)).toNatClampNeg ≤ x7 → kX8_likeness P f a p3 x7 (fun r255 g255 => ∀ x4_260 : Int64, x4_260 = (31 * x4) + (r255.toInt64) → ∀ x7_262 : Int32, x7_262 = x7 + 1 → L234 g255 x4_260 x6 x7_262)))
def vX8_digestLoaf (P : Sk) (f : St) (a : Nat) (p1 : Int64) (p3 : Int32) (L6 : St → Int64 → Int32 → Prop) (L54 : St → Int64 → Int32 → Prop) (L86 : St → Int64 → Int32 → Prop) (L100 : St → Int64 → Int32 → Int32 → Prop) (L147 : St → Int64 → Int32 → Int32 → Prop) (L180 : St → Int64 → Int32 → Int32 → Prop) (L194 : St → Int64 → Int32 → Int32 → Int32 → Prop) (L234 : St → Int64 → Int32 → Int32 → Prop) (K : Int64 → St → Prop) : Prop :=
  L6 f p1 0
set_option maxRecDepth 20000 in
set_option maxHeartbeats 4000000 in
theorem mX8_digestLoaf (l : Launch) (G : Gl) (P : Sk) (f : St) (sz : Nat) (a : Nat) (ha : IsModel P a) (p1 : Int64) (p3 : Int32) (K : Int64 → St → Prop) (I6 : St → Int64 → Int32 → Prop) (μ6 : St → Int64 → Int32 → Nat) (I54 : St → Int64 → Int32 → Prop) (μ54 : St → Int64 → Int32 → Nat) (I86 : St → Int64 → Int32 → Prop) (μ86 : St → Int64 → Int32 → Nat) (I100 : St → Int64 → Int32 → Int32 → Prop) (μ100 : St → Int64 → Int32 → Int32 → Nat) (I147 : St → Int64 → Int32 → Int32 → Prop) (μ147 : St → Int64 → Int32 → Int32 → Nat) (I180 : St → Int64 → Int32 → Int32 → Prop) (μ180 : St → Int64 → Int32 → Int32 → Nat) (I194 : St → Int64 → Int32 → Int32 → Int32 → Prop) (μ194 : St → Int64 → Int32 → Int32 → Int32 → Nat) (I234 : St → Int64 → Int32 → Int32 → Prop) (μ234 : St → Int64 → Int32 → Int32 → Nat) 
  (h : vX8_digestLoaf P f a p1 p3 I6 I54 I86 I100 I147 I180 I194 I234 K)
  (h6 : ∀ (g : St) (x4 : Int64) (x6 : Int32) , I6 g x4 x6 → bX8_digestLoaf_6 P a p1 p3 (fun g' z0 z1 => I6 g' z0 z1 ∧ μ6 g' z0 z1 < μ6 g x4 x6) (fun g' z0 z1 => I54 g' z0 z1 ∧ μ54 g' z0 z1 < μ6 g x4 x6) (fun g' z0 z1 => I86 g' z0 z1 ∧ μ86 g' z0 z1 < μ6 g x4 x6) (fun g' z0 z1 z2 => I100 g' z0 z1 z2 ∧ μ100 g' z0 z1 z2 < μ6 g x4 x6) (fun g' z0 z1 z2 => I147 g' z0 z1 z2 ∧ μ147 g' z0 z1 z2 < μ6 g x4 x6) (fun g' z0 z1 z2 => I180 g' z0 z1 z2 ∧ μ180 g' z0 z1 z2 < μ6 g x4 x6) (fun g' z0 z1 z2 z3 => I194 g' z0 z1 z2 z3 ∧ μ194 g' z0 z1 z2 z3 < μ6 g x4 x6) (fun g' z0 z1 z2 => I234 g' z0 z1 z2 ∧ μ234 g' z0 z1 z2 < μ6 g x4 x6) K g x4 x6)
  (h54 : ∀ (g : St) (x4 : Int64) (x6 : Int32) , I54 g x4 x6 → bX8_digestLoaf_54 P a p1 p3 (fun g' z0 z1 => I6 g' z0 z1 ∧ μ6 g' z0 z1 < μ54 g x4 x6) (fun g' z0 z1 => I54 g' z0 z1 ∧ μ54 g' z0 z1 < μ54 g x4 x6) (fun g' z0 z1 => I86 g' z0 z1 ∧ μ86 g' z0 z1 < μ54 g x4 x6) (fun g' z0 z1 z2 => I100 g' z0 z1 z2 ∧ μ100 g' z0 z1 z2 < μ54 g x4 x6) (fun g' z0 z1 z2 => I147 g' z0 z1 z2 ∧ μ147 g' z0 z1 z2 < μ54 g x4 x6) (fun g' z0 z1 z2 => I180 g' z0 z1 z2 ∧ μ180 g' z0 z1 z2 < μ54 g x4 x6) (fun g' z0 z1 z2 z3 => I194 g' z0 z1 z2 z3 ∧ μ194 g' z0 z1 z2 z3 < μ54 g x4 x6) (fun g' z0 z1 z2 => I234 g' z0 z1 z2 ∧ μ234 g' z0 z1 z2 < μ54 g x4 x6) K g x4 x6)
  (h86 : ∀ (g : St) (x4 : Int64) (x6 : Int32) , I86 g x4 x6 → bX8_digestLoaf_86 P a p1 p3 (fun g' z0 z1 => I6 g' z0 z1 ∧ μ6 g' z0 z1 < μ86 g x4 x6) (fun g' z0 z1 => I54 g' z0 z1 ∧ μ54 g' z0 z1 < μ86 g x4 x6) (fun g' z0 z1 => I86 g' z0 z1 ∧ μ86 g' z0 z1 < μ86 g x4 x6) (fun g' z0 z1 z2 => I100 g' z0 z1 z2 ∧ μ100 g' z0 z1 z2 < μ86 g x4 x6) (fun g' z0 z1 z2 => I147 g' z0 z1 z2 ∧ μ147 g' z0 z1 z2 < μ86 g x4 x6) (fun g' z0 z1 z2 => I180 g' z0 z1 z2 ∧ μ180 g' z0 z1 z2 < μ86 g x4 x6) (fun g' z0 z1 z2 z3 => I194 g' z0 z1 z2 z3 ∧ μ194 g' z0 z1 z2 z3 < μ86 g x4 x6) (fun g' z0 z1 z2 => I234 g' z0 z1 z2 ∧ μ234 g' z0 z1 z2 < μ86 g x4 x6) K g x4 x6)
  (h100 : ∀ (g : St) (x4 : Int64) (x6 : Int32) (x7 : Int32) , I100 g x4 x6 x7 → bX8_digestLoaf_100 P a p1 p3 (fun g' z0 z1 => I6 g' z0 z1 ∧ μ6 g' z0 z1 < μ100 g x4 x6 x7) (fun g' z0 z1 => I54 g' z0 z1 ∧ μ54 g' z0 z1 < μ100 g x4 x6 x7) (fun g' z0 z1 => I86 g' z0 z1 ∧ μ86 g' z0 z1 < μ100 g x4 x6 x7) (fun g' z0 z1 z2 => I100 g' z0 z1 z2 ∧ μ100 g' z0 z1 z2 < μ100 g x4 x6 x7) (fun g' z0 z1 z2 => I147 g' z0 z1 z2 ∧ μ147 g' z0 z1 z2 < μ100 g x4 x6 x7) (fun g' z0 z1 z2 => I180 g' z0 z1 z2 ∧ μ180 g' z0 z1 z2 < μ100 g x4 x6 x7) (fun g' z0 z1 z2 z3 => I194 g' z0 z1 z2 z3 ∧ μ194 g' z0 z1 z2 z3 < μ100 g x4 x6 x7) (fun g' z0 z1 z2 => I234 g' z0 z1 z2 ∧ μ234 g' z0 z1 z2 < μ100 g x4 x6 x7) K g x4 x6 x7)
  (h147 : ∀ (g : St) (x4 : Int64) (x6 : Int32) (x7 : Int32) , I147 g x4 x6 x7 → bX8_digestLoaf_147 P a p1 p3 (fun g' z0 z1 => I6 g' z0 z1 ∧ μ6 g' z0 z1 < μ147 g x4 x6 x7) (fun g' z0 z1 => I54 g' z0 z1 ∧ μ54 g' z0 z1 < μ147 g x4 x6 x7) (fun g' z0 z1 => I86 g' z0 z1 ∧ μ86 g' z0 z1 < μ147 g x4 x6 x7) (fun g' z0 z1 z2 => I100 g' z0 z1 z2 ∧ μ100 g' z0 z1 z2 < μ147 g x4 x6 x7) (fun g' z0 z1 z2 => I147 g' z0 z1 z2 ∧ μ147 g' z0 z1 z2 < μ147 g x4 x6 x7) (fun g' z0 z1 z2 => I180 g' z0 z1 z2 ∧ μ180 g' z0 z1 z2 < μ147 g x4 x6 x7) (fun g' z0 z1 z2 z3 => I194 g' z0 z1 z2 z3 ∧ μ194 g' z0 z1 z2 z3 < μ147 g x4 x6 x7) (fun g' z0 z1 z2 => I234 g' z0 z1 z2 ∧ μ234 g' z0 z1 z2 < μ147 g x4 x6 x7) K g x4 x6 x7)
  (h180 : ∀ (g : St) (x4 : Int64) (x6 : Int32) (x7 : Int32) , I180 g x4 x6 x7 → bX8_digestLoaf_180 P a p1 p3 (fun g' z0 z1 => I6 g' z0 z1 ∧ μ6 g' z0 z1 < μ180 g x4 x6 x7) (fun g' z0 z1 => I54 g' z0 z1 ∧ μ54 g' z0 z1 < μ180 g x4 x6 x7) (fun g' z0 z1 => I86 g' z0 z1 ∧ μ86 g' z0 z1 < μ180 g x4 x6 x7) (fun g' z0 z1 z2 => I100 g' z0 z1 z2 ∧ μ100 g' z0 z1 z2 < μ180 g x4 x6 x7) (fun g' z0 z1 z2 => I147 g' z0 z1 z2 ∧ μ147 g' z0 z1 z2 < μ180 g x4 x6 x7) (fun g' z0 z1 z2 => I180 g' z0 z1 z2 ∧ μ180 g' z0 z1 z2 < μ180 g x4 x6 x7) (fun g' z0 z1 z2 z3 => I194 g' z0 z1 z2 z3 ∧ μ194 g' z0 z1 z2 z3 < μ180 g x4 x6 x7) (fun g' z0 z1 z2 => I234 g' z0 z1 z2 ∧ μ234 g' z0 z1 z2 < μ180 g x4 x6 x7) K g x4 x6 x7)
  (h194 : ∀ (g : St) (x4 : Int64) (x6 : Int32) (x7 : Int32) (x8 : Int32) , I194 g x4 x6 x7 x8 → bX8_digestLoaf_194 P a p1 p3 (fun g' z0 z1 => I6 g' z0 z1 ∧ μ6 g' z0 z1 < μ194 g x4 x6 x7 x8) (fun g' z0 z1 => I54 g' z0 z1 ∧ μ54 g' z0 z1 < μ194 g x4 x6 x7 x8) (fun g' z0 z1 => I86 g' z0 z1 ∧ μ86 g' z0 z1 < μ194 g x4 x6 x7 x8) (fun g' z0 z1 z2 => I100 g' z0 z1 z2 ∧ μ100 g' z0 z1 z2 < μ194 g x4 x6 x7 x8) (fun g' z0 z1 z2 => I147 g' z0 z1 z2 ∧ μ147 g' z0 z1 z2 < μ194 g x4 x6 x7 x8) (fun g' z0 z1 z2 => I180 g' z0 z1 z2 ∧ μ180 g' z0 z1 z2 < μ194 g x4 x6 x7 x8) (fun g' z0 z1 z2 z3 => I194 g' z0 z1 z2 z3 ∧ μ194 g' z0 z1 z2 z3 < μ194 g x4 x6 x7 x8) (fun g' z0 z1 z2 => I234 g' z0 z1 z2 ∧ μ234 g' z0 z1 z2 < μ194 g x4 x6 x7 x8) K g x4 x6 x7 x8)
  (h234 : ∀ (g : St) (x4 : Int64) (x6 : Int32) (x7 : Int32) , I234 g x4 x6 x7 → bX8_digestLoaf_234 P a p1 p3 (fun g' z0 z1 => I6 g' z0 z1 ∧ μ6 g' z0 z1 < μ234 g x4 x6 x7) (fun g' z0 z1 => I54 g' z0 z1 ∧ μ54 g' z0 z1 < μ234 g x4 x6 x7) (fun g' z0 z1 => I86 g' z0 z1 ∧ μ86 g' z0 z1 < μ234 g x4 x6 x7) (fun g' z0 z1 z2 => I100 g' z0 z1 z2 ∧ μ100 g' z0 z1 z2 < μ234 g x4 x6 x7) (fun g' z0 z1 z2 => I147 g' z0 z1 z2 ∧ μ147 g' z0 z1 z2 < μ234 g x4 x6 x7) (fun g' z0 z1 z2 => I180 g' z0 z1 z2 ∧ μ180 g' z0 z1 z2 < μ234 g x4 x6 x7) (fun g' z0 z1 z2 z3 => I194 g' z0 z1 z2 z3 ∧ μ194 g' z0 z1 z2 z3 < μ234 g x4 x6 x7) (fun g' z0 z1 z2 => I234 g' z0 z1 z2 ∧ μ234 g' z0 z1 z2 < μ234 g x4 x6 x7) K g x4 x6 x7) :
  Met l yX8_digestLoaf (wU yX8_digestLoaf cX8_digestLoaf 9 (some .long)) rmX8_digestLoaf (PcW G P f sz [.ref a, .long p1, .int p3]) (QcL G P sz K) 0 0 (frA P sz) := by
  refine v_met (own := RX8) [.ref a, .long p1, .int p3] (by decide +kernel) rfl (Nat.le_of_ble_eq_true rfl) (fun p e s m args below meth c hsz o hr hnm => ?_)
  refine v_lv (lv2 := [(0, .ref a), (1, .long p1), (3, .int p3)]) rfl ?_
  have main : ∀ n : Nat, (∀ (g : St) (x4 : Int64) (x6 : Int32) , I6 g x4 x6 → μ6 g x4 x6 < n → V p l e rmX8_digestLoaf s m args below meth c 9 G (frA P sz) (MQ below (QcL G P sz K) args s 0 0 (frA P sz)) 0 0 P [(0, .ref a), (1, .long p1), (3, .int p3), (4, .long x4), (6, .int x6)] [] 6 g) ∧ (∀ (g : St) (x4 : Int64) (x6 : Int32) , I54 g x4 x6 → μ54 g x4 x6 < n → V p l e rmX8_digestLoaf s m args below meth c 9 G (frA P sz) (MQ below (QcL G P sz K) args s 0 0 (frA P sz)) 0 0 P [(0, .ref a), (1, .long p1), (3, .int p3), (4, .long x4), (6, .int x6)] [] 54 g) ∧ (∀ (g : St) (x4 : Int64) (x6 : Int32) , I86 g x4 x6 → μ86 g x4 x6 < n → V p l e rmX8_digestLoaf s m args below meth c 9 G (frA P sz) (MQ below (QcL G P sz K) args s 0 0 (frA P sz)) 0 0 P [(0, .ref a), (1, .long p1), (3, .int p3), (4, .long x4), (6, .int x6)] [] 86 g) ∧ (∀ (g : St) (x4 : Int64) (x6 : Int32) (x7 : Int32) , I100 g x4 x6 x7 → μ100 g x4 x6 x7 < n → V p l e rmX8_digestLoaf s m args below meth c 9 G (frA P sz) (MQ below (QcL G P sz K) args s 0 0 (frA P sz)) 0 0 P [(0, .ref a), (1, .long p1), (3, .int p3), (4, .long x4), (6, .int x6), (7, .int x7)] [] 100 g) ∧ (∀ (g : St) (x4 : Int64) (x6 : Int32) (x7 : Int32) , I147 g x4 x6 x7 → μ147 g x4 x6 x7 < n → V p l e rmX8_digestLoaf s m args below meth c 9 G (frA P sz) (MQ below (QcL G P sz K) args s 0 0 (frA P sz)) 0 0 P [(0, .ref a), (1, .long p1), (3, .int p3), (4, .long x4), (6, .int x6), (7, .int x7)] [] 147 g) ∧ (∀ (g : St) (x4 : Int64) (x6 : Int32) (x7 : Int32) , I180 g x4 x6 x7 → μ180 g x4 x6 x7 < n → V p l e rmX8_digestLoaf s m args below meth c 9 G (frA P sz) (MQ below (QcL G P sz K) args s 0 0 (frA P sz)) 0 0 P [(0, .ref a), (1, .long p1), (3, .int p3), (4, .long x4), (6, .int x6), (7, .int x7)] [] 180 g) ∧ (∀ (g : St) (x4 : Int64) (x6 : Int32) (x7 : Int32) (x8 : Int32) , I194 g x4 x6 x7 x8 → μ194 g x4 x6 x7 x8 < n → V p l e rmX8_digestLoaf s m args below meth c 9 G (frA P sz) (MQ below (QcL G P sz K) args s 0 0 (frA P sz)) 0 0 P [(0, .ref a), (1, .long p1), (3, .int p3), (4, .long x4), (6, .int x6), (7, .int x7), (8, .int x8)] [] 194 g) ∧ (∀ (g : St) (x4 : Int64) (x6 : Int32) (x7 : Int32) , I234 g x4 x6 x7 → μ234 g x4 x6 x7 < n → V p l e rmX8_digestLoaf s m args below meth c 9 G (frA P sz) (MQ below (QcL G P sz K) args s 0 0 (frA P sz)) 0 0 P [(0, .ref a), (1, .long p1), (3, .int p3), (4, .long x4), (6, .int x6), (7, .int x7)] [] 234 g) := by
    intro n
    induction n with
    | zero => exact ⟨fun g x4 x6 hI hm => absurd hm (Nat.not_lt_zero _), fun g x4 x6 hI hm => absurd hm (Nat.not_lt_zero _), fun g x4 x6 hI hm => absurd hm (Nat.not_lt_zero _), fun g x4 x6 x7 hI hm => absurd hm (Nat.not_lt_zero _), fun g x4 x6 x7 hI hm => absurd hm (Nat.not_lt_zero _), fun g x4 x6 x7 hI hm => absurd hm (Nat.not_lt_zero _), fun g x4 x6 x7 x8 hI hm => absurd hm (Nat.not_lt_zero _), fun g x4 x6 x7 hI hm => absurd hm (Nat.not_lt_zero _)⟩
    | succ n ih =>
      refine ⟨?_, ?_, ?_, ?_, ?_, ?_, ?_, ?_⟩
      · intro g x4 x6 hI hm
        have h := h6 g x4 x6 hI
        clear hI
        unfold bX8_digestLoaf_6 at h
        refine v_iload o 4 dX8_digestLoaf_6 rfl ?_
        refine v_bipush o (v := 11) dX8_digestLoaf_8 (by decide) ?_
        refine v_icmp_ge o (tgt := 36) dX8_digestLoaf_10 (by decide) (fun c10 => ?_) (fun c10 => ?_)
        · replace h := h.1 c10
          refine v_ldc2 o (v := 31) dX8_digestLoaf_36 (mU 1403 (by decide +kernel) rfl) ?_
          refine v_lload o 3 dX8_digestLoaf_39 rfl ?_
          refine v_lmul o dX8_digestLoaf_41 ?_
          refine v_aload_n o 0 dX8_digestLoaf_42 rfl ?_
          refine v_iload_n o 2 dX8_digestLoaf_43 rfl ?_
          refine v_cVi o [.int p3] [.long (31 * x4)] (fun sz => metX8_periodOf l G P g sz a ha p3 _ h) (cwX8_250 o.1.2.2.2.2 (by decide)) ⟨_, _, rfl⟩ (by decide) (wfModel_o ha) rfl (Nat.le_of_ble_eq_true rfl) ⟨Nat.zero_le _, Nat.zero_le _⟩ dX8_digestLoaf_44 rfl (fun r44 g44 h => ?_)
          refine v_i2l o dX8_digestLoaf_47 ?_
          refine v_ladd o dX8_digestLoaf_48 ?_
          refine v_topl (fun x4_49 ex4_49 => ?_)
          replace h := h x4_49 ex4_49
          refine v_lstore o (lv' := [(4, .long x4_49), (0, .ref a), (1, .long p1), (3, .int p3), (6, .int x6)]) dX8_digestLoaf_49 (by decide) rfl ?_
          refine v_iconst o (v := 0) dX8_digestLoaf_51 (by decide) ?_
          refine v_istore o (lv' := [(6, .int 0), (4, .long x4_49), (0, .ref a), (1, .long p1), (3, .int p3)]) dX8_digestLoaf_52 (by decide) rfl ?_
          refine v_sub [2, 3, 4, 1, 0] (lv2 := [(0, .ref a), (1, .long p1), (3, .int p3), (4, .long x4_49), (6, .int 0)]) rfl ?_
          exact ih.2.1 g44 x4_49 0  h.1 (by have := h.2; omega)
        · replace h := h.2 c10
          refine v_ldc2 o (v := 31) dX8_digestLoaf_13 (mU 1403 (by decide +kernel) rfl) ?_
          refine v_lload o 3 dX8_digestLoaf_16 rfl ?_
          refine v_lmul o dX8_digestLoaf_18 ?_
          refine v_aload_n o 0 dX8_digestLoaf_19 rfl ?_
          refine v_iload_n o 2 dX8_digestLoaf_20 rfl ?_
          refine v_iload o 4 dX8_digestLoaf_21 rfl ?_
          refine v_cVi o [.int p3, .int x6] [.long (31 * x4)] (fun sz => metX8_tellsLoaf l G P g sz a ha p3 x6 _ h) (cwX8_226 o.1.2.2.2.2 (by decide)) ⟨_, _, rfl⟩ (by decide) (wfModel_o ha) rfl (Nat.le_of_ble_eq_true rfl) ⟨Nat.zero_le _, Nat.zero_le _⟩ dX8_digestLoaf_23 rfl (fun r23 g23 h => ?_)
          refine v_i2l o dX8_digestLoaf_26 ?_
          refine v_ladd o dX8_digestLoaf_27 ?_
          refine v_topl (fun x4_28 ex4_28 => ?_)
          replace h := h x4_28 ex4_28
          refine v_lstore o (lv' := [(4, .long x4_28), (0, .ref a), (1, .long p1), (3, .int p3), (6, .int x6)]) dX8_digestLoaf_28 (by decide) rfl ?_
          obtain ⟨x6_30, ex6_30⟩ : ∃ y : Int32, y = x6 + 1 := ⟨_, rfl⟩
          replace h := h x6_30 ex6_30
          refine v_iinc o (v := x6_30) (lv' := [(6, .int x6_30), (4, .long x4_28), (0, .ref a), (1, .long p1), (3, .int p3)]) 4 dX8_digestLoaf_30 rfl (by rw [ex6_30]; rfl) (by decide) rfl ?_
          refine v_goto o (tgt := 6) dX8_digestLoaf_33 (by decide) ?_
          refine v_sub [2, 3, 4, 1, 0] (lv2 := [(0, .ref a), (1, .long p1), (3, .int p3), (4, .long x4_28), (6, .int x6_30)]) rfl ?_
          exact ih.1 g23 x4_28 x6_30  h.1 (by have := h.2; omega)
      · intro g x4 x6 hI hm
        have h := h54 g x4 x6 hI
        clear hI
        unfold bX8_digestLoaf_54 at h
        refine v_iload o 4 dX8_digestLoaf_54 rfl ?_
        refine v_iconst o (v := 4) dX8_digestLoaf_56 (by decide) ?_
        refine v_icmp_ge o (tgt := 83) dX8_digestLoaf_57 (by decide) (fun c57 => ?_) (fun c57 => ?_)
        · replace h := h.1 c57
          refine v_iconst o (v := 0) dX8_digestLoaf_83 (by decide) ?_
          refine v_istore o (lv' := [(6, .int 0), (0, .ref a), (1, .long p1), (3, .int p3), (4, .long x4)]) dX8_digestLoaf_84 (by decide) rfl ?_
          refine v_sub [1, 2, 3, 4, 0] (lv2 := [(0, .ref a), (1, .long p1), (3, .int p3), (4, .long x4), (6, .int 0)]) rfl ?_
          exact ih.2.2.1 g x4 0  h.1 (by have := h.2; omega)
        · replace h := h.2 c57
          refine v_ldc2 o (v := 31) dX8_digestLoaf_60 (mU 1403 (by decide +kernel) rfl) ?_
          refine v_lload o 3 dX8_digestLoaf_63 rfl ?_
          refine v_lmul o dX8_digestLoaf_65 ?_
          refine v_aload_n o 0 dX8_digestLoaf_66 rfl ?_
          refine v_iload_n o 2 dX8_digestLoaf_67 rfl ?_
          refine v_iload o 4 dX8_digestLoaf_68 rfl ?_
          refine v_cVi o [.int p3, .int x6] [.long (31 * x4)] (fun sz => metX8_looseBehind l G P g sz a ha p3 x6 _ h) (cwX8_241 o.1.2.2.2.2 (by decide)) ⟨_, _, rfl⟩ (by decide) (wfModel_o ha) rfl (Nat.le_of_ble_eq_true rfl) ⟨Nat.zero_le _, Nat.zero_le _⟩ dX8_digestLoaf_70 rfl (fun r70 g70 h => ?_)
          refine v_i2l o dX8_digestLoaf_73 ?_
          refine v_ladd o dX8_digestLoaf_74 ?_
          refine v_topl (fun x4_75 ex4_75 => ?_)
          replace h := h x4_75 ex4_75
          refine v_lstore o (lv' := [(4, .long x4_75), (0, .ref a), (1, .long p1), (3, .int p3), (6, .int x6)]) dX8_digestLoaf_75 (by decide) rfl ?_
          obtain ⟨x6_77, ex6_77⟩ : ∃ y : Int32, y = x6 + 1 := ⟨_, rfl⟩
          replace h := h x6_77 ex6_77
          refine v_iinc o (v := x6_77) (lv' := [(6, .int x6_77), (4, .long x4_75), (0, .ref a), (1, .long p1), (3, .int p3)]) 4 dX8_digestLoaf_77 rfl (by rw [ex6_77]; rfl) (by decide) rfl ?_
          refine v_goto o (tgt := 54) dX8_digestLoaf_80 (by decide) ?_
          refine v_sub [2, 3, 4, 1, 0] (lv2 := [(0, .ref a), (1, .long p1), (3, .int p3), (4, .long x4_75), (6, .int x6_77)]) rfl ?_
          exact ih.2.1 g70 x4_75 x6_77  h.1 (by have := h.2; omega)
      · intro g x4 x6 hI hm
        have h := h86 g x4 x6 hI
        clear hI
        unfold bX8_digestLoaf_86 at h
        refine v_iload o 4 dX8_digestLoaf_86 rfl ?_
        refine v_aload_n o 0 dX8_digestLoaf_88 rfl ?_
        refine v_iload_n o 2 dX8_digestLoaf_89 rfl ?_
        refine v_iconst o (v := 1) dX8_digestLoaf_90 (by decide) ?_
        refine v_cVi o [.int p3, .int 1] [.int x6] (fun sz => metX8_of l G P g sz a ha p3 1 _ h) (cwX8_51 o.1.2.2.2.2 (by decide)) ⟨_, _, rfl⟩ (by decide) (wfModel_o ha) rfl (Nat.le_of_ble_eq_true rfl) ⟨Nat.zero_le _, Nat.zero_le _⟩ dX8_digestLoaf_91 rfl (fun r91 g91 h => ?_)
        refine v_icmp_ge o (tgt := 137) dX8_digestLoaf_94 (by decide) (fun c94 => ?_) (fun c94 => ?_)
        · replace h := h.1 c94
          refine v_aload_n o 0 dX8_digestLoaf_137 rfl ?_
          refine v_iload_n o 2 dX8_digestLoaf_138 rfl ?_
          refine v_cVi o [.int p3] [] (fun sz => metX8_looseLength l G P g91 sz a ha p3 _ h) (cwX8_217 o.1.2.2.2.2 (by decide)) ⟨_, _, rfl⟩ (by decide) (wfModel_o ha) rfl (Nat.le_of_ble_eq_true rfl) ⟨Nat.zero_le _, Nat.zero_le _⟩ dX8_digestLoaf_139 rfl (fun r139 g139 h => ?_)
          refine v_istore o (lv' := [(6, .int r139), (0, .ref a), (1, .long p1), (3, .int p3), (4, .long x4)]) dX8_digestLoaf_142 (by decide) rfl ?_
          refine v_iconst o (v := 0) dX8_digestLoaf_144 (by decide) ?_
          refine v_istore o (lv' := [(7, .int 0), (6, .int r139), (0, .ref a), (1, .long p1), (3, .int p3), (4, .long x4)]) dX8_digestLoaf_145 (by decide) rfl ?_
          refine v_sub [2, 3, 4, 5, 1, 0] (lv2 := [(0, .ref a), (1, .long p1), (3, .int p3), (4, .long x4), (6, .int r139), (7, .int 0)]) rfl ?_
          exact ih.2.2.2.2.1 g139 x4 r139 0  h.1 (by have := h.2; omega)
        · replace h := h.2 c94
          refine v_iconst o (v := 0) dX8_digestLoaf_97 (by decide) ?_
          refine v_istore o (lv' := [(7, .int 0), (0, .ref a), (1, .long p1), (3, .int p3), (4, .long x4), (6, .int x6)]) dX8_digestLoaf_98 (by decide) rfl ?_
          refine v_sub [1, 2, 3, 4, 5, 0] (lv2 := [(0, .ref a), (1, .long p1), (3, .int p3), (4, .long x4), (6, .int x6), (7, .int 0)]) rfl ?_
          exact ih.2.2.2.1 g91 x4 x6 0  h.1 (by have := h.2; omega)
      · intro g x4 x6 x7 hI hm
        have h := h100 g x4 x6 x7 hI
        clear hI
        unfold bX8_digestLoaf_100 at h
        refine v_iload o 5 dX8_digestLoaf_100 rfl ?_
        refine v_iconst o (v := 4) dX8_digestLoaf_102 (by decide) ?_
        refine v_icmp_ge o (tgt := 131) dX8_digestLoaf_103 (by decide) (fun c103 => ?_) (fun c103 => ?_)
        · replace h := h.1 c103
          obtain ⟨x6_131, ex6_131⟩ : ∃ y : Int32, y = x6 + 1 := ⟨_, rfl⟩
          replace h := h x6_131 ex6_131
          refine v_iinc o (v := x6_131) (lv' := [(6, .int x6_131), (0, .ref a), (1, .long p1), (3, .int p3), (4, .long x4), (7, .int x7)]) 4 dX8_digestLoaf_131 rfl (by rw [ex6_131]; rfl) (by decide) rfl ?_
          refine v_goto o (tgt := 86) dX8_digestLoaf_134 (by decide) ?_
          refine v_sub [1, 2, 3, 4, 0] (lv2 := [(0, .ref a), (1, .long p1), (3, .int p3), (4, .long x4), (6, .int x6_131)]) rfl ?_
          exact ih.2.2.1 g x4 x6_131  h.1 (by have := h.2; omega)
        · replace h := h.2 c103
          refine v_ldc2 o (v := 31) dX8_digestLoaf_106 (mU 1403 (by decide +kernel) rfl) ?_
          refine v_lload o 3 dX8_digestLoaf_109 rfl ?_
          refine v_lmul o dX8_digestLoaf_111 ?_
          refine v_aload_n o 0 dX8_digestLoaf_112 rfl ?_
          refine v_iload_n o 2 dX8_digestLoaf_113 rfl ?_
          refine v_iload o 4 dX8_digestLoaf_114 rfl ?_
          refine v_iload o 5 dX8_digestLoaf_116 rfl ?_
          refine v_cVi o [.int p3, .int x6, .int x7] [.long (31 * x4)] (fun sz => metX8_tellsCrossing l G P g sz a ha p3 x6 x7 _ h) (cwX8_186 o.1.2.2.2.2 (by decide)) ⟨_, _, rfl⟩ (by decide) (wfModel_o ha) rfl (Nat.le_of_ble_eq_true rfl) ⟨Nat.zero_le _, Nat.zero_le _⟩ dX8_digestLoaf_118 rfl (fun r118 g118 h => ?_)
          refine v_i2l o dX8_digestLoaf_121 ?_
          refine v_ladd o dX8_digestLoaf_122 ?_
          refine v_topl (fun x4_123 ex4_123 => ?_)
          replace h := h x4_123 ex4_123
          refine v_lstore o (lv' := [(4, .long x4_123), (0, .ref a), (1, .long p1), (3, .int p3), (6, .int x6), (7, .int x7)]) dX8_digestLoaf_123 (by decide) rfl ?_
          obtain ⟨x7_125, ex7_125⟩ : ∃ y : Int32, y = x7 + 1 := ⟨_, rfl⟩
          replace h := h x7_125 ex7_125
          refine v_iinc o (v := x7_125) (lv' := [(7, .int x7_125), (4, .long x4_123), (0, .ref a), (1, .long p1), (3, .int p3), (6, .int x6)]) 5 dX8_digestLoaf_125 rfl (by rw [ex7_125]; rfl) (by decide) rfl ?_
          refine v_goto o (tgt := 100) dX8_digestLoaf_128 (by decide) ?_
          refine v_sub [2, 3, 4, 1, 5, 0] (lv2 := [(0, .ref a), (1, .long p1), (3, .int p3), (4, .long x4_123), (6, .int x6), (7, .int x7_125)]) rfl ?_
          exact ih.2.2.2.1 g118 x4_123 x6 x7_125  h.1 (by have := h.2; omega)
      · intro g x4 x6 x7 hI hm
        have h := h147 g x4 x6 x7 hI
        clear hI
        unfold bX8_digestLoaf_147 at h
        refine v_iload o 5 dX8_digestLoaf_147 rfl ?_
        refine v_iload o 4 dX8_digestLoaf_149 rfl ?_
        refine v_icmp_ge o (tgt := 177) dX8_digestLoaf_151 (by decide) (fun c151 => ?_) (fun c151 => ?_)
        · replace h := h.1 c151
          refine v_iconst o (v := 0) dX8_digestLoaf_177 (by decide) ?_
          refine v_istore o (lv' := [(7, .int 0), (0, .ref a), (1, .long p1), (3, .int p3), (4, .long x4), (6, .int x6)]) dX8_digestLoaf_178 (by decide) rfl ?_
          refine v_sub [1, 2, 3, 4, 5, 0] (lv2 := [(0, .ref a), (1, .long p1), (3, .int p3), (4, .long x4), (6, .int x6), (7, .int 0)]) rfl ?_
          exact ih.2.2.2.2.2.1 g x4 x6 0  h.1 (by have := h.2; omega)
        · replace h := h.2 c151
          refine v_ldc2 o (v := 31) dX8_digestLoaf_154 (mU 1403 (by decide +kernel) rfl) ?_
          refine v_lload o 3 dX8_digestLoaf_157 rfl ?_
          refine v_lmul o dX8_digestLoaf_159 ?_
          refine v_aload_n o 0 dX8_digestLoaf_160 rfl ?_
          refine v_gfR o lkX8_22 (by decide) (wfModel_o ha) (wfModel_r8 ha) dX8_digestLoaf_161 ?_
          refine v_iload o 5 dX8_digestLoaf_164 rfl ?_
          refine v_iald o (wfModel_t8 ha) (wfModel_n8 ha) h.1 dX8_digestLoaf_166 ?_
          replace h := h.2
          refine v_i2l o dX8_digestLoaf_167 ?_
          refine v_ladd o dX8_digestLoaf_168 ?_
          refine v_topl (fun x4_169 ex4_169 => ?_)
          replace h := h x4_169 ex4_169
          refine v_lstore o (lv' := [(4, .long x4_169), (0, .ref a), (1, .long p1), (3, .int p3), (6, .int x6), (7, .int x7)]) dX8_digestLoaf_169 (by decide) rfl ?_
          obtain ⟨x7_171, ex7_171⟩ : ∃ y : Int32, y = x7 + 1 := ⟨_, rfl⟩
          replace h := h x7_171 ex7_171
          refine v_iinc o (v := x7_171) (lv' := [(7, .int x7_171), (4, .long x4_169), (0, .ref a), (1, .long p1), (3, .int p3), (6, .int x6)]) 5 dX8_digestLoaf_171 rfl (by rw [ex7_171]; rfl) (by decide) rfl ?_
          refine v_goto o (tgt := 147) dX8_digestLoaf_174 (by decide) ?_
          refine v_sub [2, 3, 4, 1, 5, 0] (lv2 := [(0, .ref a), (1, .long p1), (3, .int p3), (4, .long x4_169), (6, .int x6), (7, .int x7_171)]) rfl ?_
          exact ih.2.2.2.2.1 g x4_169 x6 x7_171  h.1 (by have := h.2; omega)
      · intro g x4 x6 x7 hI hm
        have h := h180 g x4 x6 x7 hI
        clear hI
        unfold bX8_digestLoaf_180 at h
        refine v_iload o 5 dX8_digestLoaf_180 rfl ?_
        refine v_aload_n o 0 dX8_digestLoaf_182 rfl ?_
        refine v_iload_n o 2 dX8_digestLoaf_183 rfl ?_
        refine v_iconst o (v := 0) dX8_digestLoaf_184 (by decide) ?_
        refine v_cVi o [.int p3, .int 0] [.int x7] (fun sz => metX8_of l G P g sz a ha p3 0 _ h) (cwX8_51 o.1.2.2.2.2 (by decide)) ⟨_, _, rfl⟩ (by decide) (wfModel_o ha) rfl (Nat.le_of_ble_eq_true rfl) ⟨Nat.zero_le _, Nat.zero_le _⟩ dX8_digestLoaf_185 rfl (fun r185 g185 h => ?_)
        refine v_icmp_ge o (tgt := 231) dX8_digestLoaf_188 (by decide) (fun c188 => ?_) (fun c188 => ?_)
        · replace h := h.1 c188
          refine v_iconst o (v := 0) dX8_digestLoaf_231 (by decide) ?_
          refine v_istore o (lv' := [(7, .int 0), (0, .ref a), (1, .long p1), (3, .int p3), (4, .long x4), (6, .int x6)]) dX8_digestLoaf_232 (by decide) rfl ?_
          refine v_sub [1, 2, 3, 4, 5, 0] (lv2 := [(0, .ref a), (1, .long p1), (3, .int p3), (4, .long x4), (6, .int x6), (7, .int 0)]) rfl ?_
          exact ih.2.2.2.2.2.2.2 g185 x4 x6 0  h.1 (by have := h.2; omega)
        · replace h := h.2 c188
          refine v_iconst o (v := 0) dX8_digestLoaf_191 (by decide) ?_
          refine v_istore o (lv' := [(8, .int 0), (0, .ref a), (1, .long p1), (3, .int p3), (4, .long x4), (6, .int x6), (7, .int x7)]) dX8_digestLoaf_192 (by decide) rfl ?_
          refine v_sub [1, 2, 3, 4, 5, 6, 0] (lv2 := [(0, .ref a), (1, .long p1), (3, .int p3), (4, .long x4), (6, .int x6), (7, .int x7), (8, .int 0)]) rfl ?_
          exact ih.2.2.2.2.2.2.1 g185 x4 x6 x7 0  h.1 (by have := h.2; omega)
      · intro g x4 x6 x7 x8 hI hm
        have h := h194 g x4 x6 x7 x8 hI
        clear hI
        unfold bX8_digestLoaf_194 at h
        refine v_iload o 6 dX8_digestLoaf_194 rfl ?_
        refine v_iconst o (v := 5) dX8_digestLoaf_196 (by decide) ?_
        refine v_icmp_ge o (tgt := 225) dX8_digestLoaf_197 (by decide) (fun c197 => ?_) (fun c197 => ?_)
        · replace h := h.1 c197
          obtain ⟨x7_225, ex7_225⟩ : ∃ y : Int32, y = x7 + 1 := ⟨_, rfl⟩
          replace h := h x7_225 ex7_225
          refine v_iinc o (v := x7_225) (lv' := [(7, .int x7_225), (0, .ref a), (1, .long p1), (3, .int p3), (4, .long x4), (6, .int x6), (8, .int x8)]) 5 dX8_digestLoaf_225 rfl (by rw [ex7_225]; rfl) (by decide) rfl ?_
          refine v_goto o (tgt := 180) dX8_digestLoaf_228 (by decide) ?_
          refine v_sub [1, 2, 3, 4, 5, 0] (lv2 := [(0, .ref a), (1, .long p1), (3, .int p3), (4, .long x4), (6, .int x6), (7, .int x7_225)]) rfl ?_
          exact ih.2.2.2.2.2.1 g x4 x6 x7_225  h.1 (by have := h.2; omega)
        · replace h := h.2 c197
          refine v_ldc2 o (v := 31) dX8_digestLoaf_200 (mU 1403 (by decide +kernel) rfl) ?_
          refine v_lload o 3 dX8_digestLoaf_203 rfl ?_
          refine v_lmul o dX8_digestLoaf_205 ?_
          refine v_aload_n o 0 dX8_digestLoaf_206 rfl ?_
          refine v_iload_n o 2 dX8_digestLoaf_207 rfl ?_
          refine v_iload o 5 dX8_digestLoaf_208 rfl ?_
          refine v_iload o 6 dX8_digestLoaf_210 rfl ?_
          refine v_cVi o [.int p3, .int x7, .int x8] [.long (31 * x4)] (fun sz => metX8_tellsStrand l G P g sz a ha p3 x7 x8 _ h) (cwX8_192 o.1.2.2.2.2 (by decide)) ⟨_, _, rfl⟩ (by decide) (wfModel_o ha) rfl (Nat.le_of_ble_eq_true rfl) ⟨Nat.zero_le _, Nat.zero_le _⟩ dX8_digestLoaf_212 rfl (fun r212 g212 h => ?_)
          refine v_i2l o dX8_digestLoaf_215 ?_
          refine v_ladd o dX8_digestLoaf_216 ?_
          refine v_topl (fun x4_217 ex4_217 => ?_)
          replace h := h x4_217 ex4_217
          refine v_lstore o (lv' := [(4, .long x4_217), (0, .ref a), (1, .long p1), (3, .int p3), (6, .int x6), (7, .int x7), (8, .int x8)]) dX8_digestLoaf_217 (by decide) rfl ?_
          obtain ⟨x8_219, ex8_219⟩ : ∃ y : Int32, y = x8 + 1 := ⟨_, rfl⟩
          replace h := h x8_219 ex8_219
          refine v_iinc o (v := x8_219) (lv' := [(8, .int x8_219), (4, .long x4_217), (0, .ref a), (1, .long p1), (3, .int p3), (6, .int x6), (7, .int x7)]) 6 dX8_digestLoaf_219 rfl (by rw [ex8_219]; rfl) (by decide) rfl ?_
          refine v_goto o (tgt := 194) dX8_digestLoaf_222 (by decide) ?_
          refine v_sub [2, 3, 4, 1, 5, 6, 0] (lv2 := [(0, .ref a), (1, .long p1), (3, .int p3), (4, .long x4_217), (6, .int x6), (7, .int x7), (8, .int x8_219)]) rfl ?_
          exact ih.2.2.2.2.2.2.1 g212 x4_217 x6 x7 x8_219  h.1 (by have := h.2; omega)
      · intro g x4 x6 x7 hI hm
        have h := h234 g x4 x6 x7 hI
        clear hI
        unfold bX8_digestLoaf_234 at h
        refine v_iload o 5 dX8_digestLoaf_234 rfl ?_
        refine v_aload_n o 0 dX8_digestLoaf_236 rfl ?_
        refine v_gfR o lkX8_7 (by decide) (wfModel_o ha) (wfModel_r1 ha) dX8_digestLoaf_237 ?_
        refine v_iconst o (v := 0) dX8_digestLoaf_240 (by decide) ?_
        refine v_iald o (wfModel_t1 ha) (wfModel_n1 ha) h.1 dX8_digestLoaf_241 ?_
        replace h := h.2
        refine v_icmp_ge o (tgt := 268) dX8_digestLoaf_242 (by decide) (fun c242 => ?_) (fun c242 => ?_)
        · replace h := h.1 c242
          refine v_lload o 3 dX8_digestLoaf_268 rfl ?_
          exact v_lret o rfl hr dX8_digestLoaf_270 h
        · replace h := h.2 c242
          refine v_ldc2 o (v := 31) dX8_digestLoaf_245 (mU 1403 (by decide +kernel) rfl) ?_
          refine v_lload o 3 dX8_digestLoaf_248 rfl ?_
          refine v_lmul o dX8_digestLoaf_250 ?_
          refine v_aload_n o 0 dX8_digestLoaf_251 rfl ?_
          refine v_iload_n o 2 dX8_digestLoaf_252 rfl ?_
          refine v_iload o 5 dX8_digestLoaf_253 rfl ?_
          refine v_cVi o [.int p3, .int x7] [.long (31 * x4)] (fun sz => metX8_likeness l G P g sz a ha p3 x7 _ h) (cwX8_244 o.1.2.2.2.2 (by decide)) ⟨_, _, rfl⟩ (by decide) (wfModel_o ha) rfl (Nat.le_of_ble_eq_true rfl) ⟨Nat.zero_le _, Nat.zero_le _⟩ dX8_digestLoaf_255 rfl (fun r255 g255 h => ?_)
          refine v_i2l o dX8_digestLoaf_258 ?_
          refine v_ladd o dX8_digestLoaf_259 ?_
          refine v_topl (fun x4_260 ex4_260 => ?_)
          replace h := h x4_260 ex4_260
          refine v_lstore o (lv' := [(4, .long x4_260), (0, .ref a), (1, .long p1), (3, .int p3), (6, .int x6), (7, .int x7)]) dX8_digestLoaf_260 (by decide) rfl ?_
          obtain ⟨x7_262, ex7_262⟩ : ∃ y : Int32, y = x7 + 1 := ⟨_, rfl⟩
          replace h := h x7_262 ex7_262
          refine v_iinc o (v := x7_262) (lv' := [(7, .int x7_262), (4, .long x4_260), (0, .ref a), (1, .long p1), (3, .int p3), (6, .int x6)]) 5 dX8_digestLoaf_262 rfl (by rw [ex7_262]; rfl) (by decide) rfl ?_
          refine v_goto o (tgt := 234) dX8_digestLoaf_265 (by decide) ?_
          refine v_sub [2, 3, 4, 1, 5, 0] (lv2 := [(0, .ref a), (1, .long p1), (3, .int p3), (4, .long x4_260), (6, .int x6), (7, .int x7_262)]) rfl ?_
          exact ih.2.2.2.2.2.2.2 g255 x4_260 x6 x7_262  h.1 (by have := h.2; omega)
  unfold vX8_digestLoaf at h
  refine v_lload_n o 1 dX8_digestLoaf_0 rfl ?_
  refine v_lstore o (lv' := [(4, .long p1), (0, .ref a), (1, .long p1), (3, .int p3)]) dX8_digestLoaf_1 (by decide) rfl ?_
  refine v_iconst o (v := 0) dX8_digestLoaf_3 (by decide) ?_
  refine v_istore o (lv' := [(6, .int 0), (4, .long p1), (0, .ref a), (1, .long p1), (3, .int p3)]) dX8_digestLoaf_4 (by decide) rfl ?_
  refine v_sub [2, 3, 4, 1, 0] (lv2 := [(0, .ref a), (1, .long p1), (3, .int p3), (4, .long p1), (6, .int 0)]) rfl ?_
  exact (main (μ6 f p1 0 + 1)).1 f p1 0  h (Nat.lt_succ_self _)
def kX8_digestLoaf (P : Sk) (f : St) (a : Nat) (p1 : Int64) (p3 : Int32) (K : Int64 → St → Prop) : Prop := False
theorem metX8_digestLoaf (l : Launch) (G : Gl) (P : Sk) (f : St) (sz : Nat) (a : Nat) (ha : IsModel P a) (p1 : Int64) (p3 : Int32) (K : Int64 → St → Prop) (h : kX8_digestLoaf P f a p1 p3 K) : Met l yX8_digestLoaf (wU yX8_digestLoaf cX8_digestLoaf 9 (some .long)) rmX8_digestLoaf (PcW G P f sz [.ref a, .long p1, .int p3]) (QcL G P sz K) 0 0 (frA P sz) := sorry

def bX8_digest_11 (P : Sk) (a : Nat) (L11 : St → Int64 → Int32 → Prop) (L38 : St → Int64 → Int32 → Prop) (L115 : St → Int64 → Int32 → Prop) (K : Int64 → St → Prop) (f : St) (x1 : Int64) (x3 : Int32) : Prop :=
  (7 ≤ x3 → L38 f x1 0) ∧ (¬ 7 ≤ x3 → kX8_tellsCount P f a x3 (fun r24 g24 => ∀ x1_29 : Int64, x1_29 = (31 * x1) + (r24.toInt64) → ∀ x3_30 : Int32, x3_30 = x3 + 1 → L11 g24 x1_29 x3_30))
def bX8_digest_38 (P : Sk) (a : Nat) (L11 : St → Int64 → Int32 → Prop) (L38 : St → Int64 → Int32 → Prop) (L115 : St → Int64 → Int32 → Prop) (K : Int64 → St → Prop) (f : St) (x1 : Int64) (x3 : Int32) : Prop :=
  vp_in 0 160 ∧ ((f (a + 1) ((0 : Int32)).toNatClampNeg ≤ x3 → vp_in 2 160 ∧ (vp_in 3 160 ∧ (∀ x1_86 : Int64, x1_86 = (31 * ((31 * x1) + ((f (a + 1) ((2 : Int32)).toNatClampNeg : Int32).toInt64))) + ((f (a + 1) ((3 : Int32)).toNatClampNeg : Int32).toInt64) → kX8_share P f a (fun r93 g93 => kJxe99ae_doubleToLongBits_ccdee P g93 r93 (fun r96 g96 => ∀ x1_100 : Int64, x1_100 = (31 * x1_86) + r96 → ∀ x1_112 : Int64, x1_112 = (31 * x1_100) + ((g96 a 7 : Int32).toInt64) → L115 g96 x1_112 0))))) ∧ (¬ f (a + 1) ((0 : Int32)).toNatClampNeg ≤ x3 → kX8_digestLoaf P f a x1 x3 (fun r51 g51 => ∀ x3_55 : Int32, x3_55 = x3 + 1 → L38 g51 r51 x3_55)))
def bX8_digest_115 (P : Sk) (a : Nat) (L11 : St → Int64 → Int32 → Prop) (L38 : St → Int64 → Int32 → Prop) (L115 : St → Int64 → Int32 → Prop) (K : Int64 → St → Prop) (f : St) (x1 : Int64) (x3 : Int32) : Prop :=
  (f a 7 ≤ x3 → K x1 f) ∧ (¬ f a 7 ≤ x3 → vp_in x3 60 ∧ (∀ x1_136 : Int64, x1_136 = (31 * x1) + ((f (a + 4) x3.toNatClampNeg : Int32).toInt64) → ∀ x3_137 : Int32, x3_137 = x3 + 1 → L115 f x1_136 x3_137))
def vX8_digest (P : Sk) (f : St) (a : Nat) (L11 : St → Int64 → Int32 → Prop) (L38 : St → Int64 → Int32 → Prop) (L115 : St → Int64 → Int32 → Prop) (K : Int64 → St → Prop) : Prop :=
  ∀ g2 : St, g2 = setf f a 0 0 → L11 g2 4051 0
set_option maxRecDepth 20000 in
set_option maxHeartbeats 4000000 in
theorem mX8_digest (l : Launch) (G : Gl) (P : Sk) (f : St) (sz : Nat) (a : Nat) (ha : IsModel P a) (K : Int64 → St → Prop) (I11 : St → Int64 → Int32 → Prop) (μ11 : St → Int64 → Int32 → Nat) (I38 : St → Int64 → Int32 → Prop) (μ38 : St → Int64 → Int32 → Nat) (I115 : St → Int64 → Int32 → Prop) (μ115 : St → Int64 → Int32 → Nat) 
  (h : vX8_digest P f a I11 I38 I115 K)
  (h11 : ∀ (g : St) (x1 : Int64) (x3 : Int32) , I11 g x1 x3 → bX8_digest_11 P a (fun g' z0 z1 => I11 g' z0 z1 ∧ μ11 g' z0 z1 < μ11 g x1 x3) (fun g' z0 z1 => I38 g' z0 z1 ∧ μ38 g' z0 z1 < μ11 g x1 x3) (fun g' z0 z1 => I115 g' z0 z1 ∧ μ115 g' z0 z1 < μ11 g x1 x3) K g x1 x3)
  (h38 : ∀ (g : St) (x1 : Int64) (x3 : Int32) , I38 g x1 x3 → bX8_digest_38 P a (fun g' z0 z1 => I11 g' z0 z1 ∧ μ11 g' z0 z1 < μ38 g x1 x3) (fun g' z0 z1 => I38 g' z0 z1 ∧ μ38 g' z0 z1 < μ38 g x1 x3) (fun g' z0 z1 => I115 g' z0 z1 ∧ μ115 g' z0 z1 < μ38 g x1 x3) K g x1 x3)
  (h115 : ∀ (g : St) (x1 : Int64) (x3 : Int32) , I115 g x1 x3 → bX8_digest_115 P a (fun g' z0 z1 => I11 g' z0 z1 ∧ μ11 g' z0 z1 < μ115 g x1 x3) (fun g' z0 z1 => I38 g' z0 z1 ∧ μ38 g' z0 z1 < μ115 g x1 x3) (fun g' z0 z1 => I115 g' z0 z1 ∧ μ115 g' z0 z1 < μ115 g x1 x3) K g x1 x3) :
  Met l yX8_digest (wU yX8_digest cX8_digest 4 (some .long)) rmX8_digest (PcW G P f sz [.ref a]) (QcL G P sz K) 0 0 (frA P sz) := by
  refine v_met (own := RX8) [.ref a] (by decide +kernel) rfl (Nat.le_of_ble_eq_true rfl) (fun p e s m args below meth c hsz o hr hnm => ?_)
  refine v_lv (lv2 := [(0, .ref a)]) rfl ?_
  have main : ∀ n : Nat, (∀ (g : St) (x1 : Int64) (x3 : Int32) , I11 g x1 x3 → μ11 g x1 x3 < n → V p l e rmX8_digest s m args below meth c 4 G (frA P sz) (MQ below (QcL G P sz K) args s 0 0 (frA P sz)) 0 0 P [(0, .ref a), (1, .long x1), (3, .int x3)] [] 11 g) ∧ (∀ (g : St) (x1 : Int64) (x3 : Int32) , I38 g x1 x3 → μ38 g x1 x3 < n → V p l e rmX8_digest s m args below meth c 4 G (frA P sz) (MQ below (QcL G P sz K) args s 0 0 (frA P sz)) 0 0 P [(0, .ref a), (1, .long x1), (3, .int x3)] [] 38 g) ∧ (∀ (g : St) (x1 : Int64) (x3 : Int32) , I115 g x1 x3 → μ115 g x1 x3 < n → V p l e rmX8_digest s m args below meth c 4 G (frA P sz) (MQ below (QcL G P sz K) args s 0 0 (frA P sz)) 0 0 P [(0, .ref a), (1, .long x1), (3, .int x3)] [] 115 g) := by
    intro n
    induction n with
    | zero => exact ⟨fun g x1 x3 hI hm => absurd hm (Nat.not_lt_zero _), fun g x1 x3 hI hm => absurd hm (Nat.not_lt_zero _), fun g x1 x3 hI hm => absurd hm (Nat.not_lt_zero _)⟩
    | succ n ih =>
      refine ⟨?_, ?_, ?_⟩
      · intro g x1 x3 hI hm
        have h := h11 g x1 x3 hI
        clear hI
        unfold bX8_digest_11 at h
        refine v_iload_n o 2 dX8_digest_11 rfl ?_
        refine v_bipush o (v := 7) dX8_digest_12 (by decide) ?_
        refine v_icmp_ge o (tgt := 36) dX8_digest_14 (by decide) (fun c14 => ?_) (fun c14 => ?_)
        · replace h := h.1 c14
          refine v_iconst o (v := 0) dX8_digest_36 (by decide) ?_
          refine v_istore_n o (lv' := [(3, .int 0), (0, .ref a), (1, .long x1)]) dX8_digest_37 rfl (by decide) rfl ?_
          refine v_sub [1, 2, 0] (lv2 := [(0, .ref a), (1, .long x1), (3, .int 0)]) rfl ?_
          exact ih.2.1 g x1 0  h.1 (by have := h.2; omega)
        · replace h := h.2 c14
          refine v_ldc2 o (v := 31) dX8_digest_17 (mU 1403 (by decide +kernel) rfl) ?_
          refine v_lload_n o 1 dX8_digest_20 rfl ?_
          refine v_lmul o dX8_digest_21 ?_
          refine v_aload_n o 0 dX8_digest_22 rfl ?_
          refine v_iload_n o 2 dX8_digest_23 rfl ?_
          refine v_cVi o [.int x3] [.long (31 * x1)] (fun sz => metX8_tellsCount l G P g sz a ha x3 _ h) (cwX8_238 o.1.2.2.2.2 (by decide)) ⟨_, _, rfl⟩ (by decide) (wfModel_o ha) rfl (Nat.le_of_ble_eq_true rfl) ⟨Nat.zero_le _, Nat.zero_le _⟩ dX8_digest_24 rfl (fun r24 g24 h => ?_)
          refine v_i2l o dX8_digest_27 ?_
          refine v_ladd o dX8_digest_28 ?_
          refine v_topl (fun x1_29 ex1_29 => ?_)
          replace h := h x1_29 ex1_29
          refine v_lstore_n o (lv' := [(1, .long x1_29), (0, .ref a), (3, .int x3)]) dX8_digest_29 rfl (by decide) rfl ?_
          obtain ⟨x3_30, ex3_30⟩ : ∃ y : Int32, y = x3 + 1 := ⟨_, rfl⟩
          replace h := h x3_30 ex3_30
          refine v_iinc o (v := x3_30) (lv' := [(3, .int x3_30), (1, .long x1_29), (0, .ref a)]) 2 dX8_digest_30 rfl (by rw [ex3_30]; rfl) (by decide) rfl ?_
          refine v_goto o (tgt := 11) dX8_digest_33 (by decide) ?_
          refine v_sub [2, 1, 0] (lv2 := [(0, .ref a), (1, .long x1_29), (3, .int x3_30)]) rfl ?_
          exact ih.1 g24 x1_29 x3_30  h.1 (by have := h.2; omega)
      · intro g x1 x3 hI hm
        have h := h38 g x1 x3 hI
        clear hI
        unfold bX8_digest_38 at h
        refine v_iload_n o 2 dX8_digest_38 rfl ?_
        refine v_aload_n o 0 dX8_digest_39 rfl ?_
        refine v_gfR o lkX8_7 (by decide) (wfModel_o ha) (wfModel_r1 ha) dX8_digest_40 ?_
        refine v_iconst o (v := 0) dX8_digest_43 (by decide) ?_
        refine v_iald o (wfModel_t1 ha) (wfModel_n1 ha) h.1 dX8_digest_44 ?_
        replace h := h.2
        refine v_icmp_ge o (tgt := 61) dX8_digest_45 (by decide) (fun c45 => ?_) (fun c45 => ?_)
        · replace h := h.1 c45
          refine v_ldc2 o (v := 31) dX8_digest_61 (mU 1403 (by decide +kernel) rfl) ?_
          refine v_ldc2 o (v := 31) dX8_digest_64 (mU 1403 (by decide +kernel) rfl) ?_
          refine v_lload_n o 1 dX8_digest_67 rfl ?_
          refine v_lmul o dX8_digest_68 ?_
          refine v_aload_n o 0 dX8_digest_69 rfl ?_
          refine v_gfR o lkX8_7 (by decide) (wfModel_o ha) (wfModel_r1 ha) dX8_digest_70 ?_
          refine v_iconst o (v := 2) dX8_digest_73 (by decide) ?_
          refine v_iald o (wfModel_t1 ha) (wfModel_n1 ha) h.1 dX8_digest_74 ?_
          replace h := h.2
          refine v_i2l o dX8_digest_75 ?_
          refine v_ladd o dX8_digest_76 ?_
          refine v_lmul o dX8_digest_77 ?_
          refine v_aload_n o 0 dX8_digest_78 rfl ?_
          refine v_gfR o lkX8_7 (by decide) (wfModel_o ha) (wfModel_r1 ha) dX8_digest_79 ?_
          refine v_iconst o (v := 3) dX8_digest_82 (by decide) ?_
          refine v_iald o (wfModel_t1 ha) (wfModel_n1 ha) h.1 dX8_digest_83 ?_
          replace h := h.2
          refine v_i2l o dX8_digest_84 ?_
          refine v_ladd o dX8_digest_85 ?_
          refine v_topl (fun x1_86 ex1_86 => ?_)
          replace h := h x1_86 ex1_86
          refine v_lstore_n o (lv' := [(1, .long x1_86), (0, .ref a), (3, .int x3)]) dX8_digest_86 rfl (by decide) rfl ?_
          refine v_ldc2 o (v := 31) dX8_digest_87 (mU 1403 (by decide +kernel) rfl) ?_
          refine v_lload_n o 0 dX8_digest_90 rfl ?_
          refine v_lmul o dX8_digest_91 ?_
          refine v_aload_n o 1 dX8_digest_92 rfl ?_
          refine v_cVd o [] [.long (31 * x1_86)] (fun sz => metX8_share l G P g sz a ha _ h) (cwX8_253 o.1.2.2.2.2 (by decide)) ⟨_, _, rfl⟩ (by decide) (wfModel_o ha) rfl (Nat.le_of_ble_eq_true rfl) ⟨Nat.zero_le _, Nat.zero_le _⟩ dX8_digest_93 rfl (fun r93 g93 h => ?_)
          refine v_cSl o [.double r93] [.long (31 * x1_86)] (fun sz => metJxe99ae_doubleToLongBits_ccdee l G P g93 sz r93 _ h) (cwX8_265 o.1.2.2.2.2 (by decide)) rfl (Nat.le_of_ble_eq_true rfl) ⟨Nat.zero_le _, Nat.zero_le _⟩ dX8_digest_96 rfl (fun r96 g96 h => ?_)
          refine v_ladd o dX8_digest_99 ?_
          refine v_topl (fun x1_100 ex1_100 => ?_)
          replace h := h x1_100 ex1_100
          refine v_lstore_n o (lv' := [(1, .long x1_100), (0, .ref a), (3, .int x3)]) dX8_digest_100 rfl (by decide) rfl ?_
          refine v_ldc2 o (v := 31) dX8_digest_101 (mU 1403 (by decide +kernel) rfl) ?_
          refine v_lload_n o 0 dX8_digest_104 rfl ?_
          refine v_lmul o dX8_digest_105 ?_
          refine v_aload_n o 1 dX8_digest_106 rfl ?_
          refine v_gfI o lkX8_133 (by decide) (wfModel_o ha) dX8_digest_107 ?_
          refine v_i2l o dX8_digest_110 ?_
          refine v_ladd o dX8_digest_111 ?_
          refine v_topl (fun x1_112 ex1_112 => ?_)
          replace h := h x1_112 ex1_112
          refine v_lstore_n o (lv' := [(1, .long x1_112), (0, .ref a), (3, .int x3)]) dX8_digest_112 rfl (by decide) rfl ?_
          refine v_iconst o (v := 0) dX8_digest_113 (by decide) ?_
          refine v_istore_n o (lv' := [(3, .int 0), (1, .long x1_112), (0, .ref a)]) dX8_digest_114 rfl (by decide) rfl ?_
          refine v_sub [2, 1, 0] (lv2 := [(0, .ref a), (1, .long x1_112), (3, .int 0)]) rfl ?_
          exact ih.2.2 g96 x1_112 0  h.1 (by have := h.2; omega)
        · replace h := h.2 c45
          refine v_aload_n o 0 dX8_digest_48 rfl ?_
          refine v_lload_n o 1 dX8_digest_49 rfl ?_
          refine v_iload_n o 2 dX8_digest_50 rfl ?_
          refine v_cVl o [.long x1, .int x3] [] (fun sz => metX8_digestLoaf l G P g sz a ha x1 x3 _ h) (cwX8_261 o.1.2.2.2.2 (by decide)) ⟨_, _, rfl⟩ (by decide) (wfModel_o ha) rfl (Nat.le_of_ble_eq_true rfl) ⟨Nat.zero_le _, Nat.zero_le _⟩ dX8_digest_51 rfl (fun r51 g51 h => ?_)
          refine v_lstore_n o (lv' := [(1, .long r51), (0, .ref a), (3, .int x3)]) dX8_digest_54 rfl (by decide) rfl ?_
          obtain ⟨x3_55, ex3_55⟩ : ∃ y : Int32, y = x3 + 1 := ⟨_, rfl⟩
          replace h := h x3_55 ex3_55
          refine v_iinc o (v := x3_55) (lv' := [(3, .int x3_55), (1, .long r51), (0, .ref a)]) 2 dX8_digest_55 rfl (by rw [ex3_55]; rfl) (by decide) rfl ?_
          refine v_goto o (tgt := 38) dX8_digest_58 (by decide) ?_
          refine v_sub [2, 1, 0] (lv2 := [(0, .ref a), (1, .long r51), (3, .int x3_55)]) rfl ?_
          exact ih.2.1 g51 r51 x3_55  h.1 (by have := h.2; omega)
      · intro g x1 x3 hI hm
        have h := h115 g x1 x3 hI
        clear hI
        unfold bX8_digest_115 at h
        refine v_iload_n o 2 dX8_digest_115 rfl ?_
        refine v_aload_n o 0 dX8_digest_116 rfl ?_
        refine v_gfI o lkX8_133 (by decide) (wfModel_o ha) dX8_digest_117 ?_
        refine v_icmp_ge o (tgt := 143) dX8_digest_120 (by decide) (fun c120 => ?_) (fun c120 => ?_)
        · replace h := h.1 c120
          refine v_lload_n o 1 dX8_digest_143 rfl ?_
          exact v_lret o rfl hr dX8_digest_144 h
        · replace h := h.2 c120
          refine v_ldc2 o (v := 31) dX8_digest_123 (mU 1403 (by decide +kernel) rfl) ?_
          refine v_lload_n o 1 dX8_digest_126 rfl ?_
          refine v_lmul o dX8_digest_127 ?_
          refine v_aload_n o 0 dX8_digest_128 rfl ?_
          refine v_gfR o lkX8_19 (by decide) (wfModel_o ha) (wfModel_r6 ha) dX8_digest_129 ?_
          refine v_iload_n o 2 dX8_digest_132 rfl ?_
          refine v_iald o (wfModel_t6 ha) (wfModel_n6 ha) h.1 dX8_digest_133 ?_
          replace h := h.2
          refine v_i2l o dX8_digest_134 ?_
          refine v_ladd o dX8_digest_135 ?_
          refine v_topl (fun x1_136 ex1_136 => ?_)
          replace h := h x1_136 ex1_136
          refine v_lstore_n o (lv' := [(1, .long x1_136), (0, .ref a), (3, .int x3)]) dX8_digest_136 rfl (by decide) rfl ?_
          obtain ⟨x3_137, ex3_137⟩ : ∃ y : Int32, y = x3 + 1 := ⟨_, rfl⟩
          replace h := h x3_137 ex3_137
          refine v_iinc o (v := x3_137) (lv' := [(3, .int x3_137), (1, .long x1_136), (0, .ref a)]) 2 dX8_digest_137 rfl (by rw [ex3_137]; rfl) (by decide) rfl ?_
          refine v_goto o (tgt := 115) dX8_digest_140 (by decide) ?_
          refine v_sub [2, 1, 0] (lv2 := [(0, .ref a), (1, .long x1_136), (3, .int x3_137)]) rfl ?_
          exact ih.2.2 g x1_136 x3_137  h.1 (by have := h.2; omega)
  unfold vX8_digest at h
  refine v_aload_n o 0 dX8_digest_0 rfl ?_
  refine v_iconst o (v := 0) dX8_digest_1 (by decide) ?_
  refine v_pf o lpX8_40 (wfModel_o ha) ⟨rfl, rfl⟩ dX8_digest_2 ?_
  refine v_nmf (fun g2 eg2 => ?_)
  replace h := h g2 eg2
  refine v_ldc2 o (v := 4051) dX8_digest_5 (mU 1402 (by decide +kernel) rfl) ?_
  refine v_lstore_n o (lv' := [(1, .long 4051), (0, .ref a)]) dX8_digest_8 rfl (by decide) rfl ?_
  refine v_iconst o (v := 0) dX8_digest_9 (by decide) ?_
  refine v_istore_n o (lv' := [(3, .int 0), (1, .long 4051), (0, .ref a)]) dX8_digest_10 rfl (by decide) rfl ?_
  refine v_sub [2, 1, 0] (lv2 := [(0, .ref a), (1, .long 4051), (3, .int 0)]) rfl ?_
  exact (main (μ11 g2 4051 0 + 1)).1 g2 4051 0  h (Nat.lt_succ_self _)
def kX8_digest (P : Sk) (f : St) (a : Nat) (K : Int64 → St → Prop) : Prop := False
theorem metX8_digest (l : Launch) (G : Gl) (P : Sk) (f : St) (sz : Nat) (a : Nat) (ha : IsModel P a) (K : Int64 → St → Prop) (h : kX8_digest P f a K) : Met l yX8_digest (wU yX8_digest cX8_digest 4 (some .long)) rmX8_digest (PcW G P f sz [.ref a]) (QcL G P sz K) 0 0 (frA P sz) := sorry

