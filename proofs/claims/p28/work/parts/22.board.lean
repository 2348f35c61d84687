def vJ9_floorMod_7cf53 (P : Sk) (f : St) (p0 : Int32) (p1 : Int32) (K : Int32 → St → Prop) : Prop :=
  (¬ p1 = 0) ∧ (∀ x2_3 : Int32, x2_3 = p0 - p0 / p1 * p1 → (0 ≤ p0 ^^^ p1 → K x2_3 f) ∧ (¬ 0 ≤ p0 ^^^ p1 → (x2_3 = 0 → K x2_3 f) ∧ (¬ x2_3 = 0 → K (x2_3 + p1) f)))
set_option maxRecDepth 20000 in
set_option maxHeartbeats 4000000 in
theorem mJ9_floorMod_7cf53 (l : Launch) (G : Gl) (P : Sk) (f : St) (sz : Nat) (p0 : Int32) (p1 : Int32) (K : Int32 → St → Prop) (h : vJ9_floorMod_7cf53 P f p0 p1 K)  :
  Met l yJ9_floorMod_7cf53 (wU yJ9_floorMod_7cf53 cJ9_floorMod_7cf53 3 (some .int)) rmJ9_floorMod_7cf53 (PcW G P f sz [.int p0, .int p1]) (QcI G P sz K) 0 0 (frA P sz) := by
  refine v_met (own := RJ9) [.int p0, .int p1] (by decide +kernel) rfl (Nat.le_of_ble_eq_true rfl) (fun p e s m args below meth c hsz o hr hnm => ?_)
  refine v_lv (lv2 := [(0, .int p0), (1, .int p1)]) rfl ?_
  unfold vJ9_floorMod_7cf53 at h
  refine v_iload_n o 0 dJ9_floorMod_7cf53_0 rfl ?_
  refine v_iload_n o 1 dJ9_floorMod_7cf53_1 rfl ?_
  refine v_irem o dJ9_floorMod_7cf53_2 h.1 ?_
  replace h := h.2
  refine v_topi (fun x2_3 ex2_3 => ?_)
  replace h := h x2_3 ex2_3
  refine v_istore_n o (lv' := [(2, .int x2_3), (0, .int p0), (1, .int p1)]) dJ9_floorMod_7cf53_3 rfl (by decide) rfl ?_
  refine v_iload_n o 1 dJ9_floorMod_7cf53_4 rfl ?_
  refine v_iload_n o 2 dJ9_floorMod_7cf53_5 rfl ?_
  refine v_ixor o dJ9_floorMod_7cf53_6 ?_
  refine v_if_ge o (tgt := 18) dJ9_floorMod_7cf53_7 (by decide) (fun c7 => ?_) (fun c7 => ?_)
  · replace h := h.1 c7
    refine v_iload_n o 0 dJ9_floorMod_7cf53_18 rfl ?_
    exact v_iret o rfl hr dJ9_floorMod_7cf53_19 h
  · replace h := h.2 c7
    refine v_iload_n o 0 dJ9_floorMod_7cf53_10 rfl ?_
    refine v_if_eq o (tgt := 18) dJ9_floorMod_7cf53_11 (by decide) (fun c11 => ?_) (fun c11 => ?_)
    · replace h := h.1 c11
      refine v_iload_n o 0 dJ9_floorMod_7cf53_18 rfl ?_
      exact v_iret o rfl hr dJ9_floorMod_7cf53_19 h
    · replace h := h.2 c11
      refine v_iload_n o 0 dJ9_floorMod_7cf53_14 rfl ?_
      refine v_iload_n o 2 dJ9_floorMod_7cf53_15 rfl ?_
      refine v_iadd o dJ9_floorMod_7cf53_16 ?_
      exact v_iret o rfl hr dJ9_floorMod_7cf53_17 h
abbrev kJ9_floorMod_7cf53 := @vJ9_floorMod_7cf53
abbrev metJ9_floorMod_7cf53 := @mJ9_floorMod_7cf53
theorem u9_floorMod {P : Sk} {f : St} {x : Int32} {K : Int32 → St → Prop} (hK : K (fm6 x) f) : kJ9_floorMod_7cf53 P f x 6 K := by
  show vJ9_floorMod_7cf53 P f x 6 K
  unfold vJ9_floorMod_7cf53
  unfold fm6 at hK
  refine ⟨by decide, fun y e => ?_⟩
  rw [e]
  refine ⟨fun q => ?_, fun q => ⟨fun q2 => ?_, fun q2 => ?_⟩⟩
  · rw [if_pos q] at hK
    exact hK
  · rw [if_neg q, if_pos q2] at hK
    exact hK
  · rw [if_neg q, if_neg q2] at hK
    exact hK

def vX0_size (P : Sk) (f : St) (a : Nat) (K : Int32 → St → Prop) : Prop :=
  K (f a 2) f
set_option maxRecDepth 20000 in
set_option maxHeartbeats 4000000 in
theorem mX0_size (l : Launch) (G : Gl) (P : Sk) (f : St) (sz : Nat) (a : Nat) (ha : IsBoard P a) (K : Int32 → St → Prop) (h : vX0_size P f a K)  :
  Met l yX0_size (wU yX0_size cX0_size 1 (some .int)) rmX0_size (PcW G P f sz [.ref a]) (QcI G P sz K) 0 0 (frA P sz) := by
  refine v_met (own := RX0) [.ref a] (by decide +kernel) rfl (Nat.le_of_ble_eq_true rfl) (fun p e s m args below meth c hsz o hr hnm => ?_)
  refine v_lv (lv2 := [(0, .ref a)]) rfl ?_
  unfold vX0_size at h
  refine v_aload_n o 0 dX0_size_0 rfl ?_
  refine v_gfI o lkX0_22 (by decide) (wfBoard_o ha) dX0_size_1 ?_
  exact v_iret o rfl hr dX0_size_4 h
abbrev kX0_size := @vX0_size
abbrev metX0_size := @mX0_size

def vX0_has (P : Sk) (f : St) (a : Nat) (p1 : Int32) (K : Int32 → St → Prop) : Prop :=
  (p1 < 0 → K 0 f) ∧ (¬ p1 < 0 → (f a 2 ≤ p1 → K 0 f) ∧ (¬ f a 2 ≤ p1 → K 1 f))
set_option maxRecDepth 20000 in
set_option maxHeartbeats 4000000 in
theorem mX0_has (l : Launch) (G : Gl) (P : Sk) (f : St) (sz : Nat) (a : Nat) (ha : IsBoard P a) (p1 : Int32) (K : Int32 → St → Prop) (h : vX0_has P f a p1 K)  :
  Met l yX0_has (wU yX0_has cX0_has 2 (some .boolean)) rmX0_has (PcW G P f sz [.ref a, .int p1]) (QcI G P sz K) 0 0 (frA P sz) := by
  refine v_met (own := RX0) [.ref a, .int p1] (by decide +kernel) rfl (Nat.le_of_ble_eq_true rfl) (fun p e s m args below meth c hsz o hr hnm => ?_)
  refine v_lv (lv2 := [(0, .ref a), (1, .int p1)]) rfl ?_
  unfold vX0_has at h
  refine v_iload_n o 1 dX0_has_0 rfl ?_
  refine v_if_lt o (tgt := 16) dX0_has_1 (by decide) (fun c1 => ?_) (fun c1 => ?_)
  · replace h := h.1 c1
    refine v_iconst o (v := 0) dX0_has_16 (by decide) ?_
    exact v_zret o rfl hr bz0.1 dX0_has_17 h
  · replace h := h.2 c1
    refine v_iload_n o 1 dX0_has_4 rfl ?_
    refine v_aload_n o 0 dX0_has_5 rfl ?_
    refine v_gfI o lkX0_22 (by decide) (wfBoard_o ha) dX0_has_6 ?_
    refine v_icmp_ge o (tgt := 16) dX0_has_9 (by decide) (fun c9 => ?_) (fun c9 => ?_)
    · replace h := h.1 c9
      refine v_iconst o (v := 0) dX0_has_16 (by decide) ?_
      exact v_zret o rfl hr bz0.1 dX0_has_17 h
    · replace h := h.2 c9
      refine v_iconst o (v := 1) dX0_has_12 (by decide) ?_
      refine v_goto o (tgt := 17) dX0_has_13 (by decide) ?_
      exact v_zret o rfl hr bz1.1 dX0_has_17 h
abbrev kX0_has := @vX0_has
abbrev metX0_has := @mX0_has
theorem u0_has {P : Sk} {f : St} {a m : Nat} {p : Int32} {K : Int32 → St → Prop} (hm : f a 2 = nI m) (h6 : m ≤ 6) (hK1 : ∀ i, p = nI i → i < m → K 1 f) (hK0 : (∀ i, p = nI i → i < 2 ^ 31 → ¬ i < m) → K 0 f) : kX0_has P f a p K := by
  show vX0_has P f a p K
  unfold vX0_has
  rw [hm]
  refine ⟨fun q => hK0 ?_, fun q => ?_⟩
  · rintro j rfl h3 hj
    exact nI_nn (by omega) q
  · obtain ⟨j, hj, rfl⟩ := nI_of q
    rw [nI_leI (by omega) (by omega)]
    refine ⟨fun q2 => hK0 ?_, fun q2 => hK1 j rfl (by omega)⟩
    intro i e h3 hi
    rw [nI_eq (by omega) (by omega)] at e
    omega

def jX0_at_22 (P : Sk) (a : Nat) (p1 : Int32) (K : Nat → St → Prop) (f : St) : Prop :=
  K (a + 2) f
def vX0_at (P : Sk) (f : St) (a : Nat) (p1 : Int32) (K : Nat → St → Prop) : Prop :=
  (p1 < 0 → jX0_at_22 P a p1 K  f) ∧ (¬ p1 < 0 → (nI 6 ≤ p1 → jX0_at_22 P a p1 K  f) ∧ (¬ nI 6 ≤ p1 → vp_in p1 6 ∧ (vp_in p1 6 ∧ (K (a + 24 + 22 * p1.toNatClampNeg) f))))
set_option maxRecDepth 20000 in
set_option maxHeartbeats 4000000 in
theorem mX0_at (l : Launch) (G : Gl) (P : Sk) (f : St) (sz : Nat) (a : Nat) (ha : IsBoard P a) (p1 : Int32) (K : Nat → St → Prop) (h : vX0_at P f a p1 K)  :
  Met l yX0_at (wU yX0_at cX0_at 2 (some (.object "StrandLoaves$Loaf"))) rmX0_at (PcW G P f sz [.ref a, .int p1]) (QcR G P sz K) 0 0 (frA P sz) := by
  refine v_met (own := RX0) [.ref a, .int p1] (by decide +kernel) rfl (Nat.le_of_ble_eq_true rfl) (fun p e s m args below meth c hsz o hr hnm => ?_)
  refine v_lv (lv2 := [(0, .ref a), (1, .int p1)]) rfl ?_
  have J22 : ∀ (g22 : St), jX0_at_22 P a p1 K  g22 → V p l e rmX0_at s m args below meth c 2 G (frA P sz) (MQ below (QcR G P sz K) args s 0 0 (frA P sz)) 0 0 P [(0, .ref a), (1, .int p1)] [] 22 g22 := by
    intro  g22  h
    unfold jX0_at_22 at h
    refine v_aload_n o 0 dX0_at_22 rfl ?_
    refine v_gfR o lkX0_18 (by decide) (wfBoard_o ha) (wfBoard_r1 ha) dX0_at_23 ?_
    exact v_aret o rfl hr (Or.inl ⟨_, rfl⟩) dX0_at_26 h
  unfold vX0_at at h
  refine v_iload_n o 1 dX0_at_0 rfl ?_
  refine v_if_lt o (tgt := 22) dX0_at_1 (by decide) (fun c1 => ?_) (fun c1 => ?_)
  · replace h := h.1 c1
    refine v_sub [0, 1] (lv2 := [(0, .ref a), (1, .int p1)]) rfl ?_
    exact J22  f  h
  · replace h := h.2 c1
    refine v_iload_n o 1 dX0_at_4 rfl ?_
    refine v_aload_n o 0 dX0_at_5 rfl ?_
    refine v_gfR o lkX0_11 (by decide) (wfBoard_o ha) (wfBoard_r0 ha) dX0_at_6 ?_
    refine v_alen11 o (wfBoard_t0 ha) (wfBoard_n0 ha) dX0_at_9 ?_
    refine v_icmp_ge o (tgt := 22) dX0_at_10 (by decide) (fun c10 => ?_) (fun c10 => ?_)
    · replace h := h.1 c10
      refine v_sub [0, 1] (lv2 := [(0, .ref a), (1, .int p1)]) rfl ?_
      exact J22  f  h
    · replace h := h.2 c10
      refine v_aload_n o 0 dX0_at_13 rfl ?_
      refine v_gfR o lkX0_11 (by decide) (wfBoard_o ha) (wfBoard_r0 ha) dX0_at_14 ?_
      refine v_iload_n o 1 dX0_at_17 rfl ?_
      have hi18 := h.1
      replace h := h.2
      refine v_aald11 o (wfBoard_t0 ha) (wfBoard_n0 ha) hi18 (wfBoard_ar ha _ (vin_lt hi18)) dX0_at_18 ?_
      refine v_ifnonnull o (tgt := 27) dX0_at_19 (by decide) ?_
      refine v_aload_n o 0 dX0_at_27 rfl ?_
      refine v_gfR o lkX0_11 (by decide) (wfBoard_o ha) (wfBoard_r0 ha) dX0_at_28 ?_
      refine v_iload_n o 1 dX0_at_31 rfl ?_
      have hi32 := h.1
      replace h := h.2
      refine v_aald11 o (wfBoard_t0 ha) (wfBoard_n0 ha) hi32 (wfBoard_ar ha _ (vin_lt hi32)) dX0_at_32 ?_
      exact v_aret o rfl hr (Or.inl ⟨_, rfl⟩) dX0_at_33 h
theorem metX0_at (l : Launch) (G : Gl) (P : Sk) (f : St) (sz : Nat) (a : Nat) (ha : IsBoard P a) (p1 : Int32) : Met l yX0_at (wU yX0_at cX0_at 2 (some (.object "StrandLoaves$Loaf"))) rmX0_at (PcW G P f sz [.ref a, .int p1]) (QcR G P sz (fun r g => r = (atB a p1) ∧ f = g)) 0 0 (frA P sz) := by
  refine mX0_at l G P f sz a ha p1 _ ?_
  unfold vX0_at jX0_at_22
  refine ⟨fun q => ⟨?_, rfl⟩, fun q => ⟨fun q2 => ⟨?_, rfl⟩, fun q2 => ?_⟩⟩
  · unfold atB
    rw [if_pos (Or.inl q)]
  · unfold atB
    rw [if_pos (show p1 < 0 ∨ (6 : Int32) ≤ p1 from Or.inr q2)]
  · have h6 : ¬ (p1 < 0 ∨ 6 ≤ p1) := fun h => h.elim q q2
    refine ⟨i6_in h6, i6_in h6, ?_, rfl⟩
    unfold atB
    rw [if_neg h6]


def vX2_copyFrom (P : Sk) (f : St) (a : Nat) (b1 : Nat) (K : St → Prop) : Prop :=
  kX6_copyFrom P f (a + 1) (b1 + 1) (fun g8 => kX6_copyFrom P g8 (a + 4) (b1 + 4) (fun g19 => kX5_copyFrom P g19 (a + 7) (b1 + 7) (fun g30 => K g30)))
set_option maxRecDepth 20000 in
set_option maxHeartbeats 4000000 in
theorem mX2_copyFrom (l : Launch) (G : Gl) (P : Sk) (f : St) (sz : Nat) (a : Nat) (ha : IsLoaf P a) (b1 : Nat) (hb1 : IsLoaf P b1) (K : St → Prop) (h : vX2_copyFrom P f a b1 K)  :
  Met l yX2_copyFrom (wU yX2_copyFrom cX2_copyFrom 2 none) rmX2_copyFrom (PcW G P f sz [.ref a, .ref b1]) (QcV G P sz K) 0 0 (frA P sz) := by
  refine v_met (own := RX2) [.ref a, .ref b1] (by decide +kernel) rfl (Nat.le_of_ble_eq_true rfl) (fun p e s m args below meth c hsz o hr hnm => ?_)
  refine v_lv (lv2 := [(0, .ref a), (1, .ref b1)]) rfl ?_
  unfold vX2_copyFrom at h
  refine v_aload_n o 0 dX2_copyFrom_0 rfl ?_
  refine v_gfR o lkX2_12 (by decide) (wfLoaf_o ha) (wfLoaf_r0 ha) dX2_copyFrom_1 ?_
  refine v_aload_n o 1 dX2_copyFrom_4 rfl ?_
  refine v_gfR o lkX2_12 (by decide) (wfLoaf_o hb1) (wfLoaf_r0 hb1) dX2_copyFrom_5 ?_
  refine v_cVv o [.ref (b1 + 1)] [] (fun sz => metX6_copyFrom l G P f sz (a + 1) (wfLoaf_t0 ha) (b1 + 1) (wfLoaf_t0 hb1) _ h) (cwX2_39 o.1.2.2.2.2 (by decide)) ⟨_, _, rfl⟩ (by decide) (wfWord_o (wfLoaf_t0 ha)) rfl (Nat.le_of_ble_eq_true rfl) ⟨Nat.le_of_ble_eq_true rfl, Nat.le_of_ble_eq_true rfl⟩ dX2_copyFrom_8 rfl (fun g8 h => ?_)
  refine v_aload_n o 0 dX2_copyFrom_11 rfl ?_
  refine v_gfR o lkX2_18 (by decide) (wfLoaf_o ha) (wfLoaf_r1 ha) dX2_copyFrom_12 ?_
  refine v_aload_n o 1 dX2_copyFrom_15 rfl ?_
  refine v_gfR o lkX2_18 (by decide) (wfLoaf_o hb1) (wfLoaf_r1 hb1) dX2_copyFrom_16 ?_
  refine v_cVv o [.ref (b1 + 4)] [] (fun sz => metX6_copyFrom l G P g8 sz (a + 4) (wfLoaf_t1 ha) (b1 + 4) (wfLoaf_t1 hb1) _ h) (cwX2_39 o.1.2.2.2.2 (by decide)) ⟨_, _, rfl⟩ (by decide) (wfWord_o (wfLoaf_t1 ha)) rfl (Nat.le_of_ble_eq_true rfl) ⟨Nat.le_of_ble_eq_true rfl, Nat.le_of_ble_eq_true rfl⟩ dX2_copyFrom_19 rfl (fun g19 h => ?_)
  refine v_aload_n o 0 dX2_copyFrom_22 rfl ?_
  refine v_gfR o lkX2_24 (by decide) (wfLoaf_o ha) (wfLoaf_r2 ha) dX2_copyFrom_23 ?_
  refine v_aload_n o 1 dX2_copyFrom_26 rfl ?_
  refine v_gfR o lkX2_24 (by decide) (wfLoaf_o hb1) (wfLoaf_r2 hb1) dX2_copyFrom_27 ?_
  refine v_cVv o [.ref (b1 + 7)] [] (fun sz => metX5_copyFrom l G P g19 sz (a + 7) (wfLoaf_t2 ha) (b1 + 7) (wfLoaf_t2 hb1) _ h) (cwX2_42 o.1.2.2.2.2 (by decide)) ⟨_, _, rfl⟩ (by decide) (wfTrace_o (wfLoaf_t2 ha)) rfl (Nat.le_of_ble_eq_true rfl) ⟨Nat.le_of_ble_eq_true rfl, Nat.le_of_ble_eq_true rfl⟩ dX2_copyFrom_30 rfl (fun g30 h => ?_)
  exact v_vret o rfl hr dX2_copyFrom_33 h
abbrev kX2_copyFrom := @vX2_copyFrom
abbrev metX2_copyFrom := @mX2_copyFrom
theorem u2_copyFrom {P : Sk} {f : St} {a b : Nat} {x : Lf} {K : St → Prop} (ha : IsLoaf P a) (hb : IsLoaf P b) (hd : b + 22 ≤ a ∨ a + 22 ≤ b) (ho : Wok x.1 x.2) (hL : LoafIs f b x) (hK : ∀ g, Fr f g a (a + 22) → LoafIs g a x → K g) : kX2_copyFrom P f a b K := by
  show vX2_copyFrom P f a b K
  unfold vX2_copyFrom
  refine u6_copyFrom (wfLoaf_t0 ha) (wfLoaf_t0 hb) (by omega) hL.1 ho.2.2.1 (fun g1 r1 q1 => ?_)
  refine u6_copyFrom (wfLoaf_t1 ha) (wfLoaf_t1 hb) (by omega) (hL.2.1.out r1 (by omega)) ho.NF.2.2.1 (fun g2 r2 q2 => ?_)
  refine u5_copyFrom (wfLoaf_t2 ha) (wfLoaf_t2 hb) (by omega) ho ((hL.2.2.out r1 (by omega)).out r2 (by omega)) (fun g3 r3 q3 => ?_)
  exact hK g3 ((r1.mono (by omega) (by omega)).trans ((r2.mono (by omega) (by omega)).trans (r3.mono (by omega) (by omega)))) ⟨(q1.out r2 (by omega)).out r3 (by omega), q2.out r3 (by omega), q3⟩

def vX0_addLoaf (P : Sk) (f : St) (a : Nat) (b1 : Nat) (K : St → Prop) : Prop :=
  (6 ≤ f a 2 → K f) ∧ (¬ 6 ≤ f a 2 → kX2_copyFrom P f (atB a (f a 2)) b1 (fun g18 => ∀ g28 : St, g28 = setf g18 a 2 ((g18 a 2) + 1) → K g28))
set_option maxRecDepth 20000 in
set_option maxHeartbeats 4000000 in
theorem mX0_addLoaf (l : Launch) (G : Gl) (P : Sk) (f : St) (sz : Nat) (a : Nat) (ha : IsBoard P a) (b1 : Nat) (hb1 : IsLoaf P b1) (K : St → Prop) (h : vX0_addLoaf P f a b1 K)  :
  Met l yX0_addLoaf (wU yX0_addLoaf cX0_addLoaf 2 none) rmX0_addLoaf (PcW G P f sz [.ref a, .ref b1]) (QcV G P sz K) 0 0 (frA P sz) := by
  refine v_met (own := RX0) [.ref a, .ref b1] (by decide +kernel) rfl (Nat.le_of_ble_eq_true rfl) (fun p e s m args below meth c hsz o hr hnm => ?_)
  refine v_lv (lv2 := [(0, .ref a), (1, .ref b1)]) rfl ?_
  unfold vX0_addLoaf at h
  refine v_aload_n o 0 dX0_addLoaf_0 rfl ?_
  refine v_gfI o lkX0_22 (by decide) (wfBoard_o ha) dX0_addLoaf_1 ?_
  refine v_bipush o (v := 6) dX0_addLoaf_4 (by decide) ?_
  refine v_icmp_ge o (tgt := 31) dX0_addLoaf_6 (by decide) (fun c6 => ?_) (fun c6 => ?_)
  · replace h := h.1 c6
    exact v_vret o rfl hr dX0_addLoaf_31 h
  · replace h := h.2 c6
    refine v_aload_n o 0 dX0_addLoaf_9 rfl ?_
    refine v_aload_n o 0 dX0_addLoaf_10 rfl ?_
    refine v_gfI o lkX0_22 (by decide) (wfBoard_o ha) dX0_addLoaf_11 ?_
    refine v_cVr o [.int (f a 2)] [] (fun sz => metX0_at l G P f sz a ha (f a 2)) (cwX0_35 o.1.2.2.2.2 (by decide)) ⟨_, _, rfl⟩ (by decide) (wfBoard_o ha) rfl (Nat.le_of_ble_eq_true rfl) ⟨Nat.le_of_ble_eq_true rfl, Nat.le_of_ble_eq_true rfl⟩ dX0_addLoaf_14 rfl (fun r14 g14 h14 => ?_)
    obtain ⟨rfl, rfl⟩ := h14
    refine v_aload_n o 1 dX0_addLoaf_17 rfl ?_
    refine v_cVv o [.ref b1] [] (fun sz => metX2_copyFrom l G P f sz (atB a (f a 2)) (is_atB ha (f a 2)) b1 hb1 _ h) (cwX0_39 o.1.2.2.2.2 (by decide)) ⟨_, _, rfl⟩ (by decide) (wfLoaf_o (is_atB ha (f a 2))) rfl (Nat.le_of_ble_eq_true rfl) ⟨Nat.le_of_ble_eq_true rfl, Nat.le_of_ble_eq_true rfl⟩ dX0_addLoaf_18 rfl (fun g18 h => ?_)
    refine v_aload_n o 0 dX0_addLoaf_21 rfl ?_
    refine v_dup o dX0_addLoaf_22 rfl ?_
    refine v_gfI o lkX0_22 (by decide) (wfBoard_o ha) dX0_addLoaf_23 ?_
    refine v_iconst o (v := 1) dX0_addLoaf_26 (by decide) ?_
    refine v_iadd o dX0_addLoaf_27 ?_
    refine v_pf o lpX0_22 (wfBoard_o ha) ⟨rfl, rfl⟩ dX0_addLoaf_28 ?_
    refine v_nmf (fun g28 eg28 => ?_)
    replace h := h g28 eg28
    exact v_vret o rfl hr dX0_addLoaf_31 h
abbrev kX0_addLoaf := @vX0_addLoaf
abbrev metX0_addLoaf := @mX0_addLoaf
theorem u0_addLoaf {P : Sk} {f : St} {a b : Nat} {x : Lf} {bd : Bd} {K : St → Prop} (ha : IsBoard P a) (hb : IsLoaf P b) (hd : b + 22 ≤ a ∨ a + 156 ≤ b) (ho : Wok x.1 x.2) (hL : LoafIs f b x) (hB : BoardIs f a bd) (h6 : bd.1.length < 6) (hK : ∀ g, Fr f g a (a + 156) → BoardIs g a (bd.1 ++ [x], bd.2) → K g) : kX0_addLoaf P f a b K := by
  show vX0_addLoaf P f a b K
  unfold vX0_addLoaf
  obtain ⟨h1, h2, h3, h4, h5⟩ := hB
  have hat := is_atB ha (f a 2)
  rw [h1, atB_n h6] at hat
  rw [h1, show (6 : Int32) = nI 6 from rfl, nI_leI (by omega) (by omega), atB_n h6]
  refine ⟨fun q => absurd q (by omega), fun _ => ?_⟩
  refine u2_copyFrom hat hb (by omega) ho hL (fun g r q g2 e => hK g2 ?_ ?_)
  · rw [e]
    exact (r.mono (by omega) (by omega)).trans (fr_setf _ (by omega) (by omega))
  · have ea := r a (by omega)
    have hr2 : Fr g g2 a (a + 1) := by rw [e]; exact fr_setf _ (by omega) (by omega)
    refine ⟨?_, ?_, ?_, ?_, fun i hi => ?_⟩
    · rw [e, setf_same, ea, h1, nI_1]
      simp
    · rw [e, setf_off (Or.inr (by omega)), ea]
      exact h2
    · rw [e, setf_off (Or.inr (by omega)), ea]
      exact h3
    · rw [e, setf_off (Or.inr (by omega)), ea]
      exact h4
    · simp only [List.length_append, List.length_cons, List.length_nil] at hi
      show LoafIs g2 _ (lfAt (bd.1 ++ [x]) i)
      by_cases c : i = bd.1.length
      · rw [c, lf_app2]
        exact q.out hr2 (by omega)
      · rw [lf_app1 _ _ (show i < bd.1.length by omega)]
        exact ((h5 i (by omega)).out r (by omega)).out hr2 (by omega)

def vX0_changes (P : Sk) (f : St) (a : Nat) (K : Int32 → St → Prop) : Prop :=
  K (f a 3) f
set_option maxRecDepth 20000 in
set_option maxHeartbeats 4000000 in
theorem mX0_changes (l : Launch) (G : Gl) (P : Sk) (f : St) (sz : Nat) (a : Nat) (ha : IsBoard P a) (K : Int32 → St → Prop) (h : vX0_changes P f a K)  :
  Met l yX0_changes (wU yX0_changes cX0_changes 1 (some .int)) rmX0_changes (PcW G P f sz [.ref a]) (QcI G P sz K) 0 0 (frA P sz) := by
  refine v_met (own := RX0) [.ref a] (by decide +kernel) rfl (Nat.le_of_ble_eq_true rfl) (fun p e s m args below meth c hsz o hr hnm => ?_)
  refine v_lv (lv2 := [(0, .ref a)]) rfl ?_
  unfold vX0_changes at h
  refine v_aload_n o 0 dX0_changes_0 rfl ?_
  refine v_gfI o lkX0_26 (by decide) (wfBoard_o ha) dX0_changes_1 ?_
  exact v_iret o rfl hr dX0_changes_4 h
abbrev kX0_changes := @vX0_changes
abbrev metX0_changes := @mX0_changes

def vX0_addChange (P : Sk) (f : St) (a : Nat) (K : St → Prop) : Prop :=
  ∀ g7 : St, g7 = setf f a 3 ((f a 3) + 1) → K g7
set_option maxRecDepth 20000 in
set_option maxHeartbeats 4000000 in
theorem mX0_addChange (l : Launch) (G : Gl) (P : Sk) (f : St) (sz : Nat) (a : Nat) (ha : IsBoard P a) (K : St → Prop) (h : vX0_addChange P f a K)  :
  Met l yX0_addChange (wU yX0_addChange cX0_addChange 1 none) rmX0_addChange (PcW G P f sz [.ref a]) (QcV G P sz K) 0 0 (frA P sz) := by
  refine v_met (own := RX0) [.ref a] (by decide +kernel) rfl (Nat.le_of_ble_eq_true rfl) (fun p e s m args below meth c hsz o hr hnm => ?_)
  refine v_lv (lv2 := [(0, .ref a)]) rfl ?_
  unfold vX0_addChange at h
  refine v_aload_n o 0 dX0_addChange_0 rfl ?_
  refine v_dup o dX0_addChange_1 rfl ?_
  refine v_gfI o lkX0_26 (by decide) (wfBoard_o ha) dX0_addChange_2 ?_
  refine v_iconst o (v := 1) dX0_addChange_5 (by decide) ?_
  refine v_iadd o dX0_addChange_6 ?_
  refine v_pf o lpX0_26 (wfBoard_o ha) ⟨rfl, rfl⟩ dX0_addChange_7 ?_
  refine v_nmf (fun g7 eg7 => ?_)
  replace h := h g7 eg7
  exact v_vret o rfl hr dX0_addChange_10 h
abbrev kX0_addChange := @vX0_addChange
abbrev metX0_addChange := @mX0_addChange

def vX0_stopPart (P : Sk) (f : St) (a : Nat) (K : Int32 → St → Prop) : Prop :=
  K (f a 4) f
set_option maxRecDepth 20000 in
set_option maxHeartbeats 4000000 in
theorem mX0_stopPart (l : Launch) (G : Gl) (P : Sk) (f : St) (sz : Nat) (a : Nat) (ha : IsBoard P a) (K : Int32 → St → Prop) (h : vX0_stopPart P f a K)  :
  Met l yX0_stopPart (wU yX0_stopPart cX0_stopPart 1 (some .int)) rmX0_stopPart (PcW G P f sz [.ref a]) (QcI G P sz K) 0 0 (frA P sz) := by
  refine v_met (own := RX0) [.ref a] (by decide +kernel) rfl (Nat.le_of_ble_eq_true rfl) (fun p e s m args below meth c hsz o hr hnm => ?_)
  refine v_lv (lv2 := [(0, .ref a)]) rfl ?_
  unfold vX0_stopPart at h
  refine v_aload_n o 0 dX0_stopPart_0 rfl ?_
  refine v_gfI o lkX0_29 (by decide) (wfBoard_o ha) dX0_stopPart_1 ?_
  exact v_iret o rfl hr dX0_stopPart_4 h
abbrev kX0_stopPart := @vX0_stopPart
abbrev metX0_stopPart := @mX0_stopPart

def vX0_stopReason (P : Sk) (f : St) (a : Nat) (K : Int32 → St → Prop) : Prop :=
  K (f a 5) f
set_option maxRecDepth 20000 in
set_option maxHeartbeats 4000000 in
theorem mX0_stopReason (l : Launch) (G : Gl) (P : Sk) (f : St) (sz : Nat) (a : Nat) (ha : IsBoard P a) (K : Int32 → St → Prop) (h : vX0_stopReason P f a K)  :
  Met l yX0_stopReason (wU yX0_stopReason cX0_stopReason 1 (some .int)) rmX0_stopReason (PcW G P f sz [.ref a]) (QcI G P sz K) 0 0 (frA P sz) := by
  refine v_met (own := RX0) [.ref a] (by decide +kernel) rfl (Nat.le_of_ble_eq_true rfl) (fun p e s m args below meth c hsz o hr hnm => ?_)
  refine v_lv (lv2 := [(0, .ref a)]) rfl ?_
  unfold vX0_stopReason at h
  refine v_aload_n o 0 dX0_stopReason_0 rfl ?_
  refine v_gfI o lkX0_32 (by decide) (wfBoard_o ha) dX0_stopReason_1 ?_
  exact v_iret o rfl hr dX0_stopReason_4 h
abbrev kX0_stopReason := @vX0_stopReason
abbrev metX0_stopReason := @mX0_stopReason

def vX0_setStop (P : Sk) (f : St) (a : Nat) (p1 : Int32) (p2 : Int32) (K : St → Prop) : Prop :=
  ∀ g2 : St, g2 = setf f a 4 p1 → ∀ g7 : St, g7 = setf g2 a 5 p2 → K g7
set_option maxRecDepth 20000 in
set_option maxHeartbeats 4000000 in
theorem mX0_setStop (l : Launch) (G : Gl) (P : Sk) (f : St) (sz : Nat) (a : Nat) (ha : IsBoard P a) (p1 : Int32) (p2 : Int32) (K : St → Prop) (h : vX0_setStop P f a p1 p2 K)  :
  Met l yX0_setStop (wU yX0_setStop cX0_setStop 3 none) rmX0_setStop (PcW G P f sz [.ref a, .int p1, .int p2]) (QcV G P sz K) 0 0 (frA P sz) := by
  refine v_met (own := RX0) [.ref a, .int p1, .int p2] (by decide +kernel) rfl (Nat.le_of_ble_eq_true rfl) (fun p e s m args below meth c hsz o hr hnm => ?_)
  refine v_lv (lv2 := [(0, .ref a), (1, .int p1), (2, .int p2)]) rfl ?_
  unfold vX0_setStop at h
  refine v_aload_n o 0 dX0_setStop_0 rfl ?_
  refine v_iload_n o 1 dX0_setStop_1 rfl ?_
  refine v_pf o lpX0_29 (wfBoard_o ha) ⟨rfl, rfl⟩ dX0_setStop_2 ?_
  refine v_nmf (fun g2 eg2 => ?_)
  replace h := h g2 eg2
  refine v_aload_n o 0 dX0_setStop_5 rfl ?_
  refine v_iload_n o 2 dX0_setStop_6 rfl ?_
  refine v_pf o lpX0_32 (wfBoard_o ha) ⟨rfl, rfl⟩ dX0_setStop_7 ?_
  refine v_nmf (fun g7 eg7 => ?_)
  replace h := h g7 eg7
  exact v_vret o rfl hr dX0_setStop_10 h
abbrev kX0_setStop := @vX0_setStop
abbrev metX0_setStop := @mX0_setStop

def bX0_copyFrom_34 (P : Sk) (a : Nat) (b1 : Nat) (L34 : St → Int32 → Prop) (K : St → Prop) (f : St) (x2 : Int32) : Prop :=
  (f a 2 ≤ x2 → K f) ∧ (¬ f a 2 ≤ x2 → kX2_copyFrom P f (atB a x2) (atB b1 x2) (fun g52 => ∀ x2_55 : Int32, x2_55 = x2 + 1 → L34 g52 x2_55))
def vX0_copyFrom (P : Sk) (f : St) (a : Nat) (b1 : Nat) (L34 : St → Int32 → Prop) (K : St → Prop) : Prop :=
  ∀ g5 : St, g5 = setf f a 2 (f b1 2) → ∀ g13 : St, g13 = setf g5 a 3 (g5 b1 3) → ∀ g21 : St, g21 = setf g13 a 4 (g13 b1 4) → ∀ g29 : St, g29 = setf g21 a 5 (g21 b1 5) → L34 g29 0
set_option maxRecDepth 20000 in
set_option maxHeartbeats 4000000 in
theorem mX0_copyFrom (l : Launch) (G : Gl) (P : Sk) (f : St) (sz : Nat) (a : Nat) (ha : IsBoard P a) (b1 : Nat) (hb1 : IsBoard P b1) (K : St → Prop) (I34 : St → Int32 → Prop) (μ34 : St → Int32 → Nat) 
  (h : vX0_copyFrom P f a b1 I34 K)
  (h34 : ∀ (g : St) (x2 : Int32) , I34 g x2 → bX0_copyFrom_34 P a b1 (fun g' z0 => I34 g' z0 ∧ μ34 g' z0 < μ34 g x2) K g x2) :
  Met l yX0_copyFrom (wU yX0_copyFrom cX0_copyFrom 3 none) rmX0_copyFrom (PcW G P f sz [.ref a, .ref b1]) (QcV G P sz K) 0 0 (frA P sz) := by
  refine v_met (own := RX0) [.ref a, .ref b1] (by decide +kernel) rfl (Nat.le_of_ble_eq_true rfl) (fun p e s m args below meth c hsz o hr hnm => ?_)
  refine v_lv (lv2 := [(0, .ref a), (1, .ref b1)]) rfl ?_
  have main : ∀ n : Nat, (∀ (g : St) (x2 : Int32) , I34 g x2 → μ34 g x2 < n → V p l e rmX0_copyFrom s m args below meth c 3 G (frA P sz) (MQ below (QcV G P sz K) args s 0 0 (frA P sz)) 0 0 P [(0, .ref a), (1, .ref b1), (2, .int x2)] [] 34 g) := by
    intro n
    induction n with
    | zero => exact fun g x2 hI hm => absurd hm (Nat.not_lt_zero _)
    | succ n ih =>
      intro g x2 hI hm
      have h := h34 g x2 hI
      clear hI
      unfold bX0_copyFrom_34 at h
      refine v_iload_n o 2 dX0_copyFrom_34 rfl ?_
      refine v_aload_n o 0 dX0_copyFrom_35 rfl ?_
      refine v_gfI o lkX0_22 (by decide) (wfBoard_o ha) dX0_copyFrom_36 ?_
      refine v_icmp_ge o (tgt := 61) dX0_copyFrom_39 (by decide) (fun c39 => ?_) (fun c39 => ?_)
      · replace h := h.1 c39
        exact v_vret o rfl hr dX0_copyFrom_61 h
      · replace h := h.2 c39
        refine v_aload_n o 0 dX0_copyFrom_42 rfl ?_
        refine v_iload_n o 2 dX0_copyFrom_43 rfl ?_
        refine v_cVr o [.int x2] [] (fun sz => metX0_at l G P g sz a ha x2) (cwX0_35 o.1.2.2.2.2 (by decide)) ⟨_, _, rfl⟩ (by decide) (wfBoard_o ha) rfl (Nat.le_of_ble_eq_true rfl) ⟨Nat.le_of_ble_eq_true rfl, Nat.le_of_ble_eq_true rfl⟩ dX0_copyFrom_44 rfl (fun r44 g44 h44 => ?_)
        obtain ⟨rfl, rfl⟩ := h44
        refine v_aload_n o 1 dX0_copyFrom_47 rfl ?_
        refine v_iload_n o 2 dX0_copyFrom_48 rfl ?_
        refine v_cVr o [.int x2] [.ref (atB a x2)] (fun sz => metX0_at l G P g sz b1 hb1 x2) (cwX0_35 o.1.2.2.2.2 (by decide)) ⟨_, _, rfl⟩ (by decide) (wfBoard_o hb1) rfl (Nat.le_of_ble_eq_true rfl) ⟨Nat.le_of_ble_eq_true rfl, Nat.le_of_ble_eq_true rfl⟩ dX0_copyFrom_49 rfl (fun r49 g49 h49 => ?_)
        obtain ⟨rfl, rfl⟩ := h49
        refine v_cVv o [.ref (atB b1 x2)] [] (fun sz => metX2_copyFrom l G P g sz (atB a x2) (is_atB ha x2) (atB b1 x2) (is_atB hb1 x2) _ h) (cwX0_39 o.1.2.2.2.2 (by decide)) ⟨_, _, rfl⟩ (by decide) (wfLoaf_o (is_atB ha x2)) rfl (Nat.le_of_ble_eq_true rfl) ⟨Nat.le_of_ble_eq_true rfl, Nat.le_of_ble_eq_true rfl⟩ dX0_copyFrom_52 rfl (fun g52 h => ?_)
        obtain ⟨x2_55, ex2_55⟩ : ∃ y : Int32, y = x2 + 1 := ⟨_, rfl⟩
        replace h := h x2_55 ex2_55
        refine v_iinc o (v := x2_55) (lv' := [(2, .int x2_55), (0, .ref a), (1, .ref b1)]) 2 dX0_copyFrom_55 rfl (by rw [ex2_55]; rfl) (by decide) rfl ?_
        refine v_goto o (tgt := 34) dX0_copyFrom_58 (by decide) ?_
        refine v_sub [1, 2, 0] (lv2 := [(0, .ref a), (1, .ref b1), (2, .int x2_55)]) rfl ?_
        exact ih g52 x2_55  h.1 (by have := h.2; omega)
  unfold vX0_copyFrom at h
  refine v_aload_n o 0 dX0_copyFrom_0 rfl ?_
  refine v_aload_n o 1 dX0_copyFrom_1 rfl ?_
  refine v_gfI o lkX0_22 (by decide) (wfBoard_o hb1) dX0_copyFrom_2 ?_
  refine v_pf o lpX0_22 (wfBoard_o ha) ⟨rfl, rfl⟩ dX0_copyFrom_5 ?_
  refine v_nmf (fun g5 eg5 => ?_)
  replace h := h g5 eg5
  refine v_aload_n o 0 dX0_copyFrom_8 rfl ?_
  refine v_aload_n o 1 dX0_copyFrom_9 rfl ?_
  refine v_gfI o lkX0_26 (by decide) (wfBoard_o hb1) dX0_copyFrom_10 ?_
  refine v_pf o lpX0_26 (wfBoard_o ha) ⟨rfl, rfl⟩ dX0_copyFrom_13 ?_
  refine v_nmf (fun g13 eg13 => ?_)
  replace h := h g13 eg13
  refine v_aload_n o 0 dX0_copyFrom_16 rfl ?_
  refine v_aload_n o 1 dX0_copyFrom_17 rfl ?_
  refine v_gfI o lkX0_29 (by decide) (wfBoard_o hb1) dX0_copyFrom_18 ?_
  refine v_pf o lpX0_29 (wfBoard_o ha) ⟨rfl, rfl⟩ dX0_copyFrom_21 ?_
  refine v_nmf (fun g21 eg21 => ?_)
  replace h := h g21 eg21
  refine v_aload_n o 0 dX0_copyFrom_24 rfl ?_
  refine v_aload_n o 1 dX0_copyFrom_25 rfl ?_
  refine v_gfI o lkX0_32 (by decide) (wfBoard_o hb1) dX0_copyFrom_26 ?_
  refine v_pf o lpX0_32 (wfBoard_o ha) ⟨rfl, rfl⟩ dX0_copyFrom_29 ?_
  refine v_nmf (fun g29 eg29 => ?_)
  replace h := h g29 eg29
  refine v_iconst o (v := 0) dX0_copyFrom_32 (by decide) ?_
  refine v_istore_n o (lv' := [(2, .int 0), (0, .ref a), (1, .ref b1)]) dX0_copyFrom_33 rfl (by decide) rfl ?_
  refine v_sub [1, 2, 0] (lv2 := [(0, .ref a), (1, .ref b1), (2, .int 0)]) rfl ?_
  exact (main (μ34 g29 0 + 1)) g29 0  h (Nat.lt_succ_self _)
def WX0_copyFrom (P : Sk) (f : St) (a : Nat) (b1 : Nat) (K : St → Prop) : Prop := ∃ (I34 : St → Int32 → Prop) (μ34 : St → Int32 → Nat), (vX0_copyFrom P f a b1 I34 K) ∧ (∀ (g : St) (x2 : Int32) , I34 g x2 → bX0_copyFrom_34 P a b1 (fun g' z0 => I34 g' z0 ∧ μ34 g' z0 < μ34 g x2) K g x2)
def kX0_copyFrom (P : Sk) (f : St) (a : Nat) (b1 : Nat) (K : St → Prop) : Prop := ∃ bd, BoardIs f b1 bd ∧ Bok bd ∧ (b1 + 156 ≤ a ∨ a + 156 ≤ b1) ∧ ∀ g, Fr f g a (a + 156) → BoardIs g a bd → K g
theorem wX0_copyFrom (P : Sk) (f : St) (a : Nat) (ha : IsBoard P a) (b1 : Nat) (hb1 : IsBoard P b1) (K : St → Prop) (h : kX0_copyFrom P f a b1 K) : WX0_copyFrom P f a b1 K := by
  obtain ⟨bd, hB, ho, hd, hK⟩ := h
  have h6 := ho.1
  refine ⟨fun g x => ∃ k, x = nI k ∧ k ≤ bd.1.length ∧ Fr f g a (a + 156) ∧ g a 2 = nI bd.1.length ∧ g a 3 = bd.2.1 ∧ g a 4 = bd.2.2.1 ∧ g a 5 = bd.2.2.2 ∧ ∀ j, j < k → LoafIs g (a + 24 + 22 * j) (lfAt bd.1 j), fun g x => bd.1.length - x.toNatClampNeg, ?_, ?_⟩
  · obtain ⟨h1, h2, h3, h4, h5⟩ := hB
    unfold vX0_copyFrom
    intro g1 e1 g2 e2 g3 e3 g4 e4
    have r1 : g1 b1 = f b1 := by rw [e1, setf_row (by omega)]
    have r2 : g2 b1 = f b1 := by rw [e2, setf_row (by omega), r1]
    have r3 : g3 b1 = f b1 := by rw [e3, setf_row (by omega), r2]
    rw [r3, h4] at e4
    rw [r2, h3] at e3
    rw [r1, h2] at e2
    rw [h1] at e1
    refine ⟨0, rfl, Nat.zero_le _, ?_, ?_, ?_, ?_, ?_, fun j hj => absurd hj (Nat.not_lt_zero _)⟩
    · intro q hq
      rw [e4, setf_row (by omega), e3, setf_row (by omega), e2, setf_row (by omega), e1, setf_row (by omega)]
    · rw [e4, setf_off (Or.inr (by omega)), e3, setf_off (Or.inr (by omega)), e2, setf_off (Or.inr (by omega)), e1, setf_same]
    · rw [e4, setf_off (Or.inr (by omega)), e3, setf_off (Or.inr (by omega)), e2, setf_same]
    · rw [e4, setf_off (Or.inr (by omega)), e3, setf_same]
    · rw [e4, setf_same]
  · rintro g x ⟨k, rfl, hk, hfr, h1, h2, h3, h4, hA⟩
    have hB' := hB.out h6 hfr hd
    unfold bX0_copyFrom_34
    rw [h1, nI_leI (by omega) (by omega)]
    refine ⟨fun q => hK g hfr ⟨h1, h2, h3, h4, fun i hi => hA i (by omega)⟩, fun q => ?_⟩
    rw [nI_1, atB_n (by omega), atB_n (by omega)]
    have hx := ho.at (i := k) (by omega)
    refine u2_copyFrom (wfBoard_at ha k (by omega)) (wfBoard_at hb1 k (by omega)) (by omega) hx.1 (hB'.2.2.2.2 k (by omega)) (fun g2 r2 q2 x e => ?_)
    have ea := r2 a (by omega)
    refine ⟨⟨k + 1, e, by omega, hfr.trans (r2.mono (by omega) (by omega)), by rw [ea]; exact h1, by rw [ea]; exact h2, by rw [ea]; exact h3, by rw [ea]; exact h4, fun j hj => ?_⟩, mu_up e (by omega) (by omega)⟩
    by_cases c : j = k
    · rw [c]
      exact q2
    · exact (hA j (by omega)).out r2 (by omega)

theorem metX0_copyFrom (l : Launch) (G : Gl) (P : Sk) (f : St) (sz : Nat) (a : Nat) (ha : IsBoard P a) (b1 : Nat) (hb1 : IsBoard P b1) (K : St → Prop) (h : kX0_copyFrom P f a b1 K) : Met l yX0_copyFrom (wU yX0_copyFrom cX0_copyFrom 3 none) rmX0_copyFrom (PcW G P f sz [.ref a, .ref b1]) (QcV G P sz K) 0 0 (frA P sz) := by
  obtain ⟨I34, μ34, qh, qh34⟩ := wX0_copyFrom P f a ha b1 hb1 K h
  exact mX0_copyFrom l G P f sz a ha b1 hb1 K I34 μ34 qh qh34

def vX1_size (P : Sk) (f : St) (a : Nat) (K : Int32 → St → Prop) : Prop :=
  K (f a 3) f
set_option maxRecDepth 20000 in
set_option maxHeartbeats 4000000 in
theorem mX1_size (l : Launch) (G : Gl) (P : Sk) (f : St) (sz : Nat) (a : Nat) (ha : IsHist P a) (K : Int32 → St → Prop) (h : vX1_size P f a K)  :
  Met l yX1_size (wU yX1_size cX1_size 1 (some .int)) rmX1_size (PcW G P f sz [.ref a]) (QcI G P sz K) 0 0 (frA P sz) := by
  refine v_met (own := RX1) [.ref a] (by decide +kernel) rfl (Nat.le_of_ble_eq_true rfl) (fun p e s m args below meth c hsz o hr hnm => ?_)
  refine v_lv (lv2 := [(0, .ref a)]) rfl ?_
  unfold vX1_size at h
  refine v_aload_n o 0 dX1_size_0 rfl ?_
  refine v_gfI o lkX1_26 (by decide) (wfHist_o ha) dX1_size_1 ?_
  exact v_iret o rfl hr dX1_size_4 h
abbrev kX1_size := @vX1_size
abbrev metX1_size := @mX1_size

def jX1_at_34 (P : Sk) (a : Nat) (p1 : Int32) (K : Nat → St → Prop) (x2 : Int32) (f : St) : Prop :=
  K (a + 2) f
def vX1_at (P : Sk) (f : St) (a : Nat) (p1 : Int32) (K : Nat → St → Prop) : Prop :=
  kJ9_floorMod_7cf53 P f ((f a 2) + p1) 6 (fun r8 g8 => (r8 < 0 → jX1_at_34 P a p1 K r8 g8) ∧ (¬ r8 < 0 → (nI 6 ≤ r8 → jX1_at_34 P a p1 K r8 g8) ∧ (¬ nI 6 ≤ r8 → vp_in r8 6 ∧ (vp_in r8 6 ∧ (K (a + 158 + 156 * r8.toNatClampNeg) g8)))))
set_option maxRecDepth 20000 in
set_option maxHeartbeats 4000000 in
theorem mX1_at (l : Launch) (G : Gl) (P : Sk) (f : St) (sz : Nat) (a : Nat) (ha : IsHist P a) (p1 : Int32) (K : Nat → St → Prop) (h : vX1_at P f a p1 K)  :
  Met l yX1_at (wU yX1_at cX1_at 3 (some (.object "StrandLoaves$Board"))) rmX1_at (PcW G P f sz [.ref a, .int p1]) (QcR G P sz K) 0 0 (frA P sz) := by
  refine v_met (own := RX1) [.ref a, .int p1] (by decide +kernel) rfl (Nat.le_of_ble_eq_true rfl) (fun p e s m args below meth c hsz o hr hnm => ?_)
  refine v_lv (lv2 := [(0, .ref a), (1, .int p1)]) rfl ?_
  have J34 : ∀ (x2_34 : Int32) (g34 : St), jX1_at_34 P a p1 K x2_34 g34 → V p l e rmX1_at s m args below meth c 3 G (frA P sz) (MQ below (QcR G P sz K) args s 0 0 (frA P sz)) 0 0 P [(0, .ref a), (1, .int p1), (2, .int x2_34)] [] 34 g34 := by
    intro x2_34 g34  h
    unfold jX1_at_34 at h
    refine v_aload_n o 0 dX1_at_34 rfl ?_
    refine v_gfR o lkX1_18 (by decide) (wfHist_o ha) (wfHist_r1 ha) dX1_at_35 ?_
    exact v_aret o rfl hr (Or.inl ⟨_, rfl⟩) dX1_at_38 h
  unfold vX1_at at h
  refine v_aload_n o 0 dX1_at_0 rfl ?_
  refine v_gfI o lkX1_22 (by decide) (wfHist_o ha) dX1_at_1 ?_
  refine v_iload_n o 1 dX1_at_4 rfl ?_
  refine v_iadd o dX1_at_5 ?_
  refine v_bipush o (v := 6) dX1_at_6 (by decide) ?_
  refine v_cSi o [.int ((f a 2) + p1), .int 6] [] (fun sz => metJ9_floorMod_7cf53 l G P f sz ((f a 2) + p1) 6 _ h) (cwX1_29 o.1.2.2.2.2 (by decide)) rfl (Nat.le_of_ble_eq_true rfl) ⟨Nat.le_of_ble_eq_true rfl, Nat.le_of_ble_eq_true rfl⟩ dX1_at_8 rfl (fun r8 g8 h => ?_)
  refine v_istore_n o (lv' := [(2, .int r8), (0, .ref a), (1, .int p1)]) dX1_at_11 rfl (by decide) rfl ?_
  refine v_iload_n o 0 dX1_at_12 rfl ?_
  refine v_if_lt o (tgt := 34) dX1_at_13 (by decide) (fun c13 => ?_) (fun c13 => ?_)
  · replace h := h.1 c13
    refine v_sub [1, 2, 0] (lv2 := [(0, .ref a), (1, .int p1), (2, .int r8)]) rfl ?_
    exact J34 r8 g8  h
  · replace h := h.2 c13
    refine v_iload_n o 0 dX1_at_16 rfl ?_
    refine v_aload_n o 1 dX1_at_17 rfl ?_
    refine v_gfR o lkX1_11 (by decide) (wfHist_o ha) (wfHist_r0 ha) dX1_at_18 ?_
    refine v_alen12 o (wfHist_t0 ha) (wfHist_n0 ha) dX1_at_21 ?_
    refine v_icmp_ge o (tgt := 34) dX1_at_22 (by decide) (fun c22 => ?_) (fun c22 => ?_)
    · replace h := h.1 c22
      refine v_sub [1, 2, 0] (lv2 := [(0, .ref a), (1, .int p1), (2, .int r8)]) rfl ?_
      exact J34 r8 g8  h
    · replace h := h.2 c22
      refine v_aload_n o 1 dX1_at_25 rfl ?_
      refine v_gfR o lkX1_11 (by decide) (wfHist_o ha) (wfHist_r0 ha) dX1_at_26 ?_
      refine v_iload_n o 0 dX1_at_29 rfl ?_
      have hi30 := h.1
      replace h := h.2
      refine v_aald12 o (wfHist_t0 ha) (wfHist_n0 ha) hi30 (wfHist_ar ha _ (vin_lt hi30)) dX1_at_30 ?_
      refine v_ifnonnull o (tgt := 39) dX1_at_31 (by decide) ?_
      refine v_aload_n o 1 dX1_at_39 rfl ?_
      refine v_gfR o lkX1_11 (by decide) (wfHist_o ha) (wfHist_r0 ha) dX1_at_40 ?_
      refine v_iload_n o 0 dX1_at_43 rfl ?_
      have hi44 := h.1
      replace h := h.2
      refine v_aald12 o (wfHist_t0 ha) (wfHist_n0 ha) hi44 (wfHist_ar ha _ (vin_lt hi44)) dX1_at_44 ?_
      exact v_aret o rfl hr (Or.inl ⟨_, rfl⟩) dX1_at_45 h
theorem metX1_at (l : Launch) (G : Gl) (P : Sk) (f : St) (sz : Nat) (a : Nat) (ha : IsHist P a) (p1 : Int32) : Met l yX1_at (wU yX1_at cX1_at 3 (some (.object "StrandLoaves$Board"))) rmX1_at (PcW G P f sz [.ref a, .int p1]) (QcR G P sz (fun r g => r = (atH a (fm6 (f a 2 + p1))) ∧ f = g)) 0 0 (frA P sz) := by
  refine mX1_at l G P f sz a ha p1 _ ?_
  unfold vX1_at jX1_at_34
  refine u9_floorMod ?_
  generalize fm6 (f a 2 + p1) = r
  refine ⟨fun q => ⟨?_, rfl⟩, fun q => ⟨fun q2 => ⟨?_, rfl⟩, fun q2 => ?_⟩⟩
  · unfold atH
    rw [if_pos (Or.inl q)]
  · unfold atH
    rw [if_pos (show r < 0 ∨ (6 : Int32) ≤ r from Or.inr q2)]
  · have h6 : ¬ (r < 0 ∨ 6 ≤ r) := fun h => h.elim q q2
    refine ⟨i6_in h6, i6_in h6, ?_, rfl⟩
    unfold atH
    rw [if_neg h6]


def vX1_save (P : Sk) (f : St) (a : Nat) (b1 : Nat) (K : St → Prop) : Prop :=
  kX0_copyFrom P f (atH a (fm6 (f a 2 + (f a 3)))) b1 (fun g9 => (6 ≤ g9 a 3 → kJ9_floorMod_7cf53 P g9 ((g9 a 2) + 1) 6 (fun r43 g43 => ∀ g46 : St, g46 = setf g43 a 2 r43 → K g46)) ∧ (¬ 6 ≤ g9 a 3 → ∀ g28 : St, g28 = setf g9 a 3 ((g9 a 3) + 1) → K g28))
set_option maxRecDepth 20000 in
set_option maxHeartbeats 4000000 in
theorem mX1_save (l : Launch) (G : Gl) (P : Sk) (f : St) (sz : Nat) (a : Nat) (ha : IsHist P a) (b1 : Nat) (hb1 : IsBoard P b1) (K : St → Prop) (h : vX1_save P f a b1 K)  :
  Met l yX1_save (wU yX1_save cX1_save 2 none) rmX1_save (PcW G P f sz [.ref a, .ref b1]) (QcV G P sz K) 0 0 (frA P sz) := by
  refine v_met (own := RX1) [.ref a, .ref b1] (by decide +kernel) rfl (Nat.le_of_ble_eq_true rfl) (fun p e s m args below meth c hsz o hr hnm => ?_)
  refine v_lv (lv2 := [(0, .ref a), (1, .ref b1)]) rfl ?_
  unfold vX1_save at h
  refine v_aload_n o 0 dX1_save_0 rfl ?_
  refine v_aload_n o 0 dX1_save_1 rfl ?_
  refine v_gfI o lkX1_26 (by decide) (wfHist_o ha) dX1_save_2 ?_
  refine v_cVr o [.int (f a 3)] [] (fun sz => metX1_at l G P f sz a ha (f a 3)) (cwX1_35 o.1.2.2.2.2 (by decide)) ⟨_, _, rfl⟩ (by decide) (wfHist_o ha) rfl (Nat.le_of_ble_eq_true rfl) ⟨Nat.le_of_ble_eq_true rfl, Nat.le_of_ble_eq_true rfl⟩ dX1_save_5 rfl (fun r5 g5 h5 => ?_)
  obtain ⟨rfl, rfl⟩ := h5
  refine v_aload_n o 1 dX1_save_8 rfl ?_
  refine v_cVv o [.ref b1] [] (fun sz => metX0_copyFrom l G P f sz (atH a (fm6 (f a 2 + (f a 3)))) (is_atH ha (fm6 (f a 2 + (f a 3)))) b1 hb1 _ h) (cwX1_39 o.1.2.2.2.2 (by decide)) ⟨_, _, rfl⟩ (by decide) (wfBoard_o (is_atH ha (fm6 (f a 2 + (f a 3))))) rfl (Nat.le_of_ble_eq_true rfl) ⟨Nat.le_of_ble_eq_true rfl, Nat.le_of_ble_eq_true rfl⟩ dX1_save_9 rfl (fun g9 h => ?_)
  refine v_aload_n o 0 dX1_save_12 rfl ?_
  refine v_gfI o lkX1_26 (by decide) (wfHist_o ha) dX1_save_13 ?_
  refine v_bipush o (v := 6) dX1_save_16 (by decide) ?_
  refine v_icmp_ge o (tgt := 34) dX1_save_18 (by decide) (fun c18 => ?_) (fun c18 => ?_)
  · replace h := h.1 c18
    refine v_aload_n o 0 dX1_save_34 rfl ?_
    refine v_aload_n o 0 dX1_save_35 rfl ?_
    refine v_gfI o lkX1_22 (by decide) (wfHist_o ha) dX1_save_36 ?_
    refine v_iconst o (v := 1) dX1_save_39 (by decide) ?_
    refine v_iadd o dX1_save_40 ?_
    refine v_bipush o (v := 6) dX1_save_41 (by decide) ?_
    refine v_cSi o [.int ((g9 a 2) + 1), .int 6] [.ref a] (fun sz => metJ9_floorMod_7cf53 l G P g9 sz ((g9 a 2) + 1) 6 _ h) (cwX1_29 o.1.2.2.2.2 (by decide)) rfl (Nat.le_of_ble_eq_true rfl) ⟨Nat.le_of_ble_eq_true rfl, Nat.le_of_ble_eq_true rfl⟩ dX1_save_43 rfl (fun r43 g43 h => ?_)
    refine v_pf o lpX1_22 (wfHist_o ha) ⟨rfl, rfl⟩ dX1_save_46 ?_
    refine v_nmf (fun g46 eg46 => ?_)
    replace h := h g46 eg46
    exact v_vret o rfl hr dX1_save_49 h
  · replace h := h.2 c18
    refine v_aload_n o 0 dX1_save_21 rfl ?_
    refine v_dup o dX1_save_22 rfl ?_
    refine v_gfI o lkX1_26 (by decide) (wfHist_o ha) dX1_save_23 ?_
    refine v_iconst o (v := 1) dX1_save_26 (by decide) ?_
    refine v_iadd o dX1_save_27 ?_
    refine v_pf o lpX1_26 (wfHist_o ha) ⟨rfl, rfl⟩ dX1_save_28 ?_
    refine v_nmf (fun g28 eg28 => ?_)
    replace h := h g28 eg28
    refine v_goto o (tgt := 49) dX1_save_31 (by decide) ?_
    exact v_vret o rfl hr dX1_save_49 h
abbrev kX1_save := @vX1_save
abbrev metX1_save := @mX1_save
theorem u1_save {P : Sk} {f : St} {a b : Nat} {bd : Bd} {hs : List Bd} {K : St → Prop} (hd : b + 156 ≤ a ∨ a + 1094 ≤ b) (hB : BoardIs f b bd) (ho : Bok bd) (hH : HistIs f a hs) (hk : Hok hs) (hK : ∀ g, Fr f g a (a + 1094) → HistIs g a (svH hs bd) → K g) : kX1_save P f a b K := by
  show vX1_save P f a b K
  unfold vX1_save
  obtain ⟨o, h0, h1, h2, h3⟩ := hH
  have h6 := hk.1
  have hm := Nat.mod_lt (o + hs.length) (show 0 < 6 by decide)
  rw [h1, h2, nI_add, fm6_n _ (by omega), atH_n hm]
  refine ⟨bd, hB, ho, by omega, fun g r q => ?_⟩
  have ea := r a (by omega)
  change _ ∧ _
  rw [ea, h1, h2, show (6 : Int32) = nI 6 from rfl, nI_leI (by omega) (by omega)]
  have keep : ∀ i, i < hs.length → (o + i) % 6 ≠ (o + hs.length) % 6 → BoardIs g (a + 158 + 156 * ((o + i) % 6)) (bdAt hs i) := by
    intro i hi hne
    have := Nat.mod_lt (o + i) (show 0 < 6 by decide)
    exact (h3 i hi).out (hk.2 _ (bd_mem hi)).1 r (by omega)
  refine ⟨fun c => ?_, fun c g2 e => ?_⟩
  · have hl : hs.length = 6 := by omega
    refine u9_floorMod ?_
    rw [nI_1, fm6_n _ (by omega)]
    intro g2 e
    have hr2 : Fr g g2 a (a + 1) := by rw [e]; exact fr_setf _ (by omega) (by omega)
    refine hK g2 ((r.mono (by omega) (by omega)).trans (hr2.mono (by omega) (by omega))) ⟨(o + 1) % 6, Nat.mod_lt _ (by decide), ?_, ?_, fun i hi => ?_⟩
    · rw [e, setf_same]
    · rw [e, setf_off (Or.inr (by omega)), ea, h2, svH_len _ _ h6, if_neg (by omega), hl]
    · rw [svH_len _ _ h6, if_neg (by omega)] at hi
      unfold svH
      rw [if_neg (by omega)]
      have ht : hs.tail.length = 5 := by rw [List.length_tail]; omega
      have em : ((o + 1) % 6 + i) % 6 = (o + (i + 1)) % 6 := by omega
      rw [em]
      by_cases c2 : i = 5
      · have : bdAt (hs.tail ++ [bd]) i = bd := by
          have := bd_app2 hs.tail bd
          rw [ht] at this
          rw [c2]
          exact this
        rw [this, c2, show (o + (5 + 1)) % 6 = (o + hs.length) % 6 by omega]
        exact q.out ho.1 hr2 (by omega)
      · rw [bd_app1 _ _ (by omega), bd_tail]
        have := Nat.mod_lt (o + (i + 1)) (show 0 < 6 by decide)
        exact (keep (i + 1) (by omega) (by omega)).out (hk.2 _ (bd_mem (by omega))).1 hr2 (by omega)
  · have hr2 : Fr g g2 a (a + 1) := by rw [e]; exact fr_setf _ (by omega) (by omega)
    refine hK g2 ((r.mono (by omega) (by omega)).trans (hr2.mono (by omega) (by omega))) ⟨o, h0, ?_, ?_, fun i hi => ?_⟩
    · rw [e, setf_off (Or.inr (by omega)), ea, h1]
    · rw [e, setf_same, svH_len _ _ h6, if_pos (by omega), nI_1]
    · rw [svH_len _ _ h6, if_pos (by omega)] at hi
      unfold svH
      rw [if_pos (by omega)]
      by_cases c2 : i = hs.length
      · rw [c2, bd_app2]
        exact q.out ho.1 hr2 (by omega)
      · rw [bd_app1 _ _ (by omega)]
        have := Nat.mod_lt (o + i) (show 0 < 6 by decide)
        exact (keep i (by omega) (by omega)).out (hk.2 _ (bd_mem (by omega))).1 hr2 (by omega)

def vX1_takeBack (P : Sk) (f : St) (a : Nat) (b1 : Nat) (K : St → Prop) : Prop :=
  (f a 3 ≤ 0 → K f) ∧ (¬ f a 3 ≤ 0 → ∀ g14 : St, g14 = setf f a 3 ((f a 3) - 1) → kX0_copyFrom P g14 b1 (atH a (fm6 (g14 a 2 + (g14 a 3)))) (fun g26 => K g26))
set_option maxRecDepth 20000 in
set_option maxHeartbeats 4000000 in
theorem mX1_takeBack (l : Launch) (G : Gl) (P : Sk) (f : St) (sz : Nat) (a : Nat) (ha : IsHist P a) (b1 : Nat) (hb1 : IsBoard P b1) (K : St → Prop) (h : vX1_takeBack P f a b1 K)  :
  Met l yX1_takeBack (wU yX1_takeBack cX1_takeBack 2 none) rmX1_takeBack (PcW G P f sz [.ref a, .ref b1]) (QcV G P sz K) 0 0 (frA P sz) := by
  refine v_met (own := RX1) [.ref a, .ref b1] (by decide +kernel) rfl (Nat.le_of_ble_eq_true rfl) (fun p e s m args below meth c hsz o hr hnm => ?_)
  refine v_lv (lv2 := [(0, .ref a), (1, .ref b1)]) rfl ?_
  unfold vX1_takeBack at h
  refine v_aload_n o 0 dX1_takeBack_0 rfl ?_
  refine v_gfI o lkX1_26 (by decide) (wfHist_o ha) dX1_takeBack_1 ?_
  refine v_if_le o (tgt := 29) dX1_takeBack_4 (by decide) (fun c4 => ?_) (fun c4 => ?_)
  · replace h := h.1 c4
    exact v_vret o rfl hr dX1_takeBack_29 h
  · replace h := h.2 c4
    refine v_aload_n o 0 dX1_takeBack_7 rfl ?_
    refine v_dup o dX1_takeBack_8 rfl ?_
    refine v_gfI o lkX1_26 (by decide) (wfHist_o ha) dX1_takeBack_9 ?_
    refine v_iconst o (v := 1) dX1_takeBack_12 (by decide) ?_
    refine v_isub o dX1_takeBack_13 ?_
    refine v_pf o lpX1_26 (wfHist_o ha) ⟨rfl, rfl⟩ dX1_takeBack_14 ?_
    refine v_nmf (fun g14 eg14 => ?_)
    replace h := h g14 eg14
    refine v_aload_n o 1 dX1_takeBack_17 rfl ?_
    refine v_aload_n o 0 dX1_takeBack_18 rfl ?_
    refine v_aload_n o 0 dX1_takeBack_19 rfl ?_
    refine v_gfI o lkX1_26 (by decide) (wfHist_o ha) dX1_takeBack_20 ?_
    refine v_cVr o [.int (g14 a 3)] [.ref b1] (fun sz => metX1_at l G P g14 sz a ha (g14 a 3)) (cwX1_35 o.1.2.2.2.2 (by decide)) ⟨_, _, rfl⟩ (by decide) (wfHist_o ha) rfl (Nat.le_of_ble_eq_true rfl) ⟨Nat.le_of_ble_eq_true rfl, Nat.le_of_ble_eq_true rfl⟩ dX1_takeBack_23 rfl (fun r23 g23 h23 => ?_)
    obtain ⟨rfl, rfl⟩ := h23
    refine v_cVv o [.ref (atH a (fm6 (g14 a 2 + (g14 a 3))))] [] (fun sz => metX0_copyFrom l G P g14 sz b1 hb1 (atH a (fm6 (g14 a 2 + (g14 a 3)))) (is_atH ha (fm6 (g14 a 2 + (g14 a 3)))) _ h) (cwX1_39 o.1.2.2.2.2 (by decide)) ⟨_, _, rfl⟩ (by decide) (wfBoard_o hb1) rfl (Nat.le_of_ble_eq_true rfl) ⟨Nat.le_of_ble_eq_true rfl, Nat.le_of_ble_eq_true rfl⟩ dX1_takeBack_26 rfl (fun g26 h => ?_)
    exact v_vret o rfl hr dX1_takeBack_29 h
abbrev kX1_takeBack := @vX1_takeBack
abbrev metX1_takeBack := @mX1_takeBack
theorem u1_takeBack {P : Sk} {f : St} {a b : Nat} {bd : Bd} {hs : List Bd} {K : St → Prop} (hd : b + 156 ≤ a ∨ a + 1094 ≤ b) (hH : HistIs f a (hs ++ [bd])) (hk : Hok (hs ++ [bd])) (hK : ∀ g g2, Fr f g2 a (a + 1) → Fr g2 g b (b + 156) → HistIs g2 a hs → BoardIs g b bd → K g) : kX1_takeBack P f a b K := by
  show vX1_takeBack P f a b K
  unfold vX1_takeBack
  obtain ⟨o, h0, h1, h2, h3⟩ := hH
  have h6 := hk.1
  rw [List.length_append, List.length_cons, List.length_nil] at h2 h3 h6
  rw [h2, show (0 : Int32) = nI 0 from rfl, nI_leI (by omega) (by omega), nI_m1]
  refine ⟨fun q => absurd q (by omega), fun _ g2 e => ?_⟩
  have hm := Nat.mod_lt (o + hs.length) (show 0 < 6 by decide)
  have hr2 : Fr f g2 a (a + 1) := by rw [e]; exact fr_setf _ (by omega) (by omega)
  have e2 : g2 a 2 = nI o := by rw [e, setf_off (Or.inr (by omega))]; exact h1
  have e3 : g2 a 3 = nI hs.length := by rw [e, setf_same]
  rw [e2, e3, nI_add, fm6_n _ (by omega), atH_n hm]
  have hb : Bok bd := hk.2 _ (by simp)
  have h4 := h3 hs.length (by omega)
  rw [bd_app2] at h4
  refine ⟨bd, h4.out hb.1 hr2 (by omega), hb, by omega, fun g r q => hK g g2 hr2 r ⟨o, h0, e2, e3, fun i hi => ?_⟩ q⟩
  have h5 := h3 i (by omega)
  rw [bd_app1 _ _ hi] at h5
  have := Nat.mod_lt (o + i) (show 0 < 6 by decide)
  refine h5.out (hk.2 _ (List.mem_append_left _ (bd_mem hi))).1 hr2 (by omega)

def vX2_word (P : Sk) (f : St) (a : Nat) (K : Nat → St → Prop) : Prop :=
  K (a + 1) f
set_option maxRecDepth 20000 in
set_option maxHeartbeats 4000000 in
theorem mX2_word (l : Launch) (G : Gl) (P : Sk) (f : St) (sz : Nat) (a : Nat) (ha : IsLoaf P a) (K : Nat → St → Prop) (h : vX2_word P f a K)  :
  Met l yX2_word (wU yX2_word cX2_word 1 (some (.object "StrandLoaves$Word"))) rmX2_word (PcW G P f sz [.ref a]) (QcR G P sz K) 0 0 (frA P sz) := by
  refine v_met (own := RX2) [.ref a] (by decide +kernel) rfl (Nat.le_of_ble_eq_true rfl) (fun p e s m args below meth c hsz o hr hnm => ?_)
  refine v_lv (lv2 := [(0, .ref a)]) rfl ?_
  unfold vX2_word at h
  refine v_aload_n o 0 dX2_word_0 rfl ?_
  refine v_gfR o lkX2_12 (by decide) (wfLoaf_o ha) (wfLoaf_r0 ha) dX2_word_1 ?_
  exact v_aret o rfl hr (Or.inl ⟨_, rfl⟩) dX2_word_4 h
theorem metX2_word (l : Launch) (G : Gl) (P : Sk) (f : St) (sz : Nat) (a : Nat) (ha : IsLoaf P a) : Met l yX2_word (wU yX2_word cX2_word 1 (some (.object "StrandLoaves$Word"))) rmX2_word (PcW G P f sz [.ref a]) (QcR G P sz (fun r g => r = (a + 1) ∧ f = g)) 0 0 (frA P sz) := by
  exact mX2_word l G P f sz a ha _ ⟨rfl, rfl⟩


def vX2_looseWord (P : Sk) (f : St) (a : Nat) (K : Nat → St → Prop) : Prop :=
  K (a + 4) f
set_option maxRecDepth 20000 in
set_option maxHeartbeats 4000000 in
theorem mX2_looseWord (l : Launch) (G : Gl) (P : Sk) (f : St) (sz : Nat) (a : Nat) (ha : IsLoaf P a) (K : Nat → St → Prop) (h : vX2_looseWord P f a K)  :
  Met l yX2_looseWord (wU yX2_looseWord cX2_looseWord 1 (some (.object "StrandLoaves$Word"))) rmX2_looseWord (PcW G P f sz [.ref a]) (QcR G P sz K) 0 0 (frA P sz) := by
  refine v_met (own := RX2) [.ref a] (by decide +kernel) rfl (Nat.le_of_ble_eq_true rfl) (fun p e s m args below meth c hsz o hr hnm => ?_)
  refine v_lv (lv2 := [(0, .ref a)]) rfl ?_
  unfold vX2_looseWord at h
  refine v_aload_n o 0 dX2_looseWord_0 rfl ?_
  refine v_gfR o lkX2_18 (by decide) (wfLoaf_o ha) (wfLoaf_r1 ha) dX2_looseWord_1 ?_
  exact v_aret o rfl hr (Or.inl ⟨_, rfl⟩) dX2_looseWord_4 h
theorem metX2_looseWord (l : Launch) (G : Gl) (P : Sk) (f : St) (sz : Nat) (a : Nat) (ha : IsLoaf P a) : Met l yX2_looseWord (wU yX2_looseWord cX2_looseWord 1 (some (.object "StrandLoaves$Word"))) rmX2_looseWord (PcW G P f sz [.ref a]) (QcR G P sz (fun r g => r = (a + 4) ∧ f = g)) 0 0 (frA P sz) := by
  exact mX2_looseWord l G P f sz a ha _ ⟨rfl, rfl⟩


def vX2_trace (P : Sk) (f : St) (a : Nat) (K : Nat → St → Prop) : Prop :=
  K (a + 7) f
set_option maxRecDepth 20000 in
set_option maxHeartbeats 4000000 in
theorem mX2_trace (l : Launch) (G : Gl) (P : Sk) (f : St) (sz : Nat) (a : Nat) (ha : IsLoaf P a) (K : Nat → St → Prop) (h : vX2_trace P f a K)  :
  Met l yX2_trace (wU yX2_trace cX2_trace 1 (some (.object "StrandLoaves$Trace"))) rmX2_trace (PcW G P f sz [.ref a]) (QcR G P sz K) 0 0 (frA P sz) := by
  refine v_met (own := RX2) [.ref a] (by decide +kernel) rfl (Nat.le_of_ble_eq_true rfl) (fun p e s m args below meth c hsz o hr hnm => ?_)
  refine v_lv (lv2 := [(0, .ref a)]) rfl ?_
  unfold vX2_trace at h
  refine v_aload_n o 0 dX2_trace_0 rfl ?_
  refine v_gfR o lkX2_24 (by decide) (wfLoaf_o ha) (wfLoaf_r2 ha) dX2_trace_1 ?_
  exact v_aret o rfl hr (Or.inl ⟨_, rfl⟩) dX2_trace_4 h
theorem metX2_trace (l : Launch) (G : Gl) (P : Sk) (f : St) (sz : Nat) (a : Nat) (ha : IsLoaf P a) : Met l yX2_trace (wU yX2_trace cX2_trace 1 (some (.object "StrandLoaves$Trace"))) rmX2_trace (PcW G P f sz [.ref a]) (QcR G P sz (fun r g => r = (a + 7) ∧ f = g)) 0 0 (frA P sz) := by
  exact mX2_trace l G P f sz a ha _ ⟨rfl, rfl⟩


def vX2_settle (P : Sk) (f : St) (a : Nat) (K : Int32 → St → Prop) : Prop :=
  kX6_makeLoose P f (a + 4) (a + 1) (fun g8 => kX5_follow P g8 (a + 7) (a + 1) (fun g19 => kX5_hasDoughForAll P g19 (a + 7) (fun r26 g26 => (r26 = 0 → K 2 g26) ∧ (¬ r26 = 0 → K 0 g26))))
set_option maxRecDepth 20000 in
set_option maxHeartbeats 4000000 in
theorem mX2_settle (l : Launch) (G : Gl) (P : Sk) (f : St) (sz : Nat) (a : Nat) (ha : IsLoaf P a) (K : Int32 → St → Prop) (h : vX2_settle P f a K)  :
  Met l yX2_settle (wU yX2_settle cX2_settle 1 (some .int)) rmX2_settle (PcW G P f sz [.ref a]) (QcI G P sz K) 0 0 (frA P sz) := by
  refine v_met (own := RX2) [.ref a] (by decide +kernel) rfl (Nat.le_of_ble_eq_true rfl) (fun p e s m args below meth c hsz o hr hnm => ?_)
  refine v_lv (lv2 := [(0, .ref a)]) rfl ?_
  unfold vX2_settle at h
  refine v_aload_n o 0 dX2_settle_0 rfl ?_
  refine v_gfR o lkX2_18 (by decide) (wfLoaf_o ha) (wfLoaf_r1 ha) dX2_settle_1 ?_
  refine v_aload_n o 0 dX2_settle_4 rfl ?_
  refine v_gfR o lkX2_12 (by decide) (wfLoaf_o ha) (wfLoaf_r0 ha) dX2_settle_5 ?_
  refine v_cVv o [.ref (a + 1)] [] (fun sz => metX6_makeLoose l G P f sz (a + 4) (wfLoaf_t1 ha) (a + 1) (wfLoaf_t0 ha) _ h) (cwX2_28 o.1.2.2.2.2 (by decide)) ⟨_, _, rfl⟩ (by decide) (wfWord_o (wfLoaf_t1 ha)) rfl (Nat.le_of_ble_eq_true rfl) ⟨Nat.le_of_ble_eq_true rfl, Nat.le_of_ble_eq_true rfl⟩ dX2_settle_8 rfl (fun g8 h => ?_)
  refine v_aload_n o 0 dX2_settle_11 rfl ?_
  refine v_gfR o lkX2_24 (by decide) (wfLoaf_o ha) (wfLoaf_r2 ha) dX2_settle_12 ?_
  refine v_aload_n o 0 dX2_settle_15 rfl ?_
  refine v_gfR o lkX2_12 (by decide) (wfLoaf_o ha) (wfLoaf_r0 ha) dX2_settle_16 ?_
  refine v_cVv o [.ref (a + 1)] [] (fun sz => metX5_follow l G P g8 sz (a + 7) (wfLoaf_t2 ha) (a + 1) (wfLoaf_t0 ha) _ h) (cwX2_32 o.1.2.2.2.2 (by decide)) ⟨_, _, rfl⟩ (by decide) (wfTrace_o (wfLoaf_t2 ha)) rfl (Nat.le_of_ble_eq_true rfl) ⟨Nat.le_of_ble_eq_true rfl, Nat.le_of_ble_eq_true rfl⟩ dX2_settle_19 rfl (fun g19 h => ?_)
  refine v_aload_n o 0 dX2_settle_22 rfl ?_
  refine v_gfR o lkX2_24 (by decide) (wfLoaf_o ha) (wfLoaf_r2 ha) dX2_settle_23 ?_
  refine v_cVi o [] [] (fun sz => metX5_hasDoughForAll l G P g19 sz (a + 7) (wfLoaf_t2 ha) _ h) (cwX2_35 o.1.2.2.2.2 (by decide)) ⟨_, _, rfl⟩ (by decide) (wfTrace_o (wfLoaf_t2 ha)) rfl (Nat.le_of_ble_eq_true rfl) ⟨Nat.le_of_ble_eq_true rfl, Nat.le_of_ble_eq_true rfl⟩ dX2_settle_26 rfl (fun r26 g26 h => ?_)
  refine v_if_eq o (tgt := 36) dX2_settle_29 (by decide) (fun c29 => ?_) (fun c29 => ?_)
  · replace h := h.1 c29
    refine v_iconst o (v := 2) dX2_settle_36 (by decide) ?_
    exact v_iret o rfl hr dX2_settle_37 h
  · replace h := h.2 c29
    refine v_iconst o (v := 0) dX2_settle_32 (by decide) ?_
    refine v_goto o (tgt := 37) dX2_settle_33 (by decide) ?_
    exact v_iret o rfl hr dX2_settle_37 h
abbrev kX2_settle := @vX2_settle
abbrev metX2_settle := @mX2_settle
theorem u2_settle {P : Sk} {f : St} {a n : Nat} {w : List Nat} {K : Int32 → St → Prop} (hw : WordIs f (a + 1) n w) (ho : Wok n w) (hK1 : Dok n w → ∀ g, Fr f g a (a + 22) → LoafIs g a (n, w) → K 0 g) (hK0 : ¬ Dok n w → ∀ g, Fr f g a (a + 22) → K 2 g) : kX2_settle P f a K := by
  show vX2_settle P f a K
  unfold vX2_settle
  refine ⟨n, w, hw, ho, by omega, fun g1 r1 q1 => ?_⟩
  have hw1 := hw.out r1 (by omega)
  refine ⟨n, w, hw1, ho, by omega, fun g2 r2 q2 => ?_⟩
  have hr := (r1.mono (lo' := a) (hi' := a + 22) (by omega) (by omega)).trans (r2.mono (by omega) (by omega))
  refine ⟨n, w, q2, ho, fun hd => ⟨fun q => absurd q (by decide), fun _ => hK1 hd g2 hr ⟨hw1.out r2 (by omega), q1.out r2 (by omega), q2⟩⟩, fun hd => ⟨fun _ => hK0 hd g2 hr, fun q => absurd rfl q⟩⟩

def vX2_numberOfCrossing (P : Sk) (f : St) (a : Nat) (p1 : Int32) (p2 : Int32) (K : Int32 → St → Prop) : Prop :=
  (p1 < 0 → K (-1) f) ∧ (¬ p1 < 0 → kX6_size P f (a + 1) (fun r9 g9 => (p1 < r9 → (p2 = 0 → kX6_codeAt P g9 (a + 1) p1 (fun r49 g49 => kX6_placeOf P g49 r49 (fun r52 g52 => K r52 g52))) ∧ (¬ p2 = 0 → (p2 = 1 → kX6_codeAt P g9 (a + 1) p1 (fun r61 g61 => kX6_isRight P g61 r61 (fun r64 g64 => (r64 = 0 → K 0 g64) ∧ (¬ r64 = 0 → K 1 g64)))) ∧ (¬ p2 = 1 → (p2 = 2 → kX5_hiddenAt P g9 (a + 7) p1 (fun r81 g81 => K r81 g81)) ∧ (¬ p2 = 2 → kX5_aboveAt P g9 (a + 7) p1 (fun r90 g90 => K r90 g90))))) ∧ (¬ p1 < r9 → K (-1) g9)))
set_option maxRecDepth 20000 in
set_option maxHeartbeats 4000000 in
theorem mX2_numberOfCrossing (l : Launch) (G : Gl) (P : Sk) (f : St) (sz : Nat) (a : Nat) (ha : IsLoaf P a) (p1 : Int32) (p2 : Int32) (K : Int32 → St → Prop) (h : vX2_numberOfCrossing P f a p1 p2 K)  :
  Met l yX2_numberOfCrossing (wU yX2_numberOfCrossing cX2_numberOfCrossing 3 (some .int)) rmX2_numberOfCrossing (PcW G P f sz [.ref a, .int p1, .int p2]) (QcI G P sz K) 0 0 (frA P sz) := by
  refine v_met (own := RX2) [.ref a, .int p1, .int p2] (by decide +kernel) rfl (Nat.le_of_ble_eq_true rfl) (fun p e s m args below meth c hsz o hr hnm => ?_)
  refine v_lv (lv2 := [(0, .ref a), (1, .int p1), (2, .int p2)]) rfl ?_
  unfold vX2_numberOfCrossing at h
  refine v_iload_n o 1 dX2_numberOfCrossing_0 rfl ?_
  refine v_if_lt o (tgt := 15) dX2_numberOfCrossing_1 (by decide) (fun c1 => ?_) (fun c1 => ?_)
  · replace h := h.1 c1
    refine v_iconst o (v := (-1)) dX2_numberOfCrossing_15 (by decide) ?_
    exact v_iret o rfl hr dX2_numberOfCrossing_16 h
  · replace h := h.2 c1
    refine v_iload_n o 1 dX2_numberOfCrossing_4 rfl ?_
    refine v_aload_n o 0 dX2_numberOfCrossing_5 rfl ?_
    refine v_gfR o lkX2_12 (by decide) (wfLoaf_o ha) (wfLoaf_r0 ha) dX2_numberOfCrossing_6 ?_
    refine v_cVi o [] [.int p1] (fun sz => metX6_size l G P f sz (a + 1) (wfLoaf_t0 ha) _ h) (cwX2_45 o.1.2.2.2.2 (by decide)) ⟨_, _, rfl⟩ (by decide) (wfWord_o (wfLoaf_t0 ha)) rfl (Nat.le_of_ble_eq_true rfl) ⟨Nat.le_of_ble_eq_true rfl, Nat.le_of_ble_eq_true rfl⟩ dX2_numberOfCrossing_9 rfl (fun r9 g9 h => ?_)
    refine v_icmp_lt o (tgt := 17) dX2_numberOfCrossing_12 (by decide) (fun c12 => ?_) (fun c12 => ?_)
    · replace h := h.1 c12
      refine v_iload_n o 2 dX2_numberOfCrossing_17 rfl ?_
      by_cases c18_0 : p2 = 0
      · replace h := h.1 c18_0
        refine v_tableIn o (off := 26) (tgt := 44) dX2_numberOfCrossing_18 (by rw [c18_0]; decide) (by rw [c18_0]; decide) (by rw [c18_0]; decide) (by decide) ?_
        refine v_aload_n o 0 dX2_numberOfCrossing_44 rfl ?_
        refine v_gfR o lkX2_12 (by decide) (wfLoaf_o ha) (wfLoaf_r0 ha) dX2_numberOfCrossing_45 ?_
        refine v_iload_n o 1 dX2_numberOfCrossing_48 rfl ?_
        refine v_cVi o [.int p1] [] (fun sz => metX6_codeAt l G P g9 sz (a + 1) (wfLoaf_t0 ha) p1 _ h) (cwX2_49 o.1.2.2.2.2 (by decide)) ⟨_, _, rfl⟩ (by decide) (wfWord_o (wfLoaf_t0 ha)) rfl (Nat.le_of_ble_eq_true rfl) ⟨Nat.le_of_ble_eq_true rfl, Nat.le_of_ble_eq_true rfl⟩ dX2_numberOfCrossing_49 rfl (fun r49 g49 h => ?_)
        refine v_cSi o [.int r49] [] (fun sz => metX6_placeOf l G P g49 sz r49 _ h) (cwX2_53 o.1.2.2.2.2 (by decide)) rfl (Nat.le_of_ble_eq_true rfl) ⟨Nat.le_of_ble_eq_true rfl, Nat.le_of_ble_eq_true rfl⟩ dX2_numberOfCrossing_52 rfl (fun r52 g52 h => ?_)
        exact v_iret o rfl hr dX2_numberOfCrossing_55 h
      · replace h := h.2 c18_0
        by_cases c18_1 : p2 = 1
        · replace h := h.1 c18_1
          refine v_tableIn o (off := 38) (tgt := 56) dX2_numberOfCrossing_18 (by rw [c18_1]; decide) (by rw [c18_1]; decide) (by rw [c18_1]; decide) (by decide) ?_
          refine v_aload_n o 0 dX2_numberOfCrossing_56 rfl ?_
          refine v_gfR o lkX2_12 (by decide) (wfLoaf_o ha) (wfLoaf_r0 ha) dX2_numberOfCrossing_57 ?_
          refine v_iload_n o 1 dX2_numberOfCrossing_60 rfl ?_
          refine v_cVi o [.int p1] [] (fun sz => metX6_codeAt l G P g9 sz (a + 1) (wfLoaf_t0 ha) p1 _ h) (cwX2_49 o.1.2.2.2.2 (by decide)) ⟨_, _, rfl⟩ (by decide) (wfWord_o (wfLoaf_t0 ha)) rfl (Nat.le_of_ble_eq_true rfl) ⟨Nat.le_of_ble_eq_true rfl, Nat.le_of_ble_eq_true rfl⟩ dX2_numberOfCrossing_61 rfl (fun r61 g61 h => ?_)
          refine v_cSi o [.int r61] [] (fun sz => metX6_isRight l G P g61 sz r61 _ h) (cwX2_56 o.1.2.2.2.2 (by decide)) rfl (Nat.le_of_ble_eq_true rfl) ⟨Nat.le_of_ble_eq_true rfl, Nat.le_of_ble_eq_true rfl⟩ dX2_numberOfCrossing_64 rfl (fun r64 g64 h => ?_)
          refine v_if_eq o (tgt := 74) dX2_numberOfCrossing_67 (by decide) (fun c67 => ?_) (fun c67 => ?_)
          · replace h := h.1 c67
            refine v_iconst o (v := 0) dX2_numberOfCrossing_74 (by decide) ?_
            exact v_iret o rfl hr dX2_numberOfCrossing_75 h
          · replace h := h.2 c67
            refine v_iconst o (v := 1) dX2_numberOfCrossing_70 (by decide) ?_
            refine v_goto o (tgt := 75) dX2_numberOfCrossing_71 (by decide) ?_
            exact v_iret o rfl hr dX2_numberOfCrossing_75 h
        · replace h := h.2 c18_1
          by_cases c18_2 : p2 = 2
          · replace h := h.1 c18_2
            refine v_tableIn o (off := 58) (tgt := 76) dX2_numberOfCrossing_18 (by rw [c18_2]; decide) (by rw [c18_2]; decide) (by rw [c18_2]; decide) (by decide) ?_
            refine v_aload_n o 0 dX2_numberOfCrossing_76 rfl ?_
            refine v_gfR o lkX2_24 (by decide) (wfLoaf_o ha) (wfLoaf_r2 ha) dX2_numberOfCrossing_77 ?_
            refine v_iload_n o 1 dX2_numberOfCrossing_80 rfl ?_
            refine v_cVi o [.int p1] [] (fun sz => metX5_hiddenAt l G P g9 sz (a + 7) (wfLoaf_t2 ha) p1 _ h) (cwX2_60 o.1.2.2.2.2 (by decide)) ⟨_, _, rfl⟩ (by decide) (wfTrace_o (wfLoaf_t2 ha)) rfl (Nat.le_of_ble_eq_true rfl) ⟨Nat.le_of_ble_eq_true rfl, Nat.le_of_ble_eq_true rfl⟩ dX2_numberOfCrossing_81 rfl (fun r81 g81 h => ?_)
            exact v_iret o rfl hr dX2_numberOfCrossing_84 h
          · replace h := h.2 c18_2
            refine v_tableOut o (tgt := 85) dX2_numberOfCrossing_18 (by have q0 := lv_neT c18_0 (a := 0) (by decide); have q1 := lv_neT c18_1 (a := 1) (by decide); have q2 := lv_neT c18_2 (a := 2) (by decide); omega) (by decide) ?_
            refine v_aload_n o 0 dX2_numberOfCrossing_85 rfl ?_
            refine v_gfR o lkX2_24 (by decide) (wfLoaf_o ha) (wfLoaf_r2 ha) dX2_numberOfCrossing_86 ?_
            refine v_iload_n o 1 dX2_numberOfCrossing_89 rfl ?_
            refine v_cVi o [.int p1] [] (fun sz => metX5_aboveAt l G P g9 sz (a + 7) (wfLoaf_t2 ha) p1 _ h) (cwX2_63 o.1.2.2.2.2 (by decide)) ⟨_, _, rfl⟩ (by decide) (wfTrace_o (wfLoaf_t2 ha)) rfl (Nat.le_of_ble_eq_true rfl) ⟨Nat.le_of_ble_eq_true rfl, Nat.le_of_ble_eq_true rfl⟩ dX2_numberOfCrossing_90 rfl (fun r90 g90 h => ?_)
            exact v_iret o rfl hr dX2_numberOfCrossing_93 h
    · replace h := h.2 c12
      refine v_iconst o (v := (-1)) dX2_numberOfCrossing_15 (by decide) ?_
      exact v_iret o rfl hr dX2_numberOfCrossing_16 h
abbrev kX2_numberOfCrossing := @vX2_numberOfCrossing
abbrev metX2_numberOfCrossing := @mX2_numberOfCrossing
theorem u2_numberOfCrossing {P : Sk} {f : St} {a i what : Nat} {x : Lf} {K : Int32 → St → Prop} (ha : IsLoaf P a) (ho : Wok x.1 x.2) (hL : LoafIs f a x) (hi : i < 24) (hw : what < 4) (hK1 : i < x.2.length → K (nI (crN x.2 i what)) f) (hK0 : ¬ i < x.2.length → K (-1) f) : kX2_numberOfCrossing P f a (nI i) (nI what) K := by
  show vX2_numberOfCrossing P f a (nI i) (nI what) K
  unfold vX2_numberOfCrossing
  have hl := ho.2.2.1
  refine ⟨fun q => absurd q (nI_nn (by omega)), fun _ => ?_⟩
  show vX6_size P f (a + 1) _
  unfold vX6_size
  rw [hL.1.2.1]
  change _ ∧ _
  rw [nI_ltI (by omega) (by omega), show (1 : Int32) = nI 1 from rfl, show (2 : Int32) = nI 2 from rfl, show (0 : Int32) = nI 0 from rfl, nI_eq (by omega) (by omega), nI_eq (by omega) (by omega), nI_eq (by omega) (by omega)]
  refine ⟨fun q => ?_, hK0⟩
  have hK := hK1 q
  have hc := ho.lt q
  unfold crN at hK
  refine ⟨fun c0 => ?_, fun c0 => ⟨fun c1 => ?_, fun c1 => ⟨fun c2 => ?_, fun c2 => ?_⟩⟩⟩
  · refine u6_codeAt (wfLoaf_t0 ha) hL.1 hl q ?_
    refine u6_placeOf (by omega) ?_
    rw [if_pos c0] at hK
    exact hK
  · refine u6_codeAt (wfLoaf_t0 ha) hL.1 hl q ?_
    refine u6_isRight (by omega) ?_
    rw [if_neg c0, if_pos c1] at hK
    rw [nI_eq (by omega) (by omega)]
    refine ⟨fun c => ?_, fun c => ?_⟩
    · rw [c] at hK
      exact hK
    · rw [show x.2.getD i 0 % 2 = 1 by omega] at hK
      exact hK
  · rw [if_neg c0, if_neg c1, if_pos c2] at hK
    exact u5_hiddenAt (wfLoaf_t2 ha) ho hL.2.2 q hK
  · rw [if_neg c0, if_neg c1, if_neg c2] at hK
    exact u5_aboveAt (wfLoaf_t2 ha) ho hL.2.2 q hK

