def vJ9_min_7cf53 (P : Sk) (f : St) (p0 : Int32) (p1 : Int32) (K : Int32 → St → Prop) : Prop :=
  (p1 < p0 → K p1 f) ∧ (¬ p1 < p0 → K p0 f)
set_option maxRecDepth 20000 in
set_option maxHeartbeats 4000000 in
theorem mJ9_min_7cf53 (l : Launch) (G : Gl) (P : Sk) (f : St) (sz : Nat) (p0 : Int32) (p1 : Int32) (K : Int32 → St → Prop) (h : vJ9_min_7cf53 P f p0 p1 K)  :
  Met l yJ9_min_7cf53 (wU yJ9_min_7cf53 cJ9_min_7cf53 2 (some .int)) rmJ9_min_7cf53 (PcW G P f sz [.int p0, .int p1]) (QcI G P sz K) 0 0 (frA P sz) := by
  refine v_met (own := RJ9) [.int p0, .int p1] (by decide +kernel) rfl (Nat.le_of_ble_eq_true rfl) (fun p e s m args below meth c hsz o hr hnm => ?_)
  refine v_lv (lv2 := [(0, .int p0), (1, .int p1)]) rfl ?_
  unfold vJ9_min_7cf53 at h
  refine v_iload_n o 0 dJ9_min_7cf53_0 rfl ?_
  refine v_iload_n o 1 dJ9_min_7cf53_1 rfl ?_
  refine v_icmp_gt o (tgt := 9) dJ9_min_7cf53_2 (by decide) (fun c2 => ?_) (fun c2 => ?_)
  · replace h := h.1 c2
    refine v_iload_n o 1 dJ9_min_7cf53_9 rfl ?_
    exact v_iret o rfl hr dJ9_min_7cf53_10 h
  · replace h := h.2 c2
    refine v_iload_n o 0 dJ9_min_7cf53_5 rfl ?_
    refine v_goto o (tgt := 10) dJ9_min_7cf53_6 (by decide) ?_
    exact v_iret o rfl hr dJ9_min_7cf53_10 h
abbrev kJ9_min_7cf53 := @vJ9_min_7cf53
abbrev metJ9_min_7cf53 := @mJ9_min_7cf53

def vX3_at (P : Sk) (f : St) (a : Nat) (p1 : Int32) (K : Int32 → St → Prop) : Prop :=
  (p1 < 0 → K 0 f) ∧ (¬ p1 < 0 → (nI (sN P (a + 1)) ≤ p1 → K 0 f) ∧ (¬ nI (sN P (a + 1)) ≤ p1 → vp_in p1 (sN P (a + 1)) ∧ (K (f (a + 1) p1.toNatClampNeg) f)))
set_option maxRecDepth 20000 in
set_option maxHeartbeats 4000000 in
theorem mX3_at (l : Launch) (G : Gl) (P : Sk) (f : St) (sz : Nat) (a : Nat) (ha : IsRow P a) (p1 : Int32) (K : Int32 → St → Prop) (h : vX3_at P f a p1 K)  :
  Met l yX3_at (wU yX3_at cX3_at 2 (some .int)) rmX3_at (PcW G P f sz [.ref a, .int p1]) (QcI G P sz K) 0 0 (frA P sz) := by
  refine v_met (own := RX3) [.ref a, .int p1] (by decide +kernel) rfl (Nat.le_of_ble_eq_true rfl) (fun p e s m args below meth c hsz o hr hnm => ?_)
  refine v_lv (lv2 := [(0, .ref a), (1, .int p1)]) rfl ?_
  unfold vX3_at at h
  refine v_iload_n o 1 dX3_at_0 rfl ?_
  refine v_if_lt o (tgt := 22) dX3_at_1 (by decide) (fun c1 => ?_) (fun c1 => ?_)
  · replace h := h.1 c1
    refine v_iconst o (v := 0) dX3_at_22 (by decide) ?_
    exact v_iret o rfl hr dX3_at_23 h
  · replace h := h.2 c1
    refine v_iload_n o 1 dX3_at_4 rfl ?_
    refine v_aload_n o 0 dX3_at_5 rfl ?_
    refine v_gfR o lkX3_7 (by decide) (wfRow_o ha) (wfRow_r0 ha) dX3_at_6 ?_
    refine v_alen9 o (wfRow_t0 ha) rfl dX3_at_9 ?_
    refine v_icmp_ge o (tgt := 22) dX3_at_10 (by decide) (fun c10 => ?_) (fun c10 => ?_)
    · replace h := h.1 c10
      refine v_iconst o (v := 0) dX3_at_22 (by decide) ?_
      exact v_iret o rfl hr dX3_at_23 h
    · replace h := h.2 c10
      refine v_aload_n o 0 dX3_at_13 rfl ?_
      refine v_gfR o lkX3_7 (by decide) (wfRow_o ha) (wfRow_r0 ha) dX3_at_14 ?_
      refine v_iload_n o 1 dX3_at_17 rfl ?_
      refine v_iald o (wfRow_t0 ha) rfl h.1 dX3_at_18 ?_
      replace h := h.2
      refine v_goto o (tgt := 23) dX3_at_19 (by decide) ?_
      exact v_iret o rfl hr dX3_at_23 h
abbrev kX3_at := @vX3_at
abbrev metX3_at := @mX3_at
theorem u3_at {P : Sk} {f : St} {a N i : Nat} {K : Int32 → St → Prop} (hN : sN P (a + 1) = N) (h2 : N < 2 ^ 31) (hi : i < N) (hK : K (f (a + 1) i) f) : kX3_at P f a (nI i) K := by
  show vX3_at P f a (nI i) K
  unfold vX3_at
  rw [hN]
  refine ⟨fun q => absurd q (nI_nn (by omega)), fun _ => ⟨fun q => ?_, fun _ => ⟨vp_nI hi h2, ?_⟩⟩⟩
  · rw [nI_leI (by omega) (by omega)] at q
    omega
  · rw [nI_clamp (by omega)]
    exact hK

def vX3_put (P : Sk) (f : St) (a : Nat) (p1 : Int32) (p2 : Int32) (K : St → Prop) : Prop :=
  (p1 < 0 → K f) ∧ (¬ p1 < 0 → (nI (sN P (a + 1)) ≤ p1 → K f) ∧ (¬ nI (sN P (a + 1)) ≤ p1 → vp_in p1 (sN P (a + 1)) ∧ (∀ g19 : St, g19 = setf f (a + 1) p1.toNatClampNeg p2 → K g19)))
set_option maxRecDepth 20000 in
set_option maxHeartbeats 4000000 in
theorem mX3_put (l : Launch) (G : Gl) (P : Sk) (f : St) (sz : Nat) (a : Nat) (ha : IsRow P a) (p1 : Int32) (p2 : Int32) (K : St → Prop) (h : vX3_put P f a p1 p2 K)  :
  Met l yX3_put (wU yX3_put cX3_put 3 none) rmX3_put (PcW G P f sz [.ref a, .int p1, .int p2]) (QcV G P sz K) 0 0 (frA P sz) := by
  refine v_met (own := RX3) [.ref a, .int p1, .int p2] (by decide +kernel) rfl (Nat.le_of_ble_eq_true rfl) (fun p e s m args below meth c hsz o hr hnm => ?_)
  refine v_lv (lv2 := [(0, .ref a), (1, .int p1), (2, .int p2)]) rfl ?_
  unfold vX3_put at h
  refine v_iload_n o 1 dX3_put_0 rfl ?_
  refine v_if_lt o (tgt := 20) dX3_put_1 (by decide) (fun c1 => ?_) (fun c1 => ?_)
  · replace h := h.1 c1
    exact v_vret o rfl hr dX3_put_20 h
  · replace h := h.2 c1
    refine v_iload_n o 1 dX3_put_4 rfl ?_
    refine v_aload_n o 0 dX3_put_5 rfl ?_
    refine v_gfR o lkX3_7 (by decide) (wfRow_o ha) (wfRow_r0 ha) dX3_put_6 ?_
    refine v_alen9 o (wfRow_t0 ha) rfl dX3_put_9 ?_
    refine v_icmp_ge o (tgt := 20) dX3_put_10 (by decide) (fun c10 => ?_) (fun c10 => ?_)
    · replace h := h.1 c10
      exact v_vret o rfl hr dX3_put_20 h
    · replace h := h.2 c10
      refine v_aload_n o 0 dX3_put_13 rfl ?_
      refine v_gfR o lkX3_7 (by decide) (wfRow_o ha) (wfRow_r0 ha) dX3_put_14 ?_
      refine v_iload_n o 1 dX3_put_17 rfl ?_
      refine v_iload_n o 2 dX3_put_18 rfl ?_
      refine v_iast o (wfRow_t0 ha) rfl h.1 dX3_put_19 ?_
      replace h := h.2
      refine v_nmf (fun g19 eg19 => ?_)
      replace h := h g19 eg19
      exact v_vret o rfl hr dX3_put_20 h
abbrev kX3_put := @vX3_put
abbrev metX3_put := @mX3_put
theorem u3_put {P : Sk} {f : St} {a N i : Nat} {v : Int32} {K : St → Prop} (hN : sN P (a + 1) = N) (h2 : N < 2 ^ 31) (hi : i < N) (hK : K (setf f (a + 1) i v)) : kX3_put P f a (nI i) v K := by
  show vX3_put P f a (nI i) v K
  unfold vX3_put
  rw [hN]
  refine ⟨fun q => absurd q (nI_nn (by omega)), fun _ => ⟨fun q => ?_, fun _ => ⟨vp_nI hi h2, ?_⟩⟩⟩
  · rw [nI_leI (by omega) (by omega)] at q
    omega
  · rw [nI_clamp (by omega)]
    intro g e
    rw [e]
    exact hK

def vX3_copyFrom (P : Sk) (f : St) (a : Nat) (b1 : Nat) (K : St → Prop) : Prop :=
  kJ9_min_7cf53 P f (nI (sN P (a + 1))) (nI (sN P (b1 + 1))) (fun r10 g10 => (¬ r10 < 0 ∧ ((0 : Int32)).toNatClampNeg + r10.toNatClampNeg ≤ sN P (b1 + 1) ∧ ((0 : Int32)).toNatClampNeg + r10.toNatClampNeg ≤ sN P (a + 1)) ∧ (∀ g25 : St, g25 = seta g10 (a + 1) (va_cpy (g10 (b1 + 1)) (g10 (a + 1)) ((0 : Int32)).toNatClampNeg ((0 : Int32)).toNatClampNeg r10.toNatClampNeg) → K g25))
set_option maxRecDepth 20000 in
set_option maxHeartbeats 4000000 in
theorem mX3_copyFrom (l : Launch) (G : Gl) (P : Sk) (f : St) (sz : Nat) (a : Nat) (ha : IsRow P a) (b1 : Nat) (hb1 : IsRow P b1) (K : St → Prop) (h : vX3_copyFrom P f a b1 K)  :
  Met l yX3_copyFrom (wU yX3_copyFrom cX3_copyFrom 3 none) rmX3_copyFrom (PcW G P f sz [.ref a, .ref b1]) (QcV G P sz K) 0 0 (frA P sz) := by
  refine v_met (own := RX3) [.ref a, .ref b1] (by decide +kernel) rfl (Nat.le_of_ble_eq_true rfl) (fun p e s m args below meth c hsz o hr hnm => ?_)
  refine v_lv (lv2 := [(0, .ref a), (1, .ref b1)]) rfl ?_
  unfold vX3_copyFrom at h
  refine v_aload_n o 0 dX3_copyFrom_0 rfl ?_
  refine v_gfR o lkX3_7 (by decide) (wfRow_o ha) (wfRow_r0 ha) dX3_copyFrom_1 ?_
  refine v_alen9 o (wfRow_t0 ha) rfl dX3_copyFrom_4 ?_
  refine v_aload_n o 1 dX3_copyFrom_5 rfl ?_
  refine v_gfR o lkX3_7 (by decide) (wfRow_o hb1) (wfRow_r0 hb1) dX3_copyFrom_6 ?_
  refine v_alen9 o (wfRow_t0 hb1) rfl dX3_copyFrom_9 ?_
  refine v_cSi o [.int (nI (sN P (a + 1))), .int (nI (sN P (b1 + 1)))] [] (fun sz => metJ9_min_7cf53 l G P f sz (nI (sN P (a + 1))) (nI (sN P (b1 + 1))) _ h) (cwX3_13 o.1.2.2.2.2 (by decide)) rfl (Nat.le_of_ble_eq_true rfl) ⟨Nat.le_of_ble_eq_true rfl, Nat.le_of_ble_eq_true rfl⟩ dX3_copyFrom_10 rfl (fun r10 g10 h => ?_)
  refine v_istore_n o (lv' := [(2, .int r10), (0, .ref a), (1, .ref b1)]) dX3_copyFrom_13 rfl (by decide) rfl ?_
  refine v_aload_n o 2 dX3_copyFrom_14 rfl ?_
  refine v_gfR o lkX3_7 (by decide) (wfRow_o hb1) (wfRow_r0 hb1) dX3_copyFrom_15 ?_
  refine v_iconst o (v := 0) dX3_copyFrom_18 (by decide) ?_
  refine v_aload_n o 1 dX3_copyFrom_19 rfl ?_
  refine v_gfR o lkX3_7 (by decide) (wfRow_o ha) (wfRow_r0 ha) dX3_copyFrom_20 ?_
  refine v_iconst o (v := 0) dX3_copyFrom_23 (by decide) ?_
  refine v_iload_n o 0 dX3_copyFrom_24 rfl ?_
  refine v_copy o (mU 465 (by decide +kernel) rfl) (mU 467 (by decide +kernel) rfl) (mU 466 (by decide +kernel) rfl) (mU 40 (by decide +kernel) rfl) (wfRow_t0 hb1) (wfRow_t0 ha) rfl rfl (by decide) (by decide) h.1.1 h.1.2.1 h.1.2.2 (by decide) (by decide) dX3_copyFrom_25 ?_
  replace h := h.2
  refine v_nmf (fun g25 eg25 => ?_)
  replace h := h g25 eg25
  exact v_vret o rfl hr dX3_copyFrom_28 h
abbrev kX3_copyFrom := @vX3_copyFrom
abbrev metX3_copyFrom := @mX3_copyFrom
theorem u3_copyFrom {P : Sk} {f : St} {a b N : Nat} {K : St → Prop} (hN : sN P (a + 1) = N) (hM : sN P (b + 1) = N) (h2 : N < 2 ^ 31) (hK : ∀ g : St, (∀ q, q ≠ a + 1 → g q = f q) → (∀ i, i < N → g (a + 1) i = f (b + 1) i) → K g) : kX3_copyFrom P f a b K := by
  show vX3_copyFrom P f a b K
  unfold vX3_copyFrom
  rw [hN, hM]
  have main : (¬ nI N < 0 ∧ ((0 : Int32)).toNatClampNeg + (nI N).toNatClampNeg ≤ N ∧ ((0 : Int32)).toNatClampNeg + (nI N).toNatClampNeg ≤ N) ∧ (∀ g25 : St, g25 = seta f (a + 1) (va_cpy (f (b + 1)) (f (a + 1)) ((0 : Int32)).toNatClampNeg ((0 : Int32)).toNatClampNeg (nI N).toNatClampNeg) → K g25) := by
    have e0 : ((0 : Int32)).toNatClampNeg = 0 := by decide
    rw [nI_clamp h2, e0]
    refine ⟨⟨nI_nn h2, by omega, by omega⟩, fun g e => hK g (fun q hq => ?_) (fun i hi => ?_)⟩
    · rw [e]
      funext j
      simp [seta, hq]
    · rw [e]
      simp [seta, va_cpy, hi]
  show vJ9_min_7cf53 P f (nI N) (nI N) _
  unfold vJ9_min_7cf53
  exact ⟨fun _ => main, fun _ => main⟩

def vX6_codeOf (P : Sk) (f : St) (p0 : Int32) (p1 : Int32) (K : Int32 → St → Prop) : Prop :=
  (p1 = 0 → K ((2 * p0) + 0) f) ∧ (¬ p1 = 0 → K ((2 * p0) + 1) f)
set_option maxRecDepth 20000 in
set_option maxHeartbeats 4000000 in
theorem mX6_codeOf (l : Launch) (G : Gl) (P : Sk) (f : St) (sz : Nat) (p0 : Int32) (p1 : Int32) (K : Int32 → St → Prop) (h : vX6_codeOf P f p0 p1 K)  :
  Met l yX6_codeOf (wU yX6_codeOf cX6_codeOf 2 (some .int)) rmX6_codeOf (PcW G P f sz [.int p0, .int p1]) (QcI G P sz K) 0 0 (frA P sz) := by
  refine v_met (own := RX6) [.int p0, .int p1] (by decide +kernel) rfl (Nat.le_of_ble_eq_true rfl) (fun p e s m args below meth c hsz o hr hnm => ?_)
  refine v_lv (lv2 := [(0, .int p0), (1, .int p1)]) rfl ?_
  unfold vX6_codeOf at h
  refine v_iconst o (v := 2) dX6_codeOf_0 (by decide) ?_
  refine v_iload_n o 0 dX6_codeOf_1 rfl ?_
  refine v_imul o dX6_codeOf_2 ?_
  refine v_iload_n o 1 dX6_codeOf_3 rfl ?_
  refine v_if_eq o (tgt := 11) dX6_codeOf_4 (by decide) (fun c4 => ?_) (fun c4 => ?_)
  · replace h := h.1 c4
    refine v_iconst o (v := 0) dX6_codeOf_11 (by decide) ?_
    refine v_iadd o dX6_codeOf_12 ?_
    exact v_iret o rfl hr dX6_codeOf_13 h
  · replace h := h.2 c4
    refine v_iconst o (v := 1) dX6_codeOf_7 (by decide) ?_
    refine v_goto o (tgt := 12) dX6_codeOf_8 (by decide) ?_
    refine v_iadd o dX6_codeOf_12 ?_
    exact v_iret o rfl hr dX6_codeOf_13 h
abbrev kX6_codeOf := @vX6_codeOf
abbrev metX6_codeOf := @mX6_codeOf
theorem u6_codeOf {P : Sk} {f : St} {p r : Nat} {K : Int32 → St → Prop} (h : r < 2) (hK : K (nI (2 * p + r)) f) : kX6_codeOf P f (nI p) (nI r) K := by
  show vX6_codeOf P f (nI p) (nI r) K
  unfold vX6_codeOf
  rw [show (2 : Int32) = nI 2 from rfl, show (0 : Int32) = nI 0 from rfl, nI_mul, nI_1, nI_add, nI_eq (by omega) (by omega)]
  refine ⟨fun q => ?_, fun q => ?_⟩
  · rw [q] at hK
    exact hK
  · rw [show r = 1 by omega] at hK
    exact hK

def vX6_placeOf (P : Sk) (f : St) (p0 : Int32) (K : Int32 → St → Prop) : Prop :=
  K (p0 >>> (1 &&& 31)) f
set_option maxRecDepth 20000 in
set_option maxHeartbeats 4000000 in
theorem mX6_placeOf (l : Launch) (G : Gl) (P : Sk) (f : St) (sz : Nat) (p0 : Int32) (K : Int32 → St → Prop) (h : vX6_placeOf P f p0 K)  :
  Met l yX6_placeOf (wU yX6_placeOf cX6_placeOf 1 (some .int)) rmX6_placeOf (PcW G P f sz [.int p0]) (QcI G P sz K) 0 0 (frA P sz) := by
  refine v_met (own := RX6) [.int p0] (by decide +kernel) rfl (Nat.le_of_ble_eq_true rfl) (fun p e s m args below meth c hsz o hr hnm => ?_)
  refine v_lv (lv2 := [(0, .int p0)]) rfl ?_
  unfold vX6_placeOf at h
  refine v_iload_n o 0 dX6_placeOf_0 rfl ?_
  refine v_iconst o (v := 1) dX6_placeOf_1 (by decide) ?_
  refine v_ishr o dX6_placeOf_2 ?_
  exact v_iret o rfl hr dX6_placeOf_3 h
abbrev kX6_placeOf := @vX6_placeOf
abbrev metX6_placeOf := @mX6_placeOf
theorem u6_placeOf {P : Sk} {f : St} {c : Nat} {K : Int32 → St → Prop} (h : c < 16) (hK : K (nI (c / 2)) f) : kX6_placeOf P f (nI c) K := by
  show vX6_placeOf P f (nI c) K
  unfold vX6_placeOf
  rw [c_pl c h]
  exact hK

def vX6_isRight (P : Sk) (f : St) (p0 : Int32) (K : Int32 → St → Prop) : Prop :=
  (¬ p0 &&& 1 = 1 → K 0 f) ∧ (p0 &&& 1 = 1 → K 1 f)
set_option maxRecDepth 20000 in
set_option maxHeartbeats 4000000 in
theorem mX6_isRight (l : Launch) (G : Gl) (P : Sk) (f : St) (sz : Nat) (p0 : Int32) (K : Int32 → St → Prop) (h : vX6_isRight P f p0 K)  :
  Met l yX6_isRight (wU yX6_isRight cX6_isRight 1 (some .boolean)) rmX6_isRight (PcW G P f sz [.int p0]) (QcI G P sz K) 0 0 (frA P sz) := by
  refine v_met (own := RX6) [.int p0] (by decide +kernel) rfl (Nat.le_of_ble_eq_true rfl) (fun p e s m args below meth c hsz o hr hnm => ?_)
  refine v_lv (lv2 := [(0, .int p0)]) rfl ?_
  unfold vX6_isRight at h
  refine v_iload_n o 0 dX6_isRight_0 rfl ?_
  refine v_iconst o (v := 1) dX6_isRight_1 (by decide) ?_
  refine v_iand o dX6_isRight_2 ?_
  refine v_iconst o (v := 1) dX6_isRight_3 (by decide) ?_
  refine v_icmp_ne o (tgt := 11) dX6_isRight_4 (by decide) (fun c4 => ?_) (fun c4 => ?_)
  · replace h := h.1 c4
    refine v_iconst o (v := 0) dX6_isRight_11 (by decide) ?_
    exact v_zret o rfl hr bz0.1 dX6_isRight_12 h
  · replace h := h.2 c4
    refine v_iconst o (v := 1) dX6_isRight_7 (by decide) ?_
    refine v_goto o (tgt := 12) dX6_isRight_8 (by decide) ?_
    exact v_zret o rfl hr bz1.1 dX6_isRight_12 h
abbrev kX6_isRight := @vX6_isRight
abbrev metX6_isRight := @mX6_isRight
theorem u6_isRight {P : Sk} {f : St} {c : Nat} {K : Int32 → St → Prop} (h : c < 16) (hK : K (nI (c % 2)) f) : kX6_isRight P f (nI c) K := by
  show vX6_isRight P f (nI c) K
  unfold vX6_isRight
  rw [c_ri c h]
  refine ⟨fun q => ?_, fun q => ?_⟩
  · rw [show c % 2 = 0 by omega] at hK
    exact hK
  · rw [q] at hK
    exact hK

def vX6_flipped (P : Sk) (f : St) (p0 : Int32) (K : Int32 → St → Prop) : Prop :=
  K (p0 ^^^ 1) f
set_option maxRecDepth 20000 in
set_option maxHeartbeats 4000000 in
theorem mX6_flipped (l : Launch) (G : Gl) (P : Sk) (f : St) (sz : Nat) (p0 : Int32) (K : Int32 → St → Prop) (h : vX6_flipped P f p0 K)  :
  Met l yX6_flipped (wU yX6_flipped cX6_flipped 1 (some .int)) rmX6_flipped (PcW G P f sz [.int p0]) (QcI G P sz K) 0 0 (frA P sz) := by
  refine v_met (own := RX6) [.int p0] (by decide +kernel) rfl (Nat.le_of_ble_eq_true rfl) (fun p e s m args below meth c hsz o hr hnm => ?_)
  refine v_lv (lv2 := [(0, .int p0)]) rfl ?_
  unfold vX6_flipped at h
  refine v_iload_n o 0 dX6_flipped_0 rfl ?_
  refine v_iconst o (v := 1) dX6_flipped_1 (by decide) ?_
  refine v_ixor o dX6_flipped_2 ?_
  exact v_iret o rfl hr dX6_flipped_3 h
abbrev kX6_flipped := @vX6_flipped
abbrev metX6_flipped := @mX6_flipped
theorem u6_flipped {P : Sk} {f : St} {c : Nat} {K : Int32 → St → Prop} (h : c < 16) (hK : K (nI (fl c)) f) : kX6_flipped P f (nI c) K := by
  show vX6_flipped P f (nI c) K
  unfold vX6_flipped
  rw [c_fl c h]
  exact hK

def vX6_strands (P : Sk) (f : St) (a : Nat) (K : Int32 → St → Prop) : Prop :=
  K (f a 1) f
set_option maxRecDepth 20000 in
set_option maxHeartbeats 4000000 in
theorem mX6_strands (l : Launch) (G : Gl) (P : Sk) (f : St) (sz : Nat) (a : Nat) (ha : IsWord P a) (K : Int32 → St → Prop) (h : vX6_strands P f a K)  :
  Met l yX6_strands (wU yX6_strands cX6_strands 1 (some .int)) rmX6_strands (PcW G P f sz [.ref a]) (QcI G P sz K) 0 0 (frA P sz) := by
  refine v_met (own := RX6) [.ref a] (by decide +kernel) rfl (Nat.le_of_ble_eq_true rfl) (fun p e s m args below meth c hsz o hr hnm => ?_)
  refine v_lv (lv2 := [(0, .ref a)]) rfl ?_
  unfold vX6_strands at h
  refine v_aload_n o 0 dX6_strands_0 rfl ?_
  refine v_gfI o lkX6_20 (by decide) (wfWord_o ha) dX6_strands_1 ?_
  exact v_iret o rfl hr dX6_strands_4 h
abbrev kX6_strands := @vX6_strands
abbrev metX6_strands := @mX6_strands

def vX6_size (P : Sk) (f : St) (a : Nat) (K : Int32 → St → Prop) : Prop :=
  K (f a 2) f
set_option maxRecDepth 20000 in
set_option maxHeartbeats 4000000 in
theorem mX6_size (l : Launch) (G : Gl) (P : Sk) (f : St) (sz : Nat) (a : Nat) (ha : IsWord P a) (K : Int32 → St → Prop) (h : vX6_size P f a K)  :
  Met l yX6_size (wU yX6_size cX6_size 1 (some .int)) rmX6_size (PcW G P f sz [.ref a]) (QcI G P sz K) 0 0 (frA P sz) := by
  refine v_met (own := RX6) [.ref a] (by decide +kernel) rfl (Nat.le_of_ble_eq_true rfl) (fun p e s m args below meth c hsz o hr hnm => ?_)
  refine v_lv (lv2 := [(0, .ref a)]) rfl ?_
  unfold vX6_size at h
  refine v_aload_n o 0 dX6_size_0 rfl ?_
  refine v_gfI o lkX6_24 (by decide) (wfWord_o ha) dX6_size_1 ?_
  exact v_iret o rfl hr dX6_size_4 h
abbrev kX6_size := @vX6_size
abbrev metX6_size := @mX6_size

def vX6_codeAt (P : Sk) (f : St) (a : Nat) (p1 : Int32) (K : Int32 → St → Prop) : Prop :=
  kX3_at P f (a + 1) p1 (fun r5 g5 => K r5 g5)
set_option maxRecDepth 20000 in
set_option maxHeartbeats 4000000 in
theorem mX6_codeAt (l : Launch) (G : Gl) (P : Sk) (f : St) (sz : Nat) (a : Nat) (ha : IsWord P a) (p1 : Int32) (K : Int32 → St → Prop) (h : vX6_codeAt P f a p1 K)  :
  Met l yX6_codeAt (wU yX6_codeAt cX6_codeAt 2 (some .int)) rmX6_codeAt (PcW G P f sz [.ref a, .int p1]) (QcI G P sz K) 0 0 (frA P sz) := by
  refine v_met (own := RX6) [.ref a, .int p1] (by decide +kernel) rfl (Nat.le_of_ble_eq_true rfl) (fun p e s m args below meth c hsz o hr hnm => ?_)
  refine v_lv (lv2 := [(0, .ref a), (1, .int p1)]) rfl ?_
  unfold vX6_codeAt at h
  refine v_aload_n o 0 dX6_codeAt_0 rfl ?_
  refine v_gfR o lkX6_14 (by decide) (wfWord_o ha) (wfWord_r0 ha) dX6_codeAt_1 ?_
  refine v_iload_n o 1 dX6_codeAt_4 rfl ?_
  refine v_cVi o [.int p1] [] (fun sz => metX3_at l G P f sz (a + 1) (wfWord_t0 ha) p1 _ h) (cwX6_27 o.1.2.2.2.2 (by decide)) ⟨_, _, rfl⟩ (by decide) (wfRow_o (wfWord_t0 ha)) rfl (Nat.le_of_ble_eq_true rfl) ⟨Nat.le_of_ble_eq_true rfl, Nat.le_of_ble_eq_true rfl⟩ dX6_codeAt_5 rfl (fun r5 g5 h => ?_)
  exact v_iret o rfl hr dX6_codeAt_8 h
abbrev kX6_codeAt := @vX6_codeAt
abbrev metX6_codeAt := @mX6_codeAt
theorem u6_codeAt {P : Sk} {f : St} {a n i : Nat} {w : List Nat} {K : Int32 → St → Prop} (ha : IsWord P a) (hw : WordIs f a n w) (hl : w.length ≤ 24) (hi : i < w.length) (hK : K (nI (w.getD i 0)) f) : kX6_codeAt P f a (nI i) K := by
  show vX6_codeAt P f a (nI i) K
  unfold vX6_codeAt
  refine u3_at (wfWord_n0 ha) (by decide) (by omega) ?_
  rw [hw.2.2 i hi]
  exact hK

def vX6_hasPlace (P : Sk) (f : St) (a : Nat) (p1 : Int32) (K : Int32 → St → Prop) : Prop :=
  (p1 < 0 → K 0 f) ∧ (¬ p1 < 0 → ((f a 1) - 2 < p1 → K 0 f) ∧ (¬ (f a 1) - 2 < p1 → K 1 f))
set_option maxRecDepth 20000 in
set_option maxHeartbeats 4000000 in
theorem mX6_hasPlace (l : Launch) (G : Gl) (P : Sk) (f : St) (sz : Nat) (a : Nat) (ha : IsWord P a) (p1 : Int32) (K : Int32 → St → Prop) (h : vX6_hasPlace P f a p1 K)  :
  Met l yX6_hasPlace (wU yX6_hasPlace cX6_hasPlace 2 (some .boolean)) rmX6_hasPlace (PcW G P f sz [.ref a, .int p1]) (QcI G P sz K) 0 0 (frA P sz) := by
  refine v_met (own := RX6) [.ref a, .int p1] (by decide +kernel) rfl (Nat.le_of_ble_eq_true rfl) (fun p e s m args below meth c hsz o hr hnm => ?_)
  refine v_lv (lv2 := [(0, .ref a), (1, .int p1)]) rfl ?_
  unfold vX6_hasPlace at h
  refine v_iload_n o 1 dX6_hasPlace_0 rfl ?_
  refine v_if_lt o (tgt := 18) dX6_hasPlace_1 (by decide) (fun c1 => ?_) (fun c1 => ?_)
  · replace h := h.1 c1
    refine v_iconst o (v := 0) dX6_hasPlace_18 (by decide) ?_
    exact v_zret o rfl hr bz0.1 dX6_hasPlace_19 h
  · replace h := h.2 c1
    refine v_iload_n o 1 dX6_hasPlace_4 rfl ?_
    refine v_aload_n o 0 dX6_hasPlace_5 rfl ?_
    refine v_gfI o lkX6_20 (by decide) (wfWord_o ha) dX6_hasPlace_6 ?_
    refine v_iconst o (v := 2) dX6_hasPlace_9 (by decide) ?_
    refine v_isub o dX6_hasPlace_10 ?_
    refine v_icmp_gt o (tgt := 18) dX6_hasPlace_11 (by decide) (fun c11 => ?_) (fun c11 => ?_)
    · replace h := h.1 c11
      refine v_iconst o (v := 0) dX6_hasPlace_18 (by decide) ?_
      exact v_zret o rfl hr bz0.1 dX6_hasPlace_19 h
    · replace h := h.2 c11
      refine v_iconst o (v := 1) dX6_hasPlace_14 (by decide) ?_
      refine v_goto o (tgt := 19) dX6_hasPlace_15 (by decide) ?_
      exact v_zret o rfl hr bz1.1 dX6_hasPlace_19 h
abbrev kX6_hasPlace := @vX6_hasPlace
abbrev metX6_hasPlace := @mX6_hasPlace
theorem u6_hasPlace {P : Sk} {f : St} {a n : Nat} {p : Int32} {K : Int32 → St → Prop} (hn : f a 1 = nI n) (h1 : 2 ≤ n) (h2 : n ≤ 7) (hK1 : ∀ j, p = nI j → j + 2 ≤ n → K 1 f) (hK0 : (∀ j, p = nI j → j < 2 ^ 31 → ¬ j + 2 ≤ n) → K 0 f) : kX6_hasPlace P f a p K := by
  show vX6_hasPlace P f a p K
  unfold vX6_hasPlace
  rw [hn, show (2 : Int32) = nI 2 from rfl, pk_sub h1]
  refine ⟨fun q => ?_, fun q => ?_⟩
  · refine hK0 ?_
    rintro j rfl h3 hj
    exact nI_nn (by omega) q
  · obtain ⟨j, hj, rfl⟩ := nI_of q
    rw [nI_ltI (by omega) (by omega)]
    refine ⟨fun q2 => ?_, fun q2 => ?_⟩
    · refine hK0 ?_
      intro i e h3 hi
      rw [nI_eq (by omega) (by omega)] at e
      omega
    · exact hK1 j rfl (by omega)

def vX6_begin (P : Sk) (f : St) (a : Nat) (p1 : Int32) (K : St → Prop) : Prop :=
  ∀ g2 : St, g2 = setf f a 1 p1 → ∀ g7 : St, g7 = setf g2 a 2 0 → K g7
set_option maxRecDepth 20000 in
set_option maxHeartbeats 4000000 in
theorem mX6_begin (l : Launch) (G : Gl) (P : Sk) (f : St) (sz : Nat) (a : Nat) (ha : IsWord P a) (p1 : Int32) (K : St → Prop) (h : vX6_begin P f a p1 K)  :
  Met l yX6_begin (wU yX6_begin cX6_begin 2 none) rmX6_begin (PcW G P f sz [.ref a, .int p1]) (QcV G P sz K) 0 0 (frA P sz) := by
  refine v_met (own := RX6) [.ref a, .int p1] (by decide +kernel) rfl (Nat.le_of_ble_eq_true rfl) (fun p e s m args below meth c hsz o hr hnm => ?_)
  refine v_lv (lv2 := [(0, .ref a), (1, .int p1)]) rfl ?_
  unfold vX6_begin at h
  refine v_aload_n o 0 dX6_begin_0 rfl ?_
  refine v_iload_n o 1 dX6_begin_1 rfl ?_
  refine v_pf o lpX6_20 (wfWord_o ha) ⟨rfl, rfl⟩ dX6_begin_2 ?_
  refine v_nmf (fun g2 eg2 => ?_)
  replace h := h g2 eg2
  refine v_aload_n o 0 dX6_begin_5 rfl ?_
  refine v_iconst o (v := 0) dX6_begin_6 (by decide) ?_
  refine v_pf o lpX6_24 (wfWord_o ha) ⟨rfl, rfl⟩ dX6_begin_7 ?_
  refine v_nmf (fun g7 eg7 => ?_)
  replace h := h g7 eg7
  exact v_vret o rfl hr dX6_begin_10 h
abbrev kX6_begin := @vX6_begin
abbrev metX6_begin := @mX6_begin
theorem u6_begin {P : Sk} {f : St} {a n : Nat} {v : Int32} {K : St → Prop} (hv : v = nI n) (hK : ∀ g, Fr f g a (a + 3) → WordIs g a n [] → K g) : kX6_begin P f a v K := by
  show vX6_begin P f a v K
  unfold vX6_begin
  intro g e g2 e2
  refine hK g2 ?_ ?_
  · rw [e2, e]
    exact (fr_setf f (by omega) (by omega)).trans (fr_setf _ (by omega) (by omega))
  · rw [e2, e]
    refine ⟨?_, setf_same _ _ _ _, fun i hi => absurd hi (Nat.not_lt_zero _)⟩
    rw [setf_off (Or.inr (by omega)), setf_same, hv]

def bX6_insertAt_27 (P : Sk) (a : Nat) (p1 : Int32) (p2 : Int32) (L27 : St → Int32 → Prop) (K : St → Prop) (f : St) (x3 : Int32) : Prop :=
  (x3 ≤ p1 → kX3_put P f (a + 1) p1 p2 (fun g62 => ∀ g72 : St, g72 = setf g62 a 2 ((g62 a 2) + 1) → K g72)) ∧ (¬ x3 ≤ p1 → kX3_at P f (a + 1) (x3 - 1) (fun r44 g44 => kX3_put P g44 (a + 1) x3 r44 (fun g47 => ∀ x3_50 : Int32, x3_50 = x3 + (-1) → L27 g47 x3_50)))
def vX6_insertAt (P : Sk) (f : St) (a : Nat) (p1 : Int32) (p2 : Int32) (L27 : St → Int32 → Prop) (K : St → Prop) : Prop :=
  (p1 < 0 → K f) ∧ (¬ p1 < 0 → (f a 2 < p1 → K f) ∧ (¬ f a 2 < p1 → (f a 2 < 24 → ∀ x3_26 : Int32, x3_26 = f a 2 → L27 f x3_26) ∧ (¬ f a 2 < 24 → K f)))
set_option maxRecDepth 20000 in
set_option maxHeartbeats 4000000 in
theorem mX6_insertAt (l : Launch) (G : Gl) (P : Sk) (f : St) (sz : Nat) (a : Nat) (ha : IsWord P a) (p1 : Int32) (p2 : Int32) (K : St → Prop) (I27 : St → Int32 → Prop) (μ27 : St → Int32 → Nat) 
  (h : vX6_insertAt P f a p1 p2 I27 K)
  (h27 : ∀ (g : St) (x3 : Int32) , I27 g x3 → bX6_insertAt_27 P a p1 p2 (fun g' z0 => I27 g' z0 ∧ μ27 g' z0 < μ27 g x3) K g x3) :
  Met l yX6_insertAt (wU yX6_insertAt cX6_insertAt 4 none) rmX6_insertAt (PcW G P f sz [.ref a, .int p1, .int p2]) (QcV G P sz K) 0 0 (frA P sz) := by
  refine v_met (own := RX6) [.ref a, .int p1, .int p2] (by decide +kernel) rfl (Nat.le_of_ble_eq_true rfl) (fun p e s m args below meth c hsz o hr hnm => ?_)
  refine v_lv (lv2 := [(0, .ref a), (1, .int p1), (2, .int p2)]) rfl ?_
  have main : ∀ n : Nat, (∀ (g : St) (x3 : Int32) , I27 g x3 → μ27 g x3 < n → V p l e rmX6_insertAt s m args below meth c 4 G (frA P sz) (MQ below (QcV G P sz K) args s 0 0 (frA P sz)) 0 0 P [(0, .ref a), (1, .int p1), (2, .int p2), (3, .int x3)] [] 27 g) := by
    intro n
    induction n with
    | zero => exact fun g x3 hI hm => absurd hm (Nat.not_lt_zero _)
    | succ n ih =>
      intro g x3 hI hm
      have h := h27 g x3 hI
      clear hI
      unfold bX6_insertAt_27 at h
      refine v_iload_n o 3 dX6_insertAt_27 rfl ?_
      refine v_iload_n o 1 dX6_insertAt_28 rfl ?_
      refine v_icmp_le o (tgt := 56) dX6_insertAt_29 (by decide) (fun c29 => ?_) (fun c29 => ?_)
      · replace h := h.1 c29
        refine v_aload_n o 0 dX6_insertAt_56 rfl ?_
        refine v_gfR o lkX6_14 (by decide) (wfWord_o ha) (wfWord_r0 ha) dX6_insertAt_57 ?_
        refine v_iload_n o 1 dX6_insertAt_60 rfl ?_
        refine v_iload_n o 2 dX6_insertAt_61 rfl ?_
        refine v_cVv o [.int p1, .int p2] [] (fun sz => metX3_put l G P g sz (a + 1) (wfWord_t0 ha) p1 p2 _ h) (cwX6_41 o.1.2.2.2.2 (by decide)) ⟨_, _, rfl⟩ (by decide) (wfRow_o (wfWord_t0 ha)) rfl (Nat.le_of_ble_eq_true rfl) ⟨Nat.le_of_ble_eq_true rfl, Nat.le_of_ble_eq_true rfl⟩ dX6_insertAt_62 rfl (fun g62 h => ?_)
        refine v_aload_n o 0 dX6_insertAt_65 rfl ?_
        refine v_dup o dX6_insertAt_66 rfl ?_
        refine v_gfI o lkX6_24 (by decide) (wfWord_o ha) dX6_insertAt_67 ?_
        refine v_iconst o (v := 1) dX6_insertAt_70 (by decide) ?_
        refine v_iadd o dX6_insertAt_71 ?_
        refine v_pf o lpX6_24 (wfWord_o ha) ⟨rfl, rfl⟩ dX6_insertAt_72 ?_
        refine v_nmf (fun g72 eg72 => ?_)
        replace h := h g72 eg72
        exact v_vret o rfl hr dX6_insertAt_75 h
      · replace h := h.2 c29
        refine v_aload_n o 0 dX6_insertAt_32 rfl ?_
        refine v_gfR o lkX6_14 (by decide) (wfWord_o ha) (wfWord_r0 ha) dX6_insertAt_33 ?_
        refine v_iload_n o 3 dX6_insertAt_36 rfl ?_
        refine v_aload_n o 0 dX6_insertAt_37 rfl ?_
        refine v_gfR o lkX6_14 (by decide) (wfWord_o ha) (wfWord_r0 ha) dX6_insertAt_38 ?_
        refine v_iload_n o 3 dX6_insertAt_41 rfl ?_
        refine v_iconst o (v := 1) dX6_insertAt_42 (by decide) ?_
        refine v_isub o dX6_insertAt_43 ?_
        refine v_cVi o [.int (x3 - 1)] [.int x3, .ref (a + 1)] (fun sz => metX3_at l G P g sz (a + 1) (wfWord_t0 ha) (x3 - 1) _ h) (cwX6_27 o.1.2.2.2.2 (by decide)) ⟨_, _, rfl⟩ (by decide) (wfRow_o (wfWord_t0 ha)) rfl (Nat.le_of_ble_eq_true rfl) ⟨Nat.le_of_ble_eq_true rfl, Nat.le_of_ble_eq_true rfl⟩ dX6_insertAt_44 rfl (fun r44 g44 h => ?_)
        refine v_cVv o [.int x3, .int r44] [] (fun sz => metX3_put l G P g44 sz (a + 1) (wfWord_t0 ha) x3 r44 _ h) (cwX6_41 o.1.2.2.2.2 (by decide)) ⟨_, _, rfl⟩ (by decide) (wfRow_o (wfWord_t0 ha)) rfl (Nat.le_of_ble_eq_true rfl) ⟨Nat.le_of_ble_eq_true rfl, Nat.le_of_ble_eq_true rfl⟩ dX6_insertAt_47 rfl (fun g47 h => ?_)
        obtain ⟨x3_50, ex3_50⟩ : ∃ y : Int32, y = x3 + (-1) := ⟨_, rfl⟩
        replace h := h x3_50 ex3_50
        refine v_iinc o (v := x3_50) (lv' := [(3, .int x3_50), (0, .ref a), (1, .int p1), (2, .int p2)]) 3 dX6_insertAt_50 rfl (by rw [ex3_50]; rfl) (by decide) rfl ?_
        refine v_goto o (tgt := 27) dX6_insertAt_53 (by decide) ?_
        refine v_sub [1, 2, 3, 0] (lv2 := [(0, .ref a), (1, .int p1), (2, .int p2), (3, .int x3_50)]) rfl ?_
        exact ih g47 x3_50  h.1 (by have := h.2; omega)
  unfold vX6_insertAt at h
  refine v_iload_n o 1 dX6_insertAt_0 rfl ?_
  refine v_if_lt o (tgt := 21) dX6_insertAt_1 (by decide) (fun c1 => ?_) (fun c1 => ?_)
  · replace h := h.1 c1
    exact v_vret o rfl hr dX6_insertAt_21 h
  · replace h := h.2 c1
    refine v_iload_n o 1 dX6_insertAt_4 rfl ?_
    refine v_aload_n o 0 dX6_insertAt_5 rfl ?_
    refine v_gfI o lkX6_24 (by decide) (wfWord_o ha) dX6_insertAt_6 ?_
    refine v_icmp_gt o (tgt := 21) dX6_insertAt_9 (by decide) (fun c9 => ?_) (fun c9 => ?_)
    · replace h := h.1 c9
      exact v_vret o rfl hr dX6_insertAt_21 h
    · replace h := h.2 c9
      refine v_aload_n o 0 dX6_insertAt_12 rfl ?_
      refine v_gfI o lkX6_24 (by decide) (wfWord_o ha) dX6_insertAt_13 ?_
      refine v_bipush o (v := 24) dX6_insertAt_16 (by decide) ?_
      refine v_icmp_lt o (tgt := 22) dX6_insertAt_18 (by decide) (fun c18 => ?_) (fun c18 => ?_)
      · replace h := h.1 c18
        refine v_aload_n o 0 dX6_insertAt_22 rfl ?_
        refine v_gfI o lkX6_24 (by decide) (wfWord_o ha) dX6_insertAt_23 ?_
        refine v_topi (fun x3_26 ex3_26 => ?_)
        replace h := h x3_26 ex3_26
        refine v_istore_n o (lv' := [(3, .int x3_26), (0, .ref a), (1, .int p1), (2, .int p2)]) dX6_insertAt_26 rfl (by decide) rfl ?_
        refine v_sub [1, 2, 3, 0] (lv2 := [(0, .ref a), (1, .int p1), (2, .int p2), (3, .int x3_26)]) rfl ?_
        exact (main (μ27 f x3_26 + 1)) f x3_26  h (Nat.lt_succ_self _)
      · replace h := h.2 c18
        exact v_vret o rfl hr dX6_insertAt_21 h
def WX6_insertAt (P : Sk) (f : St) (a : Nat) (p1 : Int32) (p2 : Int32) (K : St → Prop) : Prop := ∃ (I27 : St → Int32 → Prop) (μ27 : St → Int32 → Nat), (vX6_insertAt P f a p1 p2 I27 K) ∧ (∀ (g : St) (x3 : Int32) , I27 g x3 → bX6_insertAt_27 P a p1 p2 (fun g' z0 => I27 g' z0 ∧ μ27 g' z0 < μ27 g x3) K g x3)
def kX6_insertAt (P : Sk) (f : St) (a : Nat) (p1 : Int32) (p2 : Int32) (K : St → Prop) : Prop := ∃ n w i c, p1 = nI i ∧ p2 = nI c ∧ i ≤ w.length ∧ w.length < 24 ∧ WordIs f a n w ∧ ∀ g, Fr f g a (a + 3) → WordIs g a n (ins w i c) → K g
theorem wX6_insertAt (P : Sk) (f : St) (a : Nat) (ha : IsWord P a) (p1 : Int32) (p2 : Int32) (K : St → Prop) (h : kX6_insertAt P f a p1 p2 K) : WX6_insertAt P f a p1 p2 K := by
  obtain ⟨n, w, i, c, rfl, rfl, hi, hl, hw, hK⟩ := h
  refine ⟨fun g x => ∃ k, x = nI k ∧ i ≤ k ∧ k ≤ w.length ∧ Fr f g a (a + 3) ∧ g a 1 = nI n ∧ g a 2 = nI w.length ∧ (∀ j, j < k → g (a + 1 + 1) j = nI (w.getD j 0)) ∧ (∀ j, k < j → j ≤ w.length → g (a + 1 + 1) j = nI (w.getD (j - 1) 0)), fun g x => x.toNatClampNeg, ?_, ?_⟩
  · unfold vX6_insertAt
    rw [hw.2.1]
    refine ⟨fun q => absurd q (nI_nn (by omega)), fun _ => ⟨fun q => ?_, fun _ => ⟨fun _ x e => ?_, fun q => ?_⟩⟩⟩
    · rw [nI_ltI (by omega) (by omega)] at q
      omega
    · exact ⟨w.length, e, hi, Nat.le_refl _, Fr.refl _ _ _, hw.1, hw.2.1, hw.2.2, fun j h1 h2 => by omega⟩
    · rw [show (24 : Int32) = nI 24 from rfl, nI_ltI (by omega) (by omega)] at q
      omega
  · rintro g x ⟨k, rfl, hik, hkl, hfr, h1, h2, hA, hB⟩
    unfold bX6_insertAt_27
    refine ⟨fun q => ?_, fun q => ?_⟩
    · rw [nI_leI (by omega) (by omega)] at q
      have hk : k = i := by omega
      subst hk
      refine u3_put (wfWord_n0 ha) (by decide) (by omega) ?_
      intro g2 e2
      refine hK g2 ?_ ?_
      · rw [e2]
        exact hfr.trans ((fr_setf g (by omega) (by omega)).trans (fr_setf _ (by omega) (by omega)))
      · rw [e2]
        refine ⟨?_, ?_, fun j hj => ?_⟩
        · rw [setf_off (Or.inr (by omega)), setf_off (Or.inl (by omega))]
          exact h1
        · rw [setf_same, setf_off (Or.inl (by omega)), h2, ins_len _ _ _ hi, nI_1]
        · rw [ins_len _ _ _ hi] at hj
          rw [setf_off (Or.inl (by omega)), ins_at _ _ _ _ hi]
          by_cases c1 : j < k
          · rw [if_pos c1, setf_off (Or.inr (by omega))]
            exact hA j c1
          · rw [if_neg c1]
            by_cases c2 : j = k
            · rw [if_pos c2, c2, setf_same]
            · rw [if_neg c2, setf_off (Or.inr c2)]
              exact hB j (by omega) (by omega)
    · rw [nI_leI (by omega) (by omega)] at q
      obtain ⟨k, rfl⟩ : ∃ k', k = k' + 1 := ⟨k - 1, by omega⟩
      rw [nI_m1]
      refine u3_at (wfWord_n0 ha) (by decide) (by omega) ?_
      refine u3_put (wfWord_n0 ha) (by decide) (by omega) ?_
      intro x e
      rw [pk_m1] at e
      refine ⟨⟨k, e, by omega, by omega, hfr.trans (fr_setf g (by omega) (by omega)), ?_, ?_, fun j hj => ?_, fun j hj hj2 => ?_⟩, ?_⟩
      · rw [setf_off (Or.inl (by omega))]
        exact h1
      · rw [setf_off (Or.inl (by omega))]
        exact h2
      · rw [setf_off (Or.inr (by omega))]
        exact hA j (by omega)
      · by_cases c2 : j = k + 1
        · rw [c2, setf_same]
          exact hA k (by omega)
        · rw [setf_off (Or.inr c2)]
          exact hB j (by omega) hj2
      · exact mu_dn e (by omega)
theorem u6_add {P : Sk} {f : St} {a n c : Nat} {w : List Nat} {K : St → Prop} (hw : WordIs f a n w) (hl : w.length < 24) (hK : ∀ g, Fr f g a (a + 3) → WordIs g a n (w ++ [c]) → K g) : kX6_insertAt P f a (f a 2) (nI c) K := by
  refine ⟨n, w, w.length, c, hw.2.1, rfl, Nat.le_refl _, hl, hw, fun g h1 h2 => hK g h1 ?_⟩
  have := ins_app w [] c
  rw [List.append_nil] at this
  rw [← this]
  exact h2

theorem metX6_insertAt (l : Launch) (G : Gl) (P : Sk) (f : St) (sz : Nat) (a : Nat) (ha : IsWord P a) (p1 : Int32) (p2 : Int32) (K : St → Prop) (h : kX6_insertAt P f a p1 p2 K) : Met l yX6_insertAt (wU yX6_insertAt cX6_insertAt 4 none) rmX6_insertAt (PcW G P f sz [.ref a, .int p1, .int p2]) (QcV G P sz K) 0 0 (frA P sz) := by
  obtain ⟨I27, μ27, qh, qh27⟩ := wX6_insertAt P f a ha p1 p2 K h
  exact mX6_insertAt l G P f sz a ha p1 p2 K I27 μ27 qh qh27

def vX6_add (P : Sk) (f : St) (a : Nat) (p1 : Int32) (K : St → Prop) : Prop :=
  kX6_insertAt P f a (f a 2) p1 (fun g6 => K g6)
set_option maxRecDepth 20000 in
set_option maxHeartbeats 4000000 in
theorem mX6_add (l : Launch) (G : Gl) (P : Sk) (f : St) (sz : Nat) (a : Nat) (ha : IsWord P a) (p1 : Int32) (K : St → Prop) (h : vX6_add P f a p1 K)  :
  Met l yX6_add (wU yX6_add cX6_add 2 none) rmX6_add (PcW G P f sz [.ref a, .int p1]) (QcV G P sz K) 0 0 (frA P sz) := by
  refine v_met (own := RX6) [.ref a, .int p1] (by decide +kernel) rfl (Nat.le_of_ble_eq_true rfl) (fun p e s m args below meth c hsz o hr hnm => ?_)
  refine v_lv (lv2 := [(0, .ref a), (1, .int p1)]) rfl ?_
  unfold vX6_add at h
  refine v_aload_n o 0 dX6_add_0 rfl ?_
  refine v_aload_n o 0 dX6_add_1 rfl ?_
  refine v_gfI o lkX6_24 (by decide) (wfWord_o ha) dX6_add_2 ?_
  refine v_iload_n o 1 dX6_add_5 rfl ?_
  refine v_cVv o [.int (f a 2), .int p1] [] (fun sz => metX6_insertAt l G P f sz a ha (f a 2) p1 _ h) (cwX6_31 o.1.2.2.2.2 (by decide)) ⟨_, _, rfl⟩ (by decide) (wfWord_o ha) rfl (Nat.le_of_ble_eq_true rfl) ⟨Nat.le_of_ble_eq_true rfl, Nat.le_of_ble_eq_true rfl⟩ dX6_add_6 rfl (fun g6 h => ?_)
  exact v_vret o rfl hr dX6_add_9 h
abbrev kX6_add := @vX6_add
abbrev metX6_add := @mX6_add

def bX6_addAll_2 (P : Sk) (a : Nat) (b1 : Nat) (L2 : St → Int32 → Prop) (K : St → Prop) (f : St) (x2 : Int32) : Prop :=
  (f b1 2 ≤ x2 → K f) ∧ (¬ f b1 2 ≤ x2 → kX6_codeAt P f b1 x2 (fun r13 g13 => kX6_add P g13 a r13 (fun g16 => ∀ x2_19 : Int32, x2_19 = x2 + 1 → L2 g16 x2_19)))
def vX6_addAll (P : Sk) (f : St) (a : Nat) (b1 : Nat) (L2 : St → Int32 → Prop) (K : St → Prop) : Prop :=
  L2 f 0
set_option maxRecDepth 20000 in
set_option maxHeartbeats 4000000 in
theorem mX6_addAll (l : Launch) (G : Gl) (P : Sk) (f : St) (sz : Nat) (a : Nat) (ha : IsWord P a) (b1 : Nat) (hb1 : IsWord P b1) (K : St → Prop) (I2 : St → Int32 → Prop) (μ2 : St → Int32 → Nat) 
  (h : vX6_addAll P f a b1 I2 K)
  (h2 : ∀ (g : St) (x2 : Int32) , I2 g x2 → bX6_addAll_2 P a b1 (fun g' z0 => I2 g' z0 ∧ μ2 g' z0 < μ2 g x2) K g x2) :
  Met l yX6_addAll (wU yX6_addAll cX6_addAll 3 none) rmX6_addAll (PcW G P f sz [.ref a, .ref b1]) (QcV G P sz K) 0 0 (frA P sz) := by
  refine v_met (own := RX6) [.ref a, .ref b1] (by decide +kernel) rfl (Nat.le_of_ble_eq_true rfl) (fun p e s m args below meth c hsz o hr hnm => ?_)
  refine v_lv (lv2 := [(0, .ref a), (1, .ref b1)]) rfl ?_
  have main : ∀ n : Nat, (∀ (g : St) (x2 : Int32) , I2 g x2 → μ2 g x2 < n → V p l e rmX6_addAll s m args below meth c 3 G (frA P sz) (MQ below (QcV G P sz K) args s 0 0 (frA P sz)) 0 0 P [(0, .ref a), (1, .ref b1), (2, .int x2)] [] 2 g) := by
    intro n
    induction n with
    | zero => exact fun g x2 hI hm => absurd hm (Nat.not_lt_zero _)
    | succ n ih =>
      intro g x2 hI hm
      have h := h2 g x2 hI
      clear hI
      unfold bX6_addAll_2 at h
      refine v_iload_n o 2 dX6_addAll_2 rfl ?_
      refine v_aload_n o 1 dX6_addAll_3 rfl ?_
      refine v_gfI o lkX6_24 (by decide) (wfWord_o hb1) dX6_addAll_4 ?_
      refine v_icmp_ge o (tgt := 25) dX6_addAll_7 (by decide) (fun c7 => ?_) (fun c7 => ?_)
      · replace h := h.1 c7
        exact v_vret o rfl hr dX6_addAll_25 h
      · replace h := h.2 c7
        refine v_aload_n o 0 dX6_addAll_10 rfl ?_
        refine v_aload_n o 1 dX6_addAll_11 rfl ?_
        refine v_iload_n o 2 dX6_addAll_12 rfl ?_
        refine v_cVi o [.int x2] [.ref a] (fun sz => metX6_codeAt l G P g sz b1 hb1 x2 _ h) (cwX6_35 o.1.2.2.2.2 (by decide)) ⟨_, _, rfl⟩ (by decide) (wfWord_o hb1) rfl (Nat.le_of_ble_eq_true rfl) ⟨Nat.le_of_ble_eq_true rfl, Nat.le_of_ble_eq_true rfl⟩ dX6_addAll_13 rfl (fun r13 g13 h => ?_)
        refine v_cVv o [.int r13] [] (fun sz => metX6_add l G P g13 sz a ha r13 _ h) (cwX6_38 o.1.2.2.2.2 (by decide)) ⟨_, _, rfl⟩ (by decide) (wfWord_o ha) rfl (Nat.le_of_ble_eq_true rfl) ⟨Nat.le_of_ble_eq_true rfl, Nat.le_of_ble_eq_true rfl⟩ dX6_addAll_16 rfl (fun g16 h => ?_)
        obtain ⟨x2_19, ex2_19⟩ : ∃ y : Int32, y = x2 + 1 := ⟨_, rfl⟩
        replace h := h x2_19 ex2_19
        refine v_iinc o (v := x2_19) (lv' := [(2, .int x2_19), (0, .ref a), (1, .ref b1)]) 2 dX6_addAll_19 rfl (by rw [ex2_19]; rfl) (by decide) rfl ?_
        refine v_goto o (tgt := 2) dX6_addAll_22 (by decide) ?_
        refine v_sub [1, 2, 0] (lv2 := [(0, .ref a), (1, .ref b1), (2, .int x2_19)]) rfl ?_
        exact ih g16 x2_19  h.1 (by have := h.2; omega)
  unfold vX6_addAll at h
  refine v_iconst o (v := 0) dX6_addAll_0 (by decide) ?_
  refine v_istore_n o (lv' := [(2, .int 0), (0, .ref a), (1, .ref b1)]) dX6_addAll_1 rfl (by decide) rfl ?_
  refine v_sub [1, 2, 0] (lv2 := [(0, .ref a), (1, .ref b1), (2, .int 0)]) rfl ?_
  exact (main (μ2 f 0 + 1)) f 0  h (Nat.lt_succ_self _)
def WX6_addAll (P : Sk) (f : St) (a : Nat) (b1 : Nat) (K : St → Prop) : Prop := ∃ (I2 : St → Int32 → Prop) (μ2 : St → Int32 → Nat), (vX6_addAll P f a b1 I2 K) ∧ (∀ (g : St) (x2 : Int32) , I2 g x2 → bX6_addAll_2 P a b1 (fun g' z0 => I2 g' z0 ∧ μ2 g' z0 < μ2 g x2) K g x2)
def kX6_addAll (P : Sk) (f : St) (a : Nat) (b1 : Nat) (K : St → Prop) : Prop := ∃ n w n' w', WordIs f a n w ∧ WordIs f b1 n' w' ∧ (b1 + 3 ≤ a ∨ a + 3 ≤ b1) ∧ w.length + w'.length ≤ 24 ∧ ∀ g, Fr f g a (a + 3) → WordIs g a n (w ++ w') → K g
theorem wX6_addAll (P : Sk) (f : St) (a : Nat) (ha : IsWord P a) (b1 : Nat) (hb1 : IsWord P b1) (K : St → Prop) (h : kX6_addAll P f a b1 K) : WX6_addAll P f a b1 K := by
  obtain ⟨n, w, n', w', hw, hw', hd, hl, hK⟩ := h
  refine ⟨fun g x => ∃ k, x = nI k ∧ k ≤ w'.length ∧ Fr f g a (a + 3) ∧ WordIs g a n (w ++ w'.take k), fun g x => w'.length - x.toNatClampNeg, ?_, ?_⟩
  · unfold vX6_addAll
    refine ⟨0, rfl, Nat.zero_le _, Fr.refl _ _ _, ?_⟩
    rw [List.take_zero, List.append_nil]
    exact hw
  · rintro g x ⟨k, rfl, hk, hfr, hg⟩
    have hg' := hw'.out hfr hd
    unfold bX6_addAll_2
    rw [hg'.2.1, nI_leI (by omega) (by omega)]
    refine ⟨fun q => ?_, fun q => ?_⟩
    · have : k = w'.length := by omega
      rw [this, List.take_length] at hg
      exact hK g hfr hg
    · refine u6_codeAt hb1 hg' (by omega) (by omega) ?_
      refine u6_add hg (by rw [List.length_append, List.length_take]; omega) (fun g2 h1 h2 => ?_)
      rw [List.append_assoc, ← take_snoc w' k (by omega)] at h2
      rw [nI_1]
      exact fun x e => ⟨⟨k + 1, e, by omega, hfr.trans h1, h2⟩, mu_up e (by omega) (by omega)⟩

theorem metX6_addAll (l : Launch) (G : Gl) (P : Sk) (f : St) (sz : Nat) (a : Nat) (ha : IsWord P a) (b1 : Nat) (hb1 : IsWord P b1) (K : St → Prop) (h : kX6_addAll P f a b1 K) : Met l yX6_addAll (wU yX6_addAll cX6_addAll 3 none) rmX6_addAll (PcW G P f sz [.ref a, .ref b1]) (QcV G P sz K) 0 0 (frA P sz) := by
  obtain ⟨I2, μ2, qh, qh2⟩ := wX6_addAll P f a ha b1 hb1 K h
  exact mX6_addAll l G P f sz a ha b1 hb1 K I2 μ2 qh qh2

def bX6_removeAt_15 (P : Sk) (a : Nat) (p1 : Int32) (L15 : St → Int32 → Prop) (K : St → Prop) (f : St) (x2 : Int32) : Prop :=
  ((f a 2) - 1 ≤ x2 → ∀ g56 : St, g56 = setf f a 2 ((f a 2) - 1) → K g56) ∧ (¬ (f a 2) - 1 ≤ x2 → kX3_at P f (a + 1) (x2 + 1) (fun r37 g37 => kX3_put P g37 (a + 1) x2 r37 (fun g40 => ∀ x2_43 : Int32, x2_43 = x2 + 1 → L15 g40 x2_43)))
def vX6_removeAt (P : Sk) (f : St) (a : Nat) (p1 : Int32) (L15 : St → Int32 → Prop) (K : St → Prop) : Prop :=
  (p1 < 0 → K f) ∧ (¬ p1 < 0 → (p1 < f a 2 → L15 f p1) ∧ (¬ p1 < f a 2 → K f))
set_option maxRecDepth 20000 in
set_option maxHeartbeats 4000000 in
theorem mX6_removeAt (l : Launch) (G : Gl) (P : Sk) (f : St) (sz : Nat) (a : Nat) (ha : IsWord P a) (p1 : Int32) (K : St → Prop) (I15 : St → Int32 → Prop) (μ15 : St → Int32 → Nat) 
  (h : vX6_removeAt P f a p1 I15 K)
  (h15 : ∀ (g : St) (x2 : Int32) , I15 g x2 → bX6_removeAt_15 P a p1 (fun g' z0 => I15 g' z0 ∧ μ15 g' z0 < μ15 g x2) K g x2) :
  Met l yX6_removeAt (wU yX6_removeAt cX6_removeAt 3 none) rmX6_removeAt (PcW G P f sz [.ref a, .int p1]) (QcV G P sz K) 0 0 (frA P sz) := by
  refine v_met (own := RX6) [.ref a, .int p1] (by decide +kernel) rfl (Nat.le_of_ble_eq_true rfl) (fun p e s m args below meth c hsz o hr hnm => ?_)
  refine v_lv (lv2 := [(0, .ref a), (1, .int p1)]) rfl ?_
  have main : ∀ n : Nat, (∀ (g : St) (x2 : Int32) , I15 g x2 → μ15 g x2 < n → V p l e rmX6_removeAt s m args below meth c 3 G (frA P sz) (MQ below (QcV G P sz K) args s 0 0 (frA P sz)) 0 0 P [(0, .ref a), (1, .int p1), (2, .int x2)] [] 15 g) := by
    intro n
    induction n with
    | zero => exact fun g x2 hI hm => absurd hm (Nat.not_lt_zero _)
    | succ n ih =>
      intro g x2 hI hm
      have h := h15 g x2 hI
      clear hI
      unfold bX6_removeAt_15 at h
      refine v_iload_n o 2 dX6_removeAt_15 rfl ?_
      refine v_aload_n o 0 dX6_removeAt_16 rfl ?_
      refine v_gfI o lkX6_24 (by decide) (wfWord_o ha) dX6_removeAt_17 ?_
      refine v_iconst o (v := 1) dX6_removeAt_20 (by decide) ?_
      refine v_isub o dX6_removeAt_21 ?_
      refine v_icmp_ge o (tgt := 49) dX6_removeAt_22 (by decide) (fun c22 => ?_) (fun c22 => ?_)
      · replace h := h.1 c22
        refine v_aload_n o 0 dX6_removeAt_49 rfl ?_
        refine v_dup o dX6_removeAt_50 rfl ?_
        refine v_gfI o lkX6_24 (by decide) (wfWord_o ha) dX6_removeAt_51 ?_
        refine v_iconst o (v := 1) dX6_removeAt_54 (by decide) ?_
        refine v_isub o dX6_removeAt_55 ?_
        refine v_pf o lpX6_24 (wfWord_o ha) ⟨rfl, rfl⟩ dX6_removeAt_56 ?_
        refine v_nmf (fun g56 eg56 => ?_)
        replace h := h g56 eg56
        exact v_vret o rfl hr dX6_removeAt_59 h
      · replace h := h.2 c22
        refine v_aload_n o 0 dX6_removeAt_25 rfl ?_
        refine v_gfR o lkX6_14 (by decide) (wfWord_o ha) (wfWord_r0 ha) dX6_removeAt_26 ?_
        refine v_iload_n o 2 dX6_removeAt_29 rfl ?_
        refine v_aload_n o 0 dX6_removeAt_30 rfl ?_
        refine v_gfR o lkX6_14 (by decide) (wfWord_o ha) (wfWord_r0 ha) dX6_removeAt_31 ?_
        refine v_iload_n o 2 dX6_removeAt_34 rfl ?_
        refine v_iconst o (v := 1) dX6_removeAt_35 (by decide) ?_
        refine v_iadd o dX6_removeAt_36 ?_
        refine v_cVi o [.int (x2 + 1)] [.int x2, .ref (a + 1)] (fun sz => metX3_at l G P g sz (a + 1) (wfWord_t0 ha) (x2 + 1) _ h) (cwX6_27 o.1.2.2.2.2 (by decide)) ⟨_, _, rfl⟩ (by decide) (wfRow_o (wfWord_t0 ha)) rfl (Nat.le_of_ble_eq_true rfl) ⟨Nat.le_of_ble_eq_true rfl, Nat.le_of_ble_eq_true rfl⟩ dX6_removeAt_37 rfl (fun r37 g37 h => ?_)
        refine v_cVv o [.int x2, .int r37] [] (fun sz => metX3_put l G P g37 sz (a + 1) (wfWord_t0 ha) x2 r37 _ h) (cwX6_41 o.1.2.2.2.2 (by decide)) ⟨_, _, rfl⟩ (by decide) (wfRow_o (wfWord_t0 ha)) rfl (Nat.le_of_ble_eq_true rfl) ⟨Nat.le_of_ble_eq_true rfl, Nat.le_of_ble_eq_true rfl⟩ dX6_removeAt_40 rfl (fun g40 h => ?_)
        obtain ⟨x2_43, ex2_43⟩ : ∃ y : Int32, y = x2 + 1 := ⟨_, rfl⟩
        replace h := h x2_43 ex2_43
        refine v_iinc o (v := x2_43) (lv' := [(2, .int x2_43), (0, .ref a), (1, .int p1)]) 2 dX6_removeAt_43 rfl (by rw [ex2_43]; rfl) (by decide) rfl ?_
        refine v_goto o (tgt := 15) dX6_removeAt_46 (by decide) ?_
        refine v_sub [1, 2, 0] (lv2 := [(0, .ref a), (1, .int p1), (2, .int x2_43)]) rfl ?_
        exact ih g40 x2_43  h.1 (by have := h.2; omega)
  unfold vX6_removeAt at h
  refine v_iload_n o 1 dX6_removeAt_0 rfl ?_
  refine v_if_lt o (tgt := 12) dX6_removeAt_1 (by decide) (fun c1 => ?_) (fun c1 => ?_)
  · replace h := h.1 c1
    exact v_vret o rfl hr dX6_removeAt_12 h
  · replace h := h.2 c1
    refine v_iload_n o 1 dX6_removeAt_4 rfl ?_
    refine v_aload_n o 0 dX6_removeAt_5 rfl ?_
    refine v_gfI o lkX6_24 (by decide) (wfWord_o ha) dX6_removeAt_6 ?_
    refine v_icmp_lt o (tgt := 13) dX6_removeAt_9 (by decide) (fun c9 => ?_) (fun c9 => ?_)
    · replace h := h.1 c9
      refine v_iload_n o 1 dX6_removeAt_13 rfl ?_
      refine v_istore_n o (lv' := [(2, .int p1), (0, .ref a), (1, .int p1)]) dX6_removeAt_14 rfl (by decide) rfl ?_
      refine v_sub [1, 2, 0] (lv2 := [(0, .ref a), (1, .int p1), (2, .int p1)]) rfl ?_
      exact (main (μ15 f p1 + 1)) f p1  h (Nat.lt_succ_self _)
    · replace h := h.2 c9
      exact v_vret o rfl hr dX6_removeAt_12 h
def WX6_removeAt (P : Sk) (f : St) (a : Nat) (p1 : Int32) (K : St → Prop) : Prop := ∃ (I15 : St → Int32 → Prop) (μ15 : St → Int32 → Nat), (vX6_removeAt P f a p1 I15 K) ∧ (∀ (g : St) (x2 : Int32) , I15 g x2 → bX6_removeAt_15 P a p1 (fun g' z0 => I15 g' z0 ∧ μ15 g' z0 < μ15 g x2) K g x2)
def kX6_removeAt (P : Sk) (f : St) (a : Nat) (p1 : Int32) (K : St → Prop) : Prop := ∃ n w i, p1 = nI i ∧ i < w.length ∧ w.length ≤ 24 ∧ WordIs f a n w ∧ ∀ g, Fr f g a (a + 3) → WordIs g a n (del w i) → K g
theorem wX6_removeAt (P : Sk) (f : St) (a : Nat) (ha : IsWord P a) (p1 : Int32) (K : St → Prop) (h : kX6_removeAt P f a p1 K) : WX6_removeAt P f a p1 K := by
  obtain ⟨n, w, i, rfl, hi, hl, hw, hK⟩ := h
  refine ⟨fun g x => ∃ k, x = nI k ∧ i ≤ k ∧ k + 1 ≤ w.length ∧ Fr f g a (a + 3) ∧ g a 1 = nI n ∧ g a 2 = nI w.length ∧ (∀ j, j < k → g (a + 1 + 1) j = nI ((del w i).getD j 0)) ∧ (∀ j, k ≤ j → j < w.length → g (a + 1 + 1) j = nI (w.getD j 0)), fun g x => w.length - x.toNatClampNeg, ?_, ?_⟩
  · unfold vX6_removeAt
    rw [hw.2.1]
    refine ⟨fun q => absurd q (nI_nn (by omega)), fun _ => ⟨fun q => ?_, fun q => ?_⟩⟩
    · refine ⟨i, rfl, Nat.le_refl _, by omega, Fr.refl _ _ _, hw.1, hw.2.1, fun j hj => ?_, fun j h1 h2 => hw.2.2 j h2⟩
      rw [del_at _ _ _ hi, if_pos hj]
      exact hw.2.2 j (by omega)
    · rw [nI_ltI (by omega) (by omega)] at q
      omega
  · rintro g x ⟨k, rfl, hik, hkl, hfr, h1, h2, hA, hB⟩
    unfold bX6_removeAt_15
    have e3 : g a 2 - 1 = nI (w.length - 1) := by
      rw [h2, show w.length = (w.length - 1) + 1 by omega, nI_m1]
      rfl
    rw [e3]
    refine ⟨fun q => ?_, fun q => ?_⟩
    · rw [nI_leI (by omega) (by omega)] at q
      intro g2 e2
      refine hK g2 ?_ ?_
      · rw [e2]
        exact hfr.trans (fr_setf g (by omega) (by omega))
      · rw [e2]
        refine ⟨?_, ?_, fun j hj => ?_⟩
        · rw [setf_off (Or.inr (by omega))]
          exact h1
        · rw [setf_same, del_len _ _ hi]
        · rw [del_len _ _ hi] at hj
          rw [setf_off (Or.inl (by omega))]
          exact hA j (by omega)
    · rw [nI_leI (by omega) (by omega)] at q
      rw [nI_1]
      refine u3_at (wfWord_n0 ha) (by decide) (by omega) ?_
      refine u3_put (wfWord_n0 ha) (by decide) (by omega) ?_
      intro x e
      refine ⟨⟨k + 1, e, by omega, by omega, hfr.trans (fr_setf g (by omega) (by omega)), ?_, ?_, fun j hj => ?_, fun j hj hj2 => ?_⟩, ?_⟩
      · rw [setf_off (Or.inl (by omega))]
        exact h1
      · rw [setf_off (Or.inl (by omega))]
        exact h2
      · by_cases c2 : j = k
        · rw [c2, setf_same, del_at _ _ _ hi, if_neg (show ¬ k < i by omega)]
          exact hB (k + 1) (by omega) (by omega)
        · rw [setf_off (Or.inr c2)]
          exact hA j (by omega)
      · rw [setf_off (Or.inr (by omega))]
        exact hB j (by omega) hj2
      · exact mu_up e (by omega) (by omega)

theorem metX6_removeAt (l : Launch) (G : Gl) (P : Sk) (f : St) (sz : Nat) (a : Nat) (ha : IsWord P a) (p1 : Int32) (K : St → Prop) (h : kX6_removeAt P f a p1 K) : Met l yX6_removeAt (wU yX6_removeAt cX6_removeAt 3 none) rmX6_removeAt (PcW G P f sz [.ref a, .int p1]) (QcV G P sz K) 0 0 (frA P sz) := by
  obtain ⟨I15, μ15, qh, qh15⟩ := wX6_removeAt P f a ha p1 K h
  exact mX6_removeAt l G P f sz a ha p1 K I15 μ15 qh qh15

def vX6_copyFrom (P : Sk) (f : St) (a : Nat) (b1 : Nat) (K : St → Prop) : Prop :=
  ∀ g5 : St, g5 = setf f a 1 (f b1 1) → ∀ g13 : St, g13 = setf g5 a 2 (g5 b1 2) → kX3_copyFrom P g13 (a + 1) (b1 + 1) (fun g24 => K g24)
set_option maxRecDepth 20000 in
set_option maxHeartbeats 4000000 in
theorem mX6_copyFrom (l : Launch) (G : Gl) (P : Sk) (f : St) (sz : Nat) (a : Nat) (ha : IsWord P a) (b1 : Nat) (hb1 : IsWord P b1) (K : St → Prop) (h : vX6_copyFrom P f a b1 K)  :
  Met l yX6_copyFrom (wU yX6_copyFrom cX6_copyFrom 2 none) rmX6_copyFrom (PcW G P f sz [.ref a, .ref b1]) (QcV G P sz K) 0 0 (frA P sz) := by
  refine v_met (own := RX6) [.ref a, .ref b1] (by decide +kernel) rfl (Nat.le_of_ble_eq_true rfl) (fun p e s m args below meth c hsz o hr hnm => ?_)
  refine v_lv (lv2 := [(0, .ref a), (1, .ref b1)]) rfl ?_
  unfold vX6_copyFrom at h
  refine v_aload_n o 0 dX6_copyFrom_0 rfl ?_
  refine v_aload_n o 1 dX6_copyFrom_1 rfl ?_
  refine v_gfI o lkX6_20 (by decide) (wfWord_o hb1) dX6_copyFrom_2 ?_
  refine v_pf o lpX6_20 (wfWord_o ha) ⟨rfl, rfl⟩ dX6_copyFrom_5 ?_
  refine v_nmf (fun g5 eg5 => ?_)
  replace h := h g5 eg5
  refine v_aload_n o 0 dX6_copyFrom_8 rfl ?_
  refine v_aload_n o 1 dX6_copyFrom_9 rfl ?_
  refine v_gfI o lkX6_24 (by decide) (wfWord_o hb1) dX6_copyFrom_10 ?_
  refine v_pf o lpX6_24 (wfWord_o ha) ⟨rfl, rfl⟩ dX6_copyFrom_13 ?_
  refine v_nmf (fun g13 eg13 => ?_)
  replace h := h g13 eg13
  refine v_aload_n o 0 dX6_copyFrom_16 rfl ?_
  refine v_gfR o lkX6_14 (by decide) (wfWord_o ha) (wfWord_r0 ha) dX6_copyFrom_17 ?_
  refine v_aload_n o 1 dX6_copyFrom_20 rfl ?_
  refine v_gfR o lkX6_14 (by decide) (wfWord_o hb1) (wfWord_r0 hb1) dX6_copyFrom_21 ?_
  refine v_cVv o [.ref (b1 + 1)] [] (fun sz => metX3_copyFrom l G P g13 sz (a + 1) (wfWord_t0 ha) (b1 + 1) (wfWord_t0 hb1) _ h) (cwX6_44 o.1.2.2.2.2 (by decide)) ⟨_, _, rfl⟩ (by decide) (wfRow_o (wfWord_t0 ha)) rfl (Nat.le_of_ble_eq_true rfl) ⟨Nat.le_of_ble_eq_true rfl, Nat.le_of_ble_eq_true rfl⟩ dX6_copyFrom_24 rfl (fun g24 h => ?_)
  exact v_vret o rfl hr dX6_copyFrom_27 h
abbrev kX6_copyFrom := @vX6_copyFrom
abbrev metX6_copyFrom := @mX6_copyFrom
theorem u6_copyFrom {P : Sk} {f : St} {a b n : Nat} {w : List Nat} {K : St → Prop} (ha : IsWord P a) (hb : IsWord P b) (hd : b + 3 ≤ a ∨ a + 3 ≤ b) (hw : WordIs f b n w) (hl : w.length ≤ 24) (hK : ∀ g, Fr f g a (a + 3) → WordIs g a n w → K g) : kX6_copyFrom P f a b K := by
  show vX6_copyFrom P f a b K
  unfold vX6_copyFrom
  intro g e g2 e2
  refine u3_copyFrom (wfWord_n0 ha) (wfWord_n0 hb) (by decide) (fun g3 h1 h2 => hK g3 ?_ ?_)
  · intro q hq
    rw [h1 q (by omega), e2, setf_row (by omega), e, setf_row (by omega)]
  · refine ⟨?_, ?_, fun i hi => ?_⟩
    · rw [h1 a (by omega), e2, setf_off (Or.inr (by omega)), e, setf_same, hw.1]
    · rw [h1 a (by omega), e2, setf_same, e, setf_off (Or.inl (by omega)), hw.2.1]
    · rw [h2 i (by omega), e2, setf_off (Or.inl (by omega)), e, setf_off (Or.inl (by omega)), hw.2.2 i hi]

def bX6_isSame_26 (P : Sk) (a : Nat) (b1 : Nat) (L26 : St → Int32 → Prop) (K : Int32 → St → Prop) (f : St) (x2 : Int32) : Prop :=
  (f a 2 ≤ x2 → K 1 f) ∧ (¬ f a 2 ≤ x2 → kX6_codeAt P f a x2 (fun r36 g36 => kX6_codeAt P g36 b1 x2 (fun r41 g41 => (r36 = r41 → ∀ x2_49 : Int32, x2_49 = x2 + 1 → L26 g41 x2_49) ∧ (¬ r36 = r41 → K 0 g41))))
def vX6_isSame (P : Sk) (f : St) (a : Nat) (b1 : Nat) (L26 : St → Int32 → Prop) (K : Int32 → St → Prop) : Prop :=
  (¬ f a 1 = f b1 1 → K 0 f) ∧ (f a 1 = f b1 1 → (f a 2 = f b1 2 → L26 f 0) ∧ (¬ f a 2 = f b1 2 → K 0 f))
set_option maxRecDepth 20000 in
set_option maxHeartbeats 4000000 in
theorem mX6_isSame (l : Launch) (G : Gl) (P : Sk) (f : St) (sz : Nat) (a : Nat) (ha : IsWord P a) (b1 : Nat) (hb1 : IsWord P b1) (K : Int32 → St → Prop) (I26 : St → Int32 → Prop) (μ26 : St → Int32 → Nat) 
  (h : vX6_isSame P f a b1 I26 K)
  (h26 : ∀ (g : St) (x2 : Int32) , I26 g x2 → bX6_isSame_26 P a b1 (fun g' z0 => I26 g' z0 ∧ μ26 g' z0 < μ26 g x2) K g x2) :
  Met l yX6_isSame (wU yX6_isSame cX6_isSame 3 (some .boolean)) rmX6_isSame (PcW G P f sz [.ref a, .ref b1]) (QcI G P sz K) 0 0 (frA P sz) := by
  refine v_met (own := RX6) [.ref a, .ref b1] (by decide +kernel) rfl (Nat.le_of_ble_eq_true rfl) (fun p e s m args below meth c hsz o hr hnm => ?_)
  refine v_lv (lv2 := [(0, .ref a), (1, .ref b1)]) rfl ?_
  have main : ∀ n : Nat, (∀ (g : St) (x2 : Int32) , I26 g x2 → μ26 g x2 < n → V p l e rmX6_isSame s m args below meth c 3 G (frA P sz) (MQ below (QcI G P sz K) args s 0 0 (frA P sz)) 0 0 P [(0, .ref a), (1, .ref b1), (2, .int x2)] [] 26 g) := by
    intro n
    induction n with
    | zero => exact fun g x2 hI hm => absurd hm (Nat.not_lt_zero _)
    | succ n ih =>
      intro g x2 hI hm
      have h := h26 g x2 hI
      clear hI
      unfold bX6_isSame_26 at h
      refine v_iload_n o 2 dX6_isSame_26 rfl ?_
      refine v_aload_n o 0 dX6_isSame_27 rfl ?_
      refine v_gfI o lkX6_24 (by decide) (wfWord_o ha) dX6_isSame_28 ?_
      refine v_icmp_ge o (tgt := 55) dX6_isSame_31 (by decide) (fun c31 => ?_) (fun c31 => ?_)
      · replace h := h.1 c31
        refine v_iconst o (v := 1) dX6_isSame_55 (by decide) ?_
        exact v_zret o rfl hr bz1.1 dX6_isSame_56 h
      · replace h := h.2 c31
        refine v_aload_n o 0 dX6_isSame_34 rfl ?_
        refine v_iload_n o 2 dX6_isSame_35 rfl ?_
        refine v_cVi o [.int x2] [] (fun sz => metX6_codeAt l G P g sz a ha x2 _ h) (cwX6_35 o.1.2.2.2.2 (by decide)) ⟨_, _, rfl⟩ (by decide) (wfWord_o ha) rfl (Nat.le_of_ble_eq_true rfl) ⟨Nat.le_of_ble_eq_true rfl, Nat.le_of_ble_eq_true rfl⟩ dX6_isSame_36 rfl (fun r36 g36 h => ?_)
        refine v_aload_n o 1 dX6_isSame_39 rfl ?_
        refine v_iload_n o 2 dX6_isSame_40 rfl ?_
        refine v_cVi o [.int x2] [.int r36] (fun sz => metX6_codeAt l G P g36 sz b1 hb1 x2 _ h) (cwX6_35 o.1.2.2.2.2 (by decide)) ⟨_, _, rfl⟩ (by decide) (wfWord_o hb1) rfl (Nat.le_of_ble_eq_true rfl) ⟨Nat.le_of_ble_eq_true rfl, Nat.le_of_ble_eq_true rfl⟩ dX6_isSame_41 rfl (fun r41 g41 h => ?_)
        refine v_icmp_eq o (tgt := 49) dX6_isSame_44 (by decide) (fun c44 => ?_) (fun c44 => ?_)
        · replace h := h.1 c44
          obtain ⟨x2_49, ex2_49⟩ : ∃ y : Int32, y = x2 + 1 := ⟨_, rfl⟩
          replace h := h x2_49 ex2_49
          refine v_iinc o (v := x2_49) (lv' := [(2, .int x2_49), (0, .ref a), (1, .ref b1)]) 2 dX6_isSame_49 rfl (by rw [ex2_49]; rfl) (by decide) rfl ?_
          refine v_goto o (tgt := 26) dX6_isSame_52 (by decide) ?_
          refine v_sub [1, 2, 0] (lv2 := [(0, .ref a), (1, .ref b1), (2, .int x2_49)]) rfl ?_
          exact ih g41 x2_49  h.1 (by have := h.2; omega)
        · replace h := h.2 c44
          refine v_iconst o (v := 0) dX6_isSame_47 (by decide) ?_
          exact v_zret o rfl hr bz0.1 dX6_isSame_48 h
  unfold vX6_isSame at h
  refine v_aload_n o 0 dX6_isSame_0 rfl ?_
  refine v_gfI o lkX6_20 (by decide) (wfWord_o ha) dX6_isSame_1 ?_
  refine v_aload_n o 1 dX6_isSame_4 rfl ?_
  refine v_gfI o lkX6_20 (by decide) (wfWord_o hb1) dX6_isSame_5 ?_
  refine v_icmp_ne o (tgt := 22) dX6_isSame_8 (by decide) (fun c8 => ?_) (fun c8 => ?_)
  · replace h := h.1 c8
    refine v_iconst o (v := 0) dX6_isSame_22 (by decide) ?_
    exact v_zret o rfl hr bz0.1 dX6_isSame_23 h
  · replace h := h.2 c8
    refine v_aload_n o 0 dX6_isSame_11 rfl ?_
    refine v_gfI o lkX6_24 (by decide) (wfWord_o ha) dX6_isSame_12 ?_
    refine v_aload_n o 1 dX6_isSame_15 rfl ?_
    refine v_gfI o lkX6_24 (by decide) (wfWord_o hb1) dX6_isSame_16 ?_
    refine v_icmp_eq o (tgt := 24) dX6_isSame_19 (by decide) (fun c19 => ?_) (fun c19 => ?_)
    · replace h := h.1 c19
      refine v_iconst o (v := 0) dX6_isSame_24 (by decide) ?_
      refine v_istore_n o (lv' := [(2, .int 0), (0, .ref a), (1, .ref b1)]) dX6_isSame_25 rfl (by decide) rfl ?_
      refine v_sub [1, 2, 0] (lv2 := [(0, .ref a), (1, .ref b1), (2, .int 0)]) rfl ?_
      exact (main (μ26 f 0 + 1)) f 0  h (Nat.lt_succ_self _)
    · replace h := h.2 c19
      refine v_iconst o (v := 0) dX6_isSame_22 (by decide) ?_
      exact v_zret o rfl hr bz0.1 dX6_isSame_23 h
def WX6_isSame (P : Sk) (f : St) (a : Nat) (b1 : Nat) (K : Int32 → St → Prop) : Prop := ∃ (I26 : St → Int32 → Prop) (μ26 : St → Int32 → Nat), (vX6_isSame P f a b1 I26 K) ∧ (∀ (g : St) (x2 : Int32) , I26 g x2 → bX6_isSame_26 P a b1 (fun g' z0 => I26 g' z0 ∧ μ26 g' z0 < μ26 g x2) K g x2)
def kX6_isSame (P : Sk) (f : St) (a : Nat) (b1 : Nat) (K : Int32 → St → Prop) : Prop := ∃ n w n' w', WordIs f a n w ∧ WordIs f b1 n' w' ∧ Wok n w ∧ Wok n' w' ∧ K (if n = n' ∧ w = w' then 1 else 0) f
theorem wX6_isSame (P : Sk) (f : St) (a : Nat) (ha : IsWord P a) (b1 : Nat) (hb1 : IsWord P b1) (K : Int32 → St → Prop) (h : kX6_isSame P f a b1 K) : WX6_isSame P f a b1 K := by
  obtain ⟨n, w, n', w', hw, hw', ho, ho', hK⟩ := h
  refine ⟨fun g x => ∃ k, x = nI k ∧ g = f ∧ n = n' ∧ w.length = w'.length ∧ k ≤ w.length ∧ ∀ j, j < k → w.getD j 0 = w'.getD j 0, fun g x => w.length - x.toNatClampNeg, ?_, ?_⟩
  · have := ho.2.1
    have := ho'.2.1
    have := ho.2.2.1
    have := ho'.2.2.1
    unfold vX6_isSame
    rw [hw.1, hw'.1, hw.2.1, hw'.2.1, nI_eq (by omega) (by omega), nI_eq (by omega) (by omega)]
    refine ⟨fun q => ?_, fun q => ⟨fun q2 => ?_, fun q2 => ?_⟩⟩
    · rw [if_neg (fun e => q e.1)] at hK
      exact hK
    · exact ⟨0, rfl, rfl, q, q2, Nat.zero_le _, fun j hj => absurd hj (Nat.not_lt_zero _)⟩
    · rw [if_neg (fun e => q2 (congrArg List.length e.2))] at hK
      exact hK
  · rintro g x ⟨k, rfl, rfl, hn, hl, hk, hA⟩
    have := ho.2.2.1
    have := ho'.2.2.1
    unfold bX6_isSame_26
    rw [hw.2.1, nI_leI (by omega) (by omega)]
    refine ⟨fun q => ?_, fun q => ?_⟩
    · rw [if_pos ⟨hn, getD_ext w w' hl (fun i hi => hA i (by omega))⟩] at hK
      exact hK
    · refine u6_codeAt ha hw (by omega) (by omega) ?_
      refine u6_codeAt hb1 hw' (by omega) (by omega) ?_
      have := ho.lt (i := k) (by omega)
      have := ho'.lt (i := k) (by omega)
      rw [nI_eq (by omega) (by omega), nI_1]
      refine ⟨fun q2 x e => ⟨⟨k + 1, e, rfl, hn, hl, by omega, fun j hj => ?_⟩, mu_up e (by omega) (by omega)⟩, fun q2 => ?_⟩
      · by_cases c : j = k
        · rw [c]
          exact q2
        · exact hA j (by omega)
      · rw [if_neg (fun e => q2 (by rw [e.2]))] at hK
        exact hK

theorem metX6_isSame (l : Launch) (G : Gl) (P : Sk) (f : St) (sz : Nat) (a : Nat) (ha : IsWord P a) (b1 : Nat) (hb1 : IsWord P b1) (K : Int32 → St → Prop) (h : kX6_isSame P f a b1 K) : Met l yX6_isSame (wU yX6_isSame cX6_isSame 3 (some .boolean)) rmX6_isSame (PcW G P f sz [.ref a, .ref b1]) (QcI G P sz K) 0 0 (frA P sz) := by
  obtain ⟨I26, μ26, qh, qh26⟩ := wX6_isSame P f a ha b1 hb1 K h
  exact mX6_isSame l G P f sz a ha b1 hb1 K I26 μ26 qh qh26

def jX6_rightLessLeft_29 (P : Sk) (a : Nat) (L4 : St → Int32 → Int32 → Prop) (K : Int32 → St → Prop) (x1 : Int32) (x2 : Int32) (y0 : Int32) (y1 : Int32) (f : St) : Prop :=
  ∀ x1_30 : Int32, x1_30 = y0 + y1 → ∀ x2_31 : Int32, x2_31 = x2 + 1 → L4 f x1_30 x2_31
def bX6_rightLessLeft_4 (P : Sk) (a : Nat) (L4 : St → Int32 → Int32 → Prop) (K : Int32 → St → Prop) (f : St) (x1 : Int32) (x2 : Int32) : Prop :=
  (f a 2 ≤ x2 → K x1 f) ∧ (¬ f a 2 ≤ x2 → kX6_codeAt P f a x2 (fun r15 g15 => kX6_isRight P g15 r15 (fun r18 g18 => (r18 = 0 → jX6_rightLessLeft_29 P a L4 K x1 x2 x1 (-1) g18) ∧ (¬ r18 = 0 → jX6_rightLessLeft_29 P a L4 K x1 x2 x1 1 g18))))
def vX6_rightLessLeft (P : Sk) (f : St) (a : Nat) (L4 : St → Int32 → Int32 → Prop) (K : Int32 → St → Prop) : Prop :=
  L4 f 0 0
set_option maxRecDepth 20000 in
set_option maxHeartbeats 4000000 in
theorem mX6_rightLessLeft (l : Launch) (G : Gl) (P : Sk) (f : St) (sz : Nat) (a : Nat) (ha : IsWord P a) (K : Int32 → St → Prop) (I4 : St → Int32 → Int32 → Prop) (μ4 : St → Int32 → Int32 → Nat) 
  (h : vX6_rightLessLeft P f a I4 K)
  (h4 : ∀ (g : St) (x1 : Int32) (x2 : Int32) , I4 g x1 x2 → bX6_rightLessLeft_4 P a (fun g' z0 z1 => I4 g' z0 z1 ∧ μ4 g' z0 z1 < μ4 g x1 x2) K g x1 x2) :
  Met l yX6_rightLessLeft (wU yX6_rightLessLeft cX6_rightLessLeft 3 (some .int)) rmX6_rightLessLeft (PcW G P f sz [.ref a]) (QcI G P sz K) 0 0 (frA P sz) := by
  refine v_met (own := RX6) [.ref a] (by decide +kernel) rfl (Nat.le_of_ble_eq_true rfl) (fun p e s m args below meth c hsz o hr hnm => ?_)
  refine v_lv (lv2 := [(0, .ref a)]) rfl ?_
  have main : ∀ n : Nat, (∀ (g : St) (x1 : Int32) (x2 : Int32) , I4 g x1 x2 → μ4 g x1 x2 < n → V p l e rmX6_rightLessLeft s m args below meth c 3 G (frA P sz) (MQ below (QcI G P sz K) args s 0 0 (frA P sz)) 0 0 P [(0, .ref a), (1, .int x1), (2, .int x2)] [] 4 g) := by
    intro n
    induction n with
    | zero => exact fun g x1 x2 hI hm => absurd hm (Nat.not_lt_zero _)
    | succ n ih =>
      intro g x1 x2 hI hm
      have h := h4 g x1 x2 hI
      clear hI
      have J29 : ∀ (x1_29 : Int32) (x2_29 : Int32) (y0_29 : Int32) (y1_29 : Int32) (g29 : St), jX6_rightLessLeft_29 P a (fun g' z0 z1 => I4 g' z0 z1 ∧ μ4 g' z0 z1 < μ4 g x1 x2) K x1_29 x2_29 y0_29 y1_29 g29 → V p l e rmX6_rightLessLeft s m args below meth c 3 G (frA P sz) (MQ below (QcI G P sz K) args s 0 0 (frA P sz)) 0 0 P [(0, .ref a), (1, .int x1_29), (2, .int x2_29)] [.int y1_29, .int y0_29] 29 g29 := by
        intro x1_29 x2_29 y0_29 y1_29 g29  h
        unfold jX6_rightLessLeft_29 at h
        refine v_iadd o dX6_rightLessLeft_29 ?_
        refine v_topi (fun x1_30 ex1_30 => ?_)
        replace h := h x1_30 ex1_30
        refine v_istore_n o (lv' := [(1, .int x1_30), (0, .ref a), (2, .int x2_29)]) dX6_rightLessLeft_30 rfl (by decide) rfl ?_
        obtain ⟨x2_31, ex2_31⟩ : ∃ y : Int32, y = x2_29 + 1 := ⟨_, rfl⟩
        replace h := h x2_31 ex2_31
        refine v_iinc o (v := x2_31) (lv' := [(2, .int x2_31), (1, .int x1_30), (0, .ref a)]) 2 dX6_rightLessLeft_31 rfl (by rw [ex2_31]; rfl) (by decide) rfl ?_
        refine v_goto o (tgt := 4) dX6_rightLessLeft_34 (by decide) ?_
        refine v_sub [2, 1, 0] (lv2 := [(0, .ref a), (1, .int x1_30), (2, .int x2_31)]) rfl ?_
        exact ih g29 x1_30 x2_31  h.1 (by have := h.2; omega)
      unfold bX6_rightLessLeft_4 at h
      refine v_iload_n o 2 dX6_rightLessLeft_4 rfl ?_
      refine v_aload_n o 0 dX6_rightLessLeft_5 rfl ?_
      refine v_gfI o lkX6_24 (by decide) (wfWord_o ha) dX6_rightLessLeft_6 ?_
      refine v_icmp_ge o (tgt := 37) dX6_rightLessLeft_9 (by decide) (fun c9 => ?_) (fun c9 => ?_)
      · replace h := h.1 c9
        refine v_iload_n o 1 dX6_rightLessLeft_37 rfl ?_
        exact v_iret o rfl hr dX6_rightLessLeft_38 h
      · replace h := h.2 c9
        refine v_iload_n o 1 dX6_rightLessLeft_12 rfl ?_
        refine v_aload_n o 0 dX6_rightLessLeft_13 rfl ?_
        refine v_iload_n o 2 dX6_rightLessLeft_14 rfl ?_
        refine v_cVi o [.int x2] [.int x1] (fun sz => metX6_codeAt l G P g sz a ha x2 _ h) (cwX6_35 o.1.2.2.2.2 (by decide)) ⟨_, _, rfl⟩ (by decide) (wfWord_o ha) rfl (Nat.le_of_ble_eq_true rfl) ⟨Nat.le_of_ble_eq_true rfl, Nat.le_of_ble_eq_true rfl⟩ dX6_rightLessLeft_15 rfl (fun r15 g15 h => ?_)
        refine v_cSi o [.int r15] [.int x1] (fun sz => metX6_isRight l G P g15 sz r15 _ h) (cwX6_48 o.1.2.2.2.2 (by decide)) rfl (Nat.le_of_ble_eq_true rfl) ⟨Nat.le_of_ble_eq_true rfl, Nat.le_of_ble_eq_true rfl⟩ dX6_rightLessLeft_18 rfl (fun r18 g18 h => ?_)
        refine v_if_eq o (tgt := 28) dX6_rightLessLeft_21 (by decide) (fun c21 => ?_) (fun c21 => ?_)
        · replace h := h.1 c21
          refine v_iconst o (v := (-1)) dX6_rightLessLeft_28 (by decide) ?_
          refine v_sub [0, 1, 2] (lv2 := [(0, .ref a), (1, .int x1), (2, .int x2)]) rfl ?_
          exact J29 x1 x2 x1 (-1) g18  h
        · replace h := h.2 c21
          refine v_iconst o (v := 1) dX6_rightLessLeft_24 (by decide) ?_
          refine v_goto o (tgt := 29) dX6_rightLessLeft_25 (by decide) ?_
          refine v_sub [0, 1, 2] (lv2 := [(0, .ref a), (1, .int x1), (2, .int x2)]) rfl ?_
          exact J29 x1 x2 x1 1 g18  h
  unfold vX6_rightLessLeft at h
  refine v_iconst o (v := 0) dX6_rightLessLeft_0 (by decide) ?_
  refine v_istore_n o (lv' := [(1, .int 0), (0, .ref a)]) dX6_rightLessLeft_1 rfl (by decide) rfl ?_
  refine v_iconst o (v := 0) dX6_rightLessLeft_2 (by decide) ?_
  refine v_istore_n o (lv' := [(2, .int 0), (1, .int 0), (0, .ref a)]) dX6_rightLessLeft_3 rfl (by decide) rfl ?_
  refine v_sub [2, 1, 0] (lv2 := [(0, .ref a), (1, .int 0), (2, .int 0)]) rfl ?_
  exact (main (μ4 f 0 0 + 1)) f 0 0  h (Nat.lt_succ_self _)
def WX6_rightLessLeft (P : Sk) (f : St) (a : Nat) (K : Int32 → St → Prop) : Prop := ∃ (I4 : St → Int32 → Int32 → Prop) (μ4 : St → Int32 → Int32 → Nat), (vX6_rightLessLeft P f a I4 K) ∧ (∀ (g : St) (x1 : Int32) (x2 : Int32) , I4 g x1 x2 → bX6_rightLessLeft_4 P a (fun g' z0 z1 => I4 g' z0 z1 ∧ μ4 g' z0 z1 < μ4 g x1 x2) K g x1 x2)
/-- right ones less left ones of the first crossings -/
def rll (w : List Nat) : Nat → Int32
  | 0 => 0
  | k + 1 => rll w k + (if w.getD k 0 % 2 = 1 then 1 else -1)
def kX6_rightLessLeft (P : Sk) (f : St) (a : Nat) (K : Int32 → St → Prop) : Prop := ∃ n w, WordIs f a n w ∧ Wok n w ∧ K (rll w w.length) f
theorem wX6_rightLessLeft (P : Sk) (f : St) (a : Nat) (ha : IsWord P a) (K : Int32 → St → Prop) (h : kX6_rightLessLeft P f a K) : WX6_rightLessLeft P f a K := by
  obtain ⟨n, w, hw, ho, hK⟩ := h
  have hl := ho.2.2.1
  refine ⟨fun g x1 x => ∃ k, x = nI k ∧ g = f ∧ k ≤ w.length ∧ x1 = rll w k, fun g x1 x => w.length - x.toNatClampNeg, ?_, ?_⟩
  · unfold vX6_rightLessLeft
    exact ⟨0, rfl, rfl, Nat.zero_le _, rfl⟩
  · rintro g x1 x ⟨k, rfl, rfl, hk, rfl⟩
    unfold bX6_rightLessLeft_4
    rw [hw.2.1, nI_leI (by omega) (by omega)]
    refine ⟨fun q => ?_, fun q => ?_⟩
    · rw [show k = w.length by omega]
      exact hK
    · refine u6_codeAt ha hw hl (by omega) ?_
      have h1 := ho.lt (i := k) (by omega)
      refine u6_isRight (by omega) ?_
      rw [show (0 : Int32) = nI 0 from rfl, nI_eq (by omega) (by omega)]
      unfold jX6_rightLessLeft_29
      rw [nI_1]
      refine ⟨fun q2 y e x e2 => ⟨⟨k + 1, e2, rfl, by omega, ?_⟩, mu_up e2 (by omega) (by omega)⟩, fun q2 y e x e2 => ⟨⟨k + 1, e2, rfl, by omega, ?_⟩, mu_up e2 (by omega) (by omega)⟩⟩
      · rw [e, rll, if_neg (by omega)]
      · rw [e, rll, if_pos (by omega)]

theorem metX6_rightLessLeft (l : Launch) (G : Gl) (P : Sk) (f : St) (sz : Nat) (a : Nat) (ha : IsWord P a) (K : Int32 → St → Prop) (h : kX6_rightLessLeft P f a K) : Met l yX6_rightLessLeft (wU yX6_rightLessLeft cX6_rightLessLeft 3 (some .int)) rmX6_rightLessLeft (PcW G P f sz [.ref a]) (QcI G P sz K) 0 0 (frA P sz) := by
  obtain ⟨I4, μ4, qh, qh4⟩ := wX6_rightLessLeft P f a ha K h
  exact mX6_rightLessLeft l G P f sz a ha K I4 μ4 qh qh4

def bX6_looseIndexOf_12 (P : Sk) (a : Nat) (p1 : Int32) (L12 : St → Int32 → Int32 → Prop) (K : Int32 → St → Prop) (f : St) (x2 : Int32) (x3 : Int32) : Prop :=
  (x3 < 0 → K x2 f) ∧ (¬ x3 < 0 → kX3_at P f (a + 1) x3 (fun r21 g21 => kX6_placeOf P g21 r21 (fun r24 g24 => kX6_placeOf P g24 p1 (fun r28 g28 => (r24 - r28 < 2 → K x2 g28) ∧ (¬ r24 - r28 < 2 → ∀ x3_38 : Int32, x3_38 = x3 + (-1) → L12 g28 x3 x3_38)))))
def vX6_looseIndexOf (P : Sk) (f : St) (a : Nat) (p1 : Int32) (L12 : St → Int32 → Int32 → Prop) (K : Int32 → St → Prop) : Prop :=
  ∀ x2_4 : Int32, x2_4 = f a 2 → ∀ x3_11 : Int32, x3_11 = (f a 2) - 1 → L12 f x2_4 x3_11
set_option maxRecDepth 20000 in
set_option maxHeartbeats 4000000 in
theorem mX6_looseIndexOf (l : Launch) (G : Gl) (P : Sk) (f : St) (sz : Nat) (a : Nat) (ha : IsWord P a) (p1 : Int32) (K : Int32 → St → Prop) (I12 : St → Int32 → Int32 → Prop) (μ12 : St → Int32 → Int32 → Nat) 
  (h : vX6_looseIndexOf P f a p1 I12 K)
  (h12 : ∀ (g : St) (x2 : Int32) (x3 : Int32) , I12 g x2 x3 → bX6_looseIndexOf_12 P a p1 (fun g' z0 z1 => I12 g' z0 z1 ∧ μ12 g' z0 z1 < μ12 g x2 x3) K g x2 x3) :
  Met l yX6_looseIndexOf (wU yX6_looseIndexOf cX6_looseIndexOf 4 (some .int)) rmX6_looseIndexOf (PcW G P f sz [.ref a, .int p1]) (QcI G P sz K) 0 0 (frA P sz) := by
  refine v_met (own := RX6) [.ref a, .int p1] (by decide +kernel) rfl (Nat.le_of_ble_eq_true rfl) (fun p e s m args below meth c hsz o hr hnm => ?_)
  refine v_lv (lv2 := [(0, .ref a), (1, .int p1)]) rfl ?_
  have main : ∀ n : Nat, (∀ (g : St) (x2 : Int32) (x3 : Int32) , I12 g x2 x3 → μ12 g x2 x3 < n → V p l e rmX6_looseIndexOf s m args below meth c 4 G (frA P sz) (MQ below (QcI G P sz K) args s 0 0 (frA P sz)) 0 0 P [(0, .ref a), (1, .int p1), (2, .int x2), (3, .int x3)] [] 12 g) := by
    intro n
    induction n with
    | zero => exact fun g x2 x3 hI hm => absurd hm (Nat.not_lt_zero _)
    | succ n ih =>
      intro g x2 x3 hI hm
      have h := h12 g x2 x3 hI
      clear hI
      unfold bX6_looseIndexOf_12 at h
      refine v_iload_n o 3 dX6_looseIndexOf_12 rfl ?_
      refine v_if_lt o (tgt := 44) dX6_looseIndexOf_13 (by decide) (fun c13 => ?_) (fun c13 => ?_)
      · replace h := h.1 c13
        refine v_iload_n o 2 dX6_looseIndexOf_44 rfl ?_
        exact v_iret o rfl hr dX6_looseIndexOf_45 h
      · replace h := h.2 c13
        refine v_aload_n o 0 dX6_looseIndexOf_16 rfl ?_
        refine v_gfR o lkX6_14 (by decide) (wfWord_o ha) (wfWord_r0 ha) dX6_looseIndexOf_17 ?_
        refine v_iload_n o 3 dX6_looseIndexOf_20 rfl ?_
        refine v_cVi o [.int x3] [] (fun sz => metX3_at l G P g sz (a + 1) (wfWord_t0 ha) x3 _ h) (cwX6_27 o.1.2.2.2.2 (by decide)) ⟨_, _, rfl⟩ (by decide) (wfRow_o (wfWord_t0 ha)) rfl (Nat.le_of_ble_eq_true rfl) ⟨Nat.le_of_ble_eq_true rfl, Nat.le_of_ble_eq_true rfl⟩ dX6_looseIndexOf_21 rfl (fun r21 g21 h => ?_)
        refine v_cSi o [.int r21] [] (fun sz => metX6_placeOf l G P g21 sz r21 _ h) (cwX6_65 o.1.2.2.2.2 (by decide)) rfl (Nat.le_of_ble_eq_true rfl) ⟨Nat.le_of_ble_eq_true rfl, Nat.le_of_ble_eq_true rfl⟩ dX6_looseIndexOf_24 rfl (fun r24 g24 h => ?_)
        refine v_iload_n o 1 dX6_looseIndexOf_27 rfl ?_
        refine v_cSi o [.int p1] [.int r24] (fun sz => metX6_placeOf l G P g24 sz p1 _ h) (cwX6_65 o.1.2.2.2.2 (by decide)) rfl (Nat.le_of_ble_eq_true rfl) ⟨Nat.le_of_ble_eq_true rfl, Nat.le_of_ble_eq_true rfl⟩ dX6_looseIndexOf_28 rfl (fun r28 g28 h => ?_)
        refine v_isub o dX6_looseIndexOf_31 ?_
        refine v_iconst o (v := 2) dX6_looseIndexOf_32 (by decide) ?_
        refine v_icmp_lt o (tgt := 44) dX6_looseIndexOf_33 (by decide) (fun c33 => ?_) (fun c33 => ?_)
        · replace h := h.1 c33
          refine v_iload_n o 2 dX6_looseIndexOf_44 rfl ?_
          exact v_iret o rfl hr dX6_looseIndexOf_45 h
        · replace h := h.2 c33
          refine v_iload_n o 3 dX6_looseIndexOf_36 rfl ?_
          refine v_istore_n o (lv' := [(2, .int x3), (0, .ref a), (1, .int p1), (3, .int x3)]) dX6_looseIndexOf_37 rfl (by decide) rfl ?_
          obtain ⟨x3_38, ex3_38⟩ : ∃ y : Int32, y = x3 + (-1) := ⟨_, rfl⟩
          replace h := h x3_38 ex3_38
          refine v_iinc o (v := x3_38) (lv' := [(3, .int x3_38), (2, .int x3), (0, .ref a), (1, .int p1)]) 3 dX6_looseIndexOf_38 rfl (by rw [ex3_38]; rfl) (by decide) rfl ?_
          refine v_goto o (tgt := 12) dX6_looseIndexOf_41 (by decide) ?_
          refine v_sub [2, 3, 1, 0] (lv2 := [(0, .ref a), (1, .int p1), (2, .int x3), (3, .int x3_38)]) rfl ?_
          exact ih g28 x3 x3_38  h.1 (by have := h.2; omega)
  unfold vX6_looseIndexOf at h
  refine v_aload_n o 0 dX6_looseIndexOf_0 rfl ?_
  refine v_gfI o lkX6_24 (by decide) (wfWord_o ha) dX6_looseIndexOf_1 ?_
  refine v_topi (fun x2_4 ex2_4 => ?_)
  replace h := h x2_4 ex2_4
  refine v_istore_n o (lv' := [(2, .int x2_4), (0, .ref a), (1, .int p1)]) dX6_looseIndexOf_4 rfl (by decide) rfl ?_
  refine v_aload_n o 1 dX6_looseIndexOf_5 rfl ?_
  refine v_gfI o lkX6_24 (by decide) (wfWord_o ha) dX6_looseIndexOf_6 ?_
  refine v_iconst o (v := 1) dX6_looseIndexOf_9 (by decide) ?_
  refine v_isub o dX6_looseIndexOf_10 ?_
  refine v_topi (fun x3_11 ex3_11 => ?_)
  replace h := h x3_11 ex3_11
  refine v_istore_n o (lv' := [(3, .int x3_11), (2, .int x2_4), (0, .ref a), (1, .int p1)]) dX6_looseIndexOf_11 rfl (by decide) rfl ?_
  refine v_sub [2, 3, 1, 0] (lv2 := [(0, .ref a), (1, .int p1), (2, .int x2_4), (3, .int x3_11)]) rfl ?_
  exact (main (μ12 f x2_4 x3_11 + 1)) f x2_4 x3_11  h (Nat.lt_succ_self _)
def WX6_looseIndexOf (P : Sk) (f : St) (a : Nat) (p1 : Int32) (K : Int32 → St → Prop) : Prop := ∃ (I12 : St → Int32 → Int32 → Prop) (μ12 : St → Int32 → Int32 → Nat), (vX6_looseIndexOf P f a p1 I12 K) ∧ (∀ (g : St) (x2 : Int32) (x3 : Int32) , I12 g x2 x3 → bX6_looseIndexOf_12 P a p1 (fun g' z0 z1 => I12 g' z0 z1 ∧ μ12 g' z0 z1 < μ12 g x2 x3) K g x2 x3)
def kX6_looseIndexOf (P : Sk) (f : St) (a : Nat) (p1 : Int32) (K : Int32 → St → Prop) : Prop := ∃ n w c, p1 = nI c ∧ c < 16 ∧ WordIs f a n w ∧ Wok n w ∧ ∀ idx, idx ≤ w.length → (∀ j, idx ≤ j → j < w.length → c / 2 + 2 ≤ w.getD j 0 / 2) → (idx = 0 ∨ ¬ (c / 2 + 2 ≤ w.getD (idx - 1) 0 / 2)) → K (nI idx) f
theorem wX6_looseIndexOf (P : Sk) (f : St) (a : Nat) (ha : IsWord P a) (p1 : Int32) (K : Int32 → St → Prop) (h : kX6_looseIndexOf P f a p1 K) : WX6_looseIndexOf P f a p1 K := by
  obtain ⟨n, w, c, rfl, hc, hw, ho, hK⟩ := h
  have hl := ho.2.2.1
  refine ⟨fun g x2 x3 => ∃ k, x2 = nI k ∧ x3 = nI k - 1 ∧ g = f ∧ k ≤ w.length ∧ ∀ j, k ≤ j → j < w.length → c / 2 + 2 ≤ w.getD j 0 / 2, fun g x2 x3 => x2.toNatClampNeg, ?_, ?_⟩
  · unfold vX6_looseIndexOf
    rw [hw.2.1]
    exact fun x e y e2 => ⟨w.length, e, e2, rfl, Nat.le_refl _, fun j h1 h2 => by omega⟩
  · rintro g x2 x3 ⟨k, rfl, rfl, rfl, hk, hA⟩
    unfold bX6_looseIndexOf_12
    by_cases c0 : k = 0
    · subst c0
      exact ⟨fun q => hK 0 (by omega) hA (Or.inl rfl), fun q => absurd (by decide) q⟩
    · obtain ⟨k, rfl⟩ : ∃ k', k = k' + 1 := ⟨k - 1, by omega⟩
      rw [nI_m1]
      refine ⟨fun q => absurd q (nI_nn (by omega)), fun _ => ?_⟩
      refine u3_at (wfWord_n0 ha) (by decide) (by omega) ?_
      rw [hw.2.2 k (by omega)]
      have h1 := ho.lt (i := k) (by omega)
      refine u6_placeOf (by omega) ?_
      refine u6_placeOf (by omega) ?_
      rw [c_far _ (by omega) _ (by omega)]
      refine ⟨fun q => hK (k + 1) hk hA (Or.inr q), fun q x e => ?_⟩
      rw [nI_pm] at e
      refine ⟨⟨k, rfl, e, rfl, by omega, fun j h2 h3 => ?_⟩, mu_dn rfl (by omega)⟩
      by_cases c2 : j = k
      · rw [c2]
        omega
      · exact hA j (by omega) h3

theorem metX6_looseIndexOf (l : Launch) (G : Gl) (P : Sk) (f : St) (sz : Nat) (a : Nat) (ha : IsWord P a) (p1 : Int32) (K : Int32 → St → Prop) (h : kX6_looseIndexOf P f a p1 K) : Met l yX6_looseIndexOf (wU yX6_looseIndexOf cX6_looseIndexOf 4 (some .int)) rmX6_looseIndexOf (PcW G P f sz [.ref a, .int p1]) (QcI G P sz K) 0 0 (frA P sz) := by
  obtain ⟨I12, μ12, qh, qh12⟩ := wX6_looseIndexOf P f a ha p1 K h
  exact mX6_looseIndexOf l G P f sz a ha p1 K I12 μ12 qh qh12

def jX6_makeLoose_69 (P : Sk) (a : Nat) (b1 : Nat) (L10 : St → Int32 → Prop) (K : St → Prop) (x2 : Int32) (x3 : Int32) (x4 : Int32) (f : St) : Prop :=
  ∀ x2_69 : Int32, x2_69 = x2 + 1 → L10 f x2_69
def jX6_makeLoose_62 (P : Sk) (a : Nat) (b1 : Nat) (L10 : St → Int32 → Prop) (K : St → Prop) (x2 : Int32) (x3 : Int32) (x4 : Int32) (f : St) : Prop :=
  kX6_insertAt P f a x4 x3 (fun g66 => jX6_makeLoose_69 P a b1 L10 K x2 x3 x4 g66)
def bX6_makeLoose_10 (P : Sk) (a : Nat) (b1 : Nat) (L10 : St → Int32 → Prop) (K : St → Prop) (f : St) (x2 : Int32) : Prop :=
  (f b1 2 ≤ x2 → K f) ∧ (¬ f b1 2 ≤ x2 → kX6_codeAt P f b1 x2 (fun r20 g20 => kX6_looseIndexOf P g20 a r20 (fun r26 g26 => (r26 ≤ 0 → jX6_makeLoose_62 P a b1 L10 K x2 r20 r26 g26) ∧ (¬ r26 ≤ 0 → kX6_codeAt P g26 a (r26 - 1) (fun r41 g41 => kX6_flipped P g41 r20 (fun r45 g45 => (¬ r41 = r45 → jX6_makeLoose_62 P a b1 L10 K x2 r20 r26 g45) ∧ (r41 = r45 → kX6_removeAt P g45 a (r26 - 1) (fun g56 => jX6_makeLoose_69 P a b1 L10 K x2 r20 r26 g56))))))))
def vX6_makeLoose (P : Sk) (f : St) (a : Nat) (b1 : Nat) (L10 : St → Int32 → Prop) (K : St → Prop) : Prop :=
  kX6_begin P f a (f b1 1) (fun g5 => L10 g5 0)
set_option maxRecDepth 20000 in
set_option maxHeartbeats 4000000 in
theorem mX6_makeLoose (l : Launch) (G : Gl) (P : Sk) (f : St) (sz : Nat) (a : Nat) (ha : IsWord P a) (b1 : Nat) (hb1 : IsWord P b1) (K : St → Prop) (I10 : St → Int32 → Prop) (μ10 : St → Int32 → Nat) 
  (h : vX6_makeLoose P f a b1 I10 K)
  (h10 : ∀ (g : St) (x2 : Int32) , I10 g x2 → bX6_makeLoose_10 P a b1 (fun g' z0 => I10 g' z0 ∧ μ10 g' z0 < μ10 g x2) K g x2) :
  Met l yX6_makeLoose (wU yX6_makeLoose cX6_makeLoose 5 none) rmX6_makeLoose (PcW G P f sz [.ref a, .ref b1]) (QcV G P sz K) 0 0 (frA P sz) := by
  refine v_met (own := RX6) [.ref a, .ref b1] (by decide +kernel) rfl (Nat.le_of_ble_eq_true rfl) (fun p e s m args below meth c hsz o hr hnm => ?_)
  refine v_lv (lv2 := [(0, .ref a), (1, .ref b1)]) rfl ?_
  have main : ∀ n : Nat, (∀ (g : St) (x2 : Int32) , I10 g x2 → μ10 g x2 < n → V p l e rmX6_makeLoose s m args below meth c 5 G (frA P sz) (MQ below (QcV G P sz K) args s 0 0 (frA P sz)) 0 0 P [(0, .ref a), (1, .ref b1), (2, .int x2)] [] 10 g) := by
    intro n
    induction n with
    | zero => exact fun g x2 hI hm => absurd hm (Nat.not_lt_zero _)
    | succ n ih =>
      intro g x2 hI hm
      have h := h10 g x2 hI
      clear hI
      have J69 : ∀ (x2_69 : Int32) (x3_69 : Int32) (x4_69 : Int32) (g69 : St), jX6_makeLoose_69 P a b1 (fun g' z0 => I10 g' z0 ∧ μ10 g' z0 < μ10 g x2) K x2_69 x3_69 x4_69 g69 → V p l e rmX6_makeLoose s m args below meth c 5 G (frA P sz) (MQ below (QcV G P sz K) args s 0 0 (frA P sz)) 0 0 P [(0, .ref a), (1, .ref b1), (2, .int x2_69), (3, .int x3_69), (4, .int x4_69)] [] 69 g69 := by
        intro x2_69 x3_69 x4_69 g69  h
        unfold jX6_makeLoose_69 at h
        obtain ⟨x2_69, ex2_69⟩ : ∃ y : Int32, y = x2_69 + 1 := ⟨_, rfl⟩
        replace h := h x2_69 ex2_69
        refine v_iinc o (v := x2_69) (lv' := [(2, .int x2_69), (0, .ref a), (1, .ref b1), (3, .int x3_69), (4, .int x4_69)]) 2 dX6_makeLoose_69 rfl (by rw [ex2_69]; rfl) (by decide) rfl ?_
        refine v_goto o (tgt := 10) dX6_makeLoose_72 (by decide) ?_
        refine v_sub [1, 2, 0] (lv2 := [(0, .ref a), (1, .ref b1), (2, .int x2_69)]) rfl ?_
        exact ih g69 x2_69  h.1 (by have := h.2; omega)
      have J62 : ∀ (x2_62 : Int32) (x3_62 : Int32) (x4_62 : Int32) (g62 : St), jX6_makeLoose_62 P a b1 (fun g' z0 => I10 g' z0 ∧ μ10 g' z0 < μ10 g x2) K x2_62 x3_62 x4_62 g62 → V p l e rmX6_makeLoose s m args below meth c 5 G (frA P sz) (MQ below (QcV G P sz K) args s 0 0 (frA P sz)) 0 0 P [(0, .ref a), (1, .ref b1), (2, .int x2_62), (3, .int x3_62), (4, .int x4_62)] [] 62 g62 := by
        intro x2_62 x3_62 x4_62 g62  h
        unfold jX6_makeLoose_62 at h
        refine v_aload_n o 0 dX6_makeLoose_62 rfl ?_
        refine v_iload o 4 dX6_makeLoose_63 rfl ?_
        refine v_iload_n o 3 dX6_makeLoose_65 rfl ?_
        refine v_cVv o [.int x4_62, .int x3_62] [] (fun sz => metX6_insertAt l G P g62 sz a ha x4_62 x3_62 _ h) (cwX6_31 o.1.2.2.2.2 (by decide)) ⟨_, _, rfl⟩ (by decide) (wfWord_o ha) rfl (Nat.le_of_ble_eq_true rfl) ⟨Nat.le_of_ble_eq_true rfl, Nat.le_of_ble_eq_true rfl⟩ dX6_makeLoose_66 rfl (fun g66 h => ?_)
        refine v_sub [0, 1, 2, 3, 4] (lv2 := [(0, .ref a), (1, .ref b1), (2, .int x2_62), (3, .int x3_62), (4, .int x4_62)]) rfl ?_
        exact J69 x2_62 x3_62 x4_62 g66  h
      unfold bX6_makeLoose_10 at h
      refine v_iload_n o 2 dX6_makeLoose_10 rfl ?_
      refine v_aload_n o 1 dX6_makeLoose_11 rfl ?_
      refine v_gfI o lkX6_24 (by decide) (wfWord_o hb1) dX6_makeLoose_12 ?_
      refine v_icmp_ge o (tgt := 75) dX6_makeLoose_15 (by decide) (fun c15 => ?_) (fun c15 => ?_)
      · replace h := h.1 c15
        exact v_vret o rfl hr dX6_makeLoose_75 h
      · replace h := h.2 c15
        refine v_aload_n o 1 dX6_makeLoose_18 rfl ?_
        refine v_iload_n o 2 dX6_makeLoose_19 rfl ?_
        refine v_cVi o [.int x2] [] (fun sz => metX6_codeAt l G P g sz b1 hb1 x2 _ h) (cwX6_35 o.1.2.2.2.2 (by decide)) ⟨_, _, rfl⟩ (by decide) (wfWord_o hb1) rfl (Nat.le_of_ble_eq_true rfl) ⟨Nat.le_of_ble_eq_true rfl, Nat.le_of_ble_eq_true rfl⟩ dX6_makeLoose_20 rfl (fun r20 g20 h => ?_)
        refine v_istore_n o (lv' := [(3, .int r20), (0, .ref a), (1, .ref b1), (2, .int x2)]) dX6_makeLoose_23 rfl (by decide) rfl ?_
        refine v_aload_n o 1 dX6_makeLoose_24 rfl ?_
        refine v_iload_n o 0 dX6_makeLoose_25 rfl ?_
        refine v_cVi o [.int r20] [] (fun sz => metX6_looseIndexOf l G P g20 sz a ha r20 _ h) (cwX6_72 o.1.2.2.2.2 (by decide)) ⟨_, _, rfl⟩ (by decide) (wfWord_o ha) rfl (Nat.le_of_ble_eq_true rfl) ⟨Nat.le_of_ble_eq_true rfl, Nat.le_of_ble_eq_true rfl⟩ dX6_makeLoose_26 rfl (fun r26 g26 h => ?_)
        refine v_istore o (lv' := [(4, .int r26), (3, .int r20), (0, .ref a), (1, .ref b1), (2, .int x2)]) dX6_makeLoose_29 (by decide) rfl ?_
        refine v_iload o 0 dX6_makeLoose_31 rfl ?_
        refine v_if_le o (tgt := 62) dX6_makeLoose_33 (by decide) (fun c33 => ?_) (fun c33 => ?_)
        · replace h := h.1 c33
          refine v_sub [2, 3, 4, 1, 0] (lv2 := [(0, .ref a), (1, .ref b1), (2, .int x2), (3, .int r20), (4, .int r26)]) rfl ?_
          exact J62 x2 r20 r26 g26  h
        · replace h := h.2 c33
          refine v_aload_n o 2 dX6_makeLoose_36 rfl ?_
          refine v_iload o 0 dX6_makeLoose_37 rfl ?_
          refine v_iconst o (v := 1) dX6_makeLoose_39 (by decide) ?_
          refine v_isub o dX6_makeLoose_40 ?_
          refine v_cVi o [.int (r26 - 1)] [] (fun sz => metX6_codeAt l G P g26 sz a ha (r26 - 1) _ h) (cwX6_35 o.1.2.2.2.2 (by decide)) ⟨_, _, rfl⟩ (by decide) (wfWord_o ha) rfl (Nat.le_of_ble_eq_true rfl) ⟨Nat.le_of_ble_eq_true rfl, Nat.le_of_ble_eq_true rfl⟩ dX6_makeLoose_41 rfl (fun r41 g41 h => ?_)
          refine v_iload_n o 1 dX6_makeLoose_44 rfl ?_
          refine v_cSi o [.int r20] [.int r41] (fun sz => metX6_flipped l G P g41 sz r20 _ h) (cwX6_59 o.1.2.2.2.2 (by decide)) rfl (Nat.le_of_ble_eq_true rfl) ⟨Nat.le_of_ble_eq_true rfl, Nat.le_of_ble_eq_true rfl⟩ dX6_makeLoose_45 rfl (fun r45 g45 h => ?_)
          refine v_icmp_ne o (tgt := 62) dX6_makeLoose_48 (by decide) (fun c48 => ?_) (fun c48 => ?_)
          · replace h := h.1 c48
            refine v_sub [2, 3, 4, 1, 0] (lv2 := [(0, .ref a), (1, .ref b1), (2, .int x2), (3, .int r20), (4, .int r26)]) rfl ?_
            exact J62 x2 r20 r26 g45  h
          · replace h := h.2 c48
            refine v_aload_n o 2 dX6_makeLoose_51 rfl ?_
            refine v_iload o 0 dX6_makeLoose_52 rfl ?_
            refine v_iconst o (v := 1) dX6_makeLoose_54 (by decide) ?_
            refine v_isub o dX6_makeLoose_55 ?_
            refine v_cVv o [.int (r26 - 1)] [] (fun sz => metX6_removeAt l G P g45 sz a ha (r26 - 1) _ h) (cwX6_75 o.1.2.2.2.2 (by decide)) ⟨_, _, rfl⟩ (by decide) (wfWord_o ha) rfl (Nat.le_of_ble_eq_true rfl) ⟨Nat.le_of_ble_eq_true rfl, Nat.le_of_ble_eq_true rfl⟩ dX6_makeLoose_56 rfl (fun g56 h => ?_)
            refine v_goto o (tgt := 69) dX6_makeLoose_59 (by decide) ?_
            refine v_sub [2, 3, 4, 1, 0] (lv2 := [(0, .ref a), (1, .ref b1), (2, .int x2), (3, .int r20), (4, .int r26)]) rfl ?_
            exact J69 x2 r20 r26 g56  h
  unfold vX6_makeLoose at h
  refine v_aload_n o 0 dX6_makeLoose_0 rfl ?_
  refine v_aload_n o 1 dX6_makeLoose_1 rfl ?_
  refine v_gfI o lkX6_20 (by decide) (wfWord_o hb1) dX6_makeLoose_2 ?_
  refine v_cVv o [.int (f b1 1)] [] (fun sz => metX6_begin l G P f sz a ha (f b1 1) _ h) (cwX6_56 o.1.2.2.2.2 (by decide)) ⟨_, _, rfl⟩ (by decide) (wfWord_o ha) rfl (Nat.le_of_ble_eq_true rfl) ⟨Nat.le_of_ble_eq_true rfl, Nat.le_of_ble_eq_true rfl⟩ dX6_makeLoose_5 rfl (fun g5 h => ?_)
  refine v_iconst o (v := 0) dX6_makeLoose_8 (by decide) ?_
  refine v_istore_n o (lv' := [(2, .int 0), (0, .ref a), (1, .ref b1)]) dX6_makeLoose_9 rfl (by decide) rfl ?_
  refine v_sub [1, 2, 0] (lv2 := [(0, .ref a), (1, .ref b1), (2, .int 0)]) rfl ?_
  exact (main (μ10 g5 0 + 1)) g5 0  h (Nat.lt_succ_self _)
def WX6_makeLoose (P : Sk) (f : St) (a : Nat) (b1 : Nat) (K : St → Prop) : Prop := ∃ (I10 : St → Int32 → Prop) (μ10 : St → Int32 → Nat), (vX6_makeLoose P f a b1 I10 K) ∧ (∀ (g : St) (x2 : Int32) , I10 g x2 → bX6_makeLoose_10 P a b1 (fun g' z0 => I10 g' z0 ∧ μ10 g' z0 < μ10 g x2) K g x2)
def kX6_makeLoose (P : Sk) (f : St) (a : Nat) (b1 : Nat) (K : St → Prop) : Prop := ∃ n w, WordIs f b1 n w ∧ Wok n w ∧ (b1 + 3 ≤ a ∨ a + 3 ≤ b1) ∧ ∀ g, Fr f g a (a + 3) → WordIs g a n (NF w) → K g
theorem wX6_makeLoose (P : Sk) (f : St) (a : Nat) (ha : IsWord P a) (b1 : Nat) (hb1 : IsWord P b1) (K : St → Prop) (h : kX6_makeLoose P f a b1 K) : WX6_makeLoose P f a b1 K := by
  obtain ⟨n, w, hw, ho, hd, hK⟩ := h
  have hl := ho.2.2.1
  refine ⟨fun g x => ∃ k, x = nI k ∧ k ≤ w.length ∧ Fr f g a (a + 3) ∧ WordIs g a n (NF (w.take k)), fun g x => w.length - x.toNatClampNeg, ?_, ?_⟩
  · unfold vX6_makeLoose
    refine u6_begin hw.1 (fun g h1 h2 => ⟨0, rfl, Nat.zero_le _, h1, ?_⟩)
    rw [List.take_zero]
    exact h2
  · rintro g x ⟨k, rfl, hk, hfr, hg⟩
    have hg' := hw.out hfr hd
    unfold bX6_makeLoose_10
    rw [hg'.2.1, nI_leI (by omega) (by omega)]
    refine ⟨fun q => ?_, fun q => ?_⟩
    · rw [show k = w.length by omega, List.take_length] at hg
      exact hK g hfr hg
    · refine u6_codeAt hb1 hg' (by omega) (by omega) ?_
      have hc := ho.lt (i := k) (by omega)
      have hk1 := take_snoc w k (by omega)
      have hv := (ho.take k).NF
      have hvl := hv.2.2.1
      have hvl2 : (NF (w.take k)).length ≤ k := Nat.le_trans (NF_len _) (by rw [List.length_take]; omega)
      have hst := NF_snoc (w.take k) (w.getD k 0)
      rw [← hk1] at hst
      generalize NF (w.take k) = v at *
      refine ⟨n, v, w.getD k 0, rfl, by omega, hg, hv, fun idx h1 h2 h3 => ?_⟩
      have hm := ins_loose v (w.getD k 0) idx h1 h2 h3
      have next : ∀ g2, Fr g g2 a (a + 3) → WordIs g2 a n (NF (w.take (k + 1))) → jX6_makeLoose_69 P a b1 (fun g' z0 => (∃ k, z0 = nI k ∧ k ≤ w.length ∧ Fr f g' a (a + 3) ∧ WordIs g' a n (NF (w.take k))) ∧ w.length - z0.toNatClampNeg < w.length - (nI k).toNatClampNeg) K (nI k) (nI (w.getD k 0)) (nI idx) g2 := by
        intro g2 q1 q2
        unfold jX6_makeLoose_69
        rw [nI_1]
        exact fun x e => ⟨⟨k + 1, e, by omega, hfr.trans q1, q2⟩, mu_up e (by omega) (by omega)⟩
      have put : ¬ (0 < idx ∧ v.getD (idx - 1) 0 = fl (w.getD k 0)) → jX6_makeLoose_62 P a b1 (fun g' z0 => (∃ k, z0 = nI k ∧ k ≤ w.length ∧ Fr f g' a (a + 3) ∧ WordIs g' a n (NF (w.take k))) ∧ w.length - z0.toNatClampNeg < w.length - (nI k).toNatClampNeg) K (nI k) (nI (w.getD k 0)) (nI idx) g := by
        intro q1
        rw [if_neg q1] at hm
        unfold jX6_makeLoose_62
        refine ⟨n, v, idx, w.getD k 0, rfl, rfl, h1, by omega, hg, fun g2 r1 r2 => next g2 r1 ?_⟩
        rw [hst, hm, List.reverse_reverse]
        exact r2
      change _ ∧ _
      rw [show (0 : Int32) = nI 0 from rfl, nI_leI (by omega) (by omega)]
      refine ⟨fun q2 => put (fun q3 => by omega), fun q2 => ?_⟩
      obtain ⟨i, rfl⟩ : ∃ i, idx = i + 1 := ⟨idx - 1, by omega⟩
      rw [nI_m1]
      refine u6_codeAt ha hg hvl (by omega) ?_
      refine u6_flipped (by omega) ?_
      have h4 := hv.lt (i := i) (by omega)
      have h5 := fl_lt (n := 6) hc
      rw [nI_eq (by omega) (by omega)]
      refine ⟨fun q3 => put (fun q4 => q3 q4.2), fun q3 => ?_⟩
      rw [if_pos ⟨by omega, q3⟩] at hm
      refine ⟨n, v, i, rfl, by omega, hvl, hg, fun g2 r1 r2 => next g2 r1 ?_⟩
      rw [hst, hm, List.reverse_reverse]
      exact r2

theorem metX6_makeLoose (l : Launch) (G : Gl) (P : Sk) (f : St) (sz : Nat) (a : Nat) (ha : IsWord P a) (b1 : Nat) (hb1 : IsWord P b1) (K : St → Prop) (h : kX6_makeLoose P f a b1 K) : Met l yX6_makeLoose (wU yX6_makeLoose cX6_makeLoose 5 none) rmX6_makeLoose (PcW G P f sz [.ref a, .ref b1]) (QcV G P sz K) 0 0 (frA P sz) := by
  obtain ⟨I10, μ10, qh, qh10⟩ := wX6_makeLoose P f a ha b1 hb1 K h
  exact mX6_makeLoose l G P f sz a ha b1 hb1 K I10 μ10 qh qh10

def vX6_turned (P : Sk) (f : St) (a : Nat) (p1 : Int32) (K : Int32 → St → Prop) : Prop :=
  kX6_placeOf P f p1 (fun r7 g7 => kX6_isRight P g7 p1 (fun r12 g12 => kX6_codeOf P g12 (((f a 1) - 2) - r7) r12 (fun r15 g15 => K r15 g15)))
set_option maxRecDepth 20000 in
set_option maxHeartbeats 4000000 in
theorem mX6_turned (l : Launch) (G : Gl) (P : Sk) (f : St) (sz : Nat) (a : Nat) (ha : IsWord P a) (p1 : Int32) (K : Int32 → St → Prop) (h : vX6_turned P f a p1 K)  :
  Met l yX6_turned (wU yX6_turned cX6_turned 2 (some .int)) rmX6_turned (PcW G P f sz [.ref a, .int p1]) (QcI G P sz K) 0 0 (frA P sz) := by
  refine v_met (own := RX6) [.ref a, .int p1] (by decide +kernel) rfl (Nat.le_of_ble_eq_true rfl) (fun p e s m args below meth c hsz o hr hnm => ?_)
  refine v_lv (lv2 := [(0, .ref a), (1, .int p1)]) rfl ?_
  unfold vX6_turned at h
  refine v_aload_n o 0 dX6_turned_0 rfl ?_
  refine v_gfI o lkX6_20 (by decide) (wfWord_o ha) dX6_turned_1 ?_
  refine v_iconst o (v := 2) dX6_turned_4 (by decide) ?_
  refine v_isub o dX6_turned_5 ?_
  refine v_iload_n o 1 dX6_turned_6 rfl ?_
  refine v_cSi o [.int p1] [.int ((f a 1) - 2)] (fun sz => metX6_placeOf l G P f sz p1 _ h) (cwX6_65 o.1.2.2.2.2 (by decide)) rfl (Nat.le_of_ble_eq_true rfl) ⟨Nat.le_of_ble_eq_true rfl, Nat.le_of_ble_eq_true rfl⟩ dX6_turned_7 rfl (fun r7 g7 h => ?_)
  refine v_isub o dX6_turned_10 ?_
  refine v_iload_n o 1 dX6_turned_11 rfl ?_
  refine v_cSi o [.int p1] [.int (((f a 1) - 2) - r7)] (fun sz => metX6_isRight l G P g7 sz p1 _ h) (cwX6_48 o.1.2.2.2.2 (by decide)) rfl (Nat.le_of_ble_eq_true rfl) ⟨Nat.le_of_ble_eq_true rfl, Nat.le_of_ble_eq_true rfl⟩ dX6_turned_12 rfl (fun r12 g12 h => ?_)
  refine v_cSi o [.int (((f a 1) - 2) - r7), .int r12] [] (fun sz => metX6_codeOf l G P g12 sz (((f a 1) - 2) - r7) r12 _ h) (cwX6_68 o.1.2.2.2.2 (by decide)) rfl (Nat.le_of_ble_eq_true rfl) ⟨Nat.le_of_ble_eq_true rfl, Nat.le_of_ble_eq_true rfl⟩ dX6_turned_15 rfl (fun r15 g15 h => ?_)
  exact v_iret o rfl hr dX6_turned_18 h
abbrev kX6_turned := @vX6_turned
abbrev metX6_turned := @mX6_turned
theorem u6_turned {P : Sk} {f : St} {a n c : Nat} {K : Int32 → St → Prop} (hn : f a 1 = nI n) (h : c < 2 * (n - 1)) (h2 : n ≤ 7) (hK : K (nI (tn n c)) f) : kX6_turned P f a (nI c) K := by
  show vX6_turned P f a (nI c) K
  unfold vX6_turned
  refine u6_placeOf (by omega) ?_
  refine u6_isRight (by omega) ?_
  rw [hn, show (2 : Int32) = nI 2 from rfl, pk_sub (by omega), pk_sub (by omega)]
  exact u6_codeOf (by omega) hK

def jX6_makeChanged_106 (P : Sk) (a : Nat) (b1 : Nat) (p2 : Int32) (L21 : St → Int32 → Prop) (K : St → Prop) (x3 : Int32) (f : St) : Prop :=
  ∀ x3_106 : Int32, x3_106 = x3 + 1 → L21 f x3_106
def bX6_makeChanged_21 (P : Sk) (a : Nat) (b1 : Nat) (p2 : Int32) (L21 : St → Int32 → Prop) (K : St → Prop) (f : St) (x3 : Int32) : Prop :=
  (f b1 2 ≤ x3 → K f) ∧ (¬ f b1 2 ≤ x3 → (p2 = 0 → kX6_codeAt P f b1 x3 (fun r59 g59 => kX6_flipped P g59 r59 (fun r62 g62 => kX6_add P g62 a r62 (fun g65 => jX6_makeChanged_106 P a b1 p2 L21 K x3 g65)))) ∧ (¬ p2 = 0 → (p2 = 1 → kX6_codeAt P f b1 x3 (fun r75 g75 => kX6_turned P g75 a r75 (fun r78 g78 => kX6_add P g78 a r78 (fun g81 => jX6_makeChanged_106 P a b1 p2 L21 K x3 g81)))) ∧ (¬ p2 = 1 → kX6_codeAt P f b1 (((f b1 2) - 1) - x3) (fun r97 g97 => kX6_flipped P g97 r97 (fun r100 g100 => kX6_add P g100 a r100 (fun g103 => jX6_makeChanged_106 P a b1 p2 L21 K x3 g103))))))
def vX6_makeChanged (P : Sk) (f : St) (a : Nat) (b1 : Nat) (p2 : Int32) (L21 : St → Int32 → Prop) (K : St → Prop) : Prop :=
  (¬ p2 = 3 → kX6_begin P f a (f b1 1) (fun g16 => L21 g16 0)) ∧ (p2 = 3 → kX6_makeLoose P f a b1 (fun g7 => K g7))
set_option maxRecDepth 20000 in
set_option maxHeartbeats 4000000 in
theorem mX6_makeChanged (l : Launch) (G : Gl) (P : Sk) (f : St) (sz : Nat) (a : Nat) (ha : IsWord P a) (b1 : Nat) (hb1 : IsWord P b1) (p2 : Int32) (K : St → Prop) (I21 : St → Int32 → Prop) (μ21 : St → Int32 → Nat) 
  (h : vX6_makeChanged P f a b1 p2 I21 K)
  (h21 : ∀ (g : St) (x3 : Int32) , I21 g x3 → bX6_makeChanged_21 P a b1 p2 (fun g' z0 => I21 g' z0 ∧ μ21 g' z0 < μ21 g x3) K g x3) :
  Met l yX6_makeChanged (wU yX6_makeChanged cX6_makeChanged 4 none) rmX6_makeChanged (PcW G P f sz [.ref a, .ref b1, .int p2]) (QcV G P sz K) 0 0 (frA P sz) := by
  refine v_met (own := RX6) [.ref a, .ref b1, .int p2] (by decide +kernel) rfl (Nat.le_of_ble_eq_true rfl) (fun p e s m args below meth c hsz o hr hnm => ?_)
  refine v_lv (lv2 := [(0, .ref a), (1, .ref b1), (2, .int p2)]) rfl ?_
  have main : ∀ n : Nat, (∀ (g : St) (x3 : Int32) , I21 g x3 → μ21 g x3 < n → V p l e rmX6_makeChanged s m args below meth c 4 G (frA P sz) (MQ below (QcV G P sz K) args s 0 0 (frA P sz)) 0 0 P [(0, .ref a), (1, .ref b1), (2, .int p2), (3, .int x3)] [] 21 g) := by
    intro n
    induction n with
    | zero => exact fun g x3 hI hm => absurd hm (Nat.not_lt_zero _)
    | succ n ih =>
      intro g x3 hI hm
      have h := h21 g x3 hI
      clear hI
      have J106 : ∀ (x3_106 : Int32) (g106 : St), jX6_makeChanged_106 P a b1 p2 (fun g' z0 => I21 g' z0 ∧ μ21 g' z0 < μ21 g x3) K x3_106 g106 → V p l e rmX6_makeChanged s m args below meth c 4 G (frA P sz) (MQ below (QcV G P sz K) args s 0 0 (frA P sz)) 0 0 P [(0, .ref a), (1, .ref b1), (2, .int p2), (3, .int x3_106)] [] 106 g106 := by
        intro x3_106 g106  h
        unfold jX6_makeChanged_106 at h
        obtain ⟨x3_106, ex3_106⟩ : ∃ y : Int32, y = x3_106 + 1 := ⟨_, rfl⟩
        replace h := h x3_106 ex3_106
        refine v_iinc o (v := x3_106) (lv' := [(3, .int x3_106), (0, .ref a), (1, .ref b1), (2, .int p2)]) 3 dX6_makeChanged_106 rfl (by rw [ex3_106]; rfl) (by decide) rfl ?_
        refine v_goto o (tgt := 21) dX6_makeChanged_109 (by decide) ?_
        refine v_sub [1, 2, 3, 0] (lv2 := [(0, .ref a), (1, .ref b1), (2, .int p2), (3, .int x3_106)]) rfl ?_
        exact ih g106 x3_106  h.1 (by have := h.2; omega)
      unfold bX6_makeChanged_21 at h
      refine v_iload_n o 3 dX6_makeChanged_21 rfl ?_
      refine v_aload_n o 1 dX6_makeChanged_22 rfl ?_
      refine v_gfI o lkX6_24 (by decide) (wfWord_o hb1) dX6_makeChanged_23 ?_
      refine v_icmp_ge o (tgt := 112) dX6_makeChanged_26 (by decide) (fun c26 => ?_) (fun c26 => ?_)
      · replace h := h.1 c26
        exact v_vret o rfl hr dX6_makeChanged_112 h
      · replace h := h.2 c26
        refine v_iload_n o 2 dX6_makeChanged_29 rfl ?_
        by_cases c30_0 : p2 = 0
        · replace h := h.1 c30_0
          refine v_lookup o (off := 26) (tgt := 56) dX6_makeChanged_30 (by decide) (by rw [c30_0]; decide) (by decide) ?_
          refine v_aload_n o 0 dX6_makeChanged_56 rfl ?_
          refine v_aload_n o 1 dX6_makeChanged_57 rfl ?_
          refine v_iload_n o 3 dX6_makeChanged_58 rfl ?_
          refine v_cVi o [.int x3] [.ref a] (fun sz => metX6_codeAt l G P g sz b1 hb1 x3 _ h) (cwX6_35 o.1.2.2.2.2 (by decide)) ⟨_, _, rfl⟩ (by decide) (wfWord_o hb1) rfl (Nat.le_of_ble_eq_true rfl) ⟨Nat.le_of_ble_eq_true rfl, Nat.le_of_ble_eq_true rfl⟩ dX6_makeChanged_59 rfl (fun r59 g59 h => ?_)
          refine v_cSi o [.int r59] [.ref a] (fun sz => metX6_flipped l G P g59 sz r59 _ h) (cwX6_59 o.1.2.2.2.2 (by decide)) rfl (Nat.le_of_ble_eq_true rfl) ⟨Nat.le_of_ble_eq_true rfl, Nat.le_of_ble_eq_true rfl⟩ dX6_makeChanged_62 rfl (fun r62 g62 h => ?_)
          refine v_cVv o [.int r62] [] (fun sz => metX6_add l G P g62 sz a ha r62 _ h) (cwX6_38 o.1.2.2.2.2 (by decide)) ⟨_, _, rfl⟩ (by decide) (wfWord_o ha) rfl (Nat.le_of_ble_eq_true rfl) ⟨Nat.le_of_ble_eq_true rfl, Nat.le_of_ble_eq_true rfl⟩ dX6_makeChanged_65 rfl (fun g65 h => ?_)
          refine v_goto o (tgt := 106) dX6_makeChanged_68 (by decide) ?_
          refine v_sub [0, 1, 2, 3] (lv2 := [(0, .ref a), (1, .ref b1), (2, .int p2), (3, .int x3)]) rfl ?_
          exact J106 x3 g65  h
        · replace h := h.2 c30_0
          by_cases c30_1 : p2 = 1
          · replace h := h.1 c30_1
            refine v_lookup o (off := 41) (tgt := 71) dX6_makeChanged_30 (by decide) (by rw [c30_1]; decide) (by decide) ?_
            refine v_aload_n o 0 dX6_makeChanged_71 rfl ?_
            refine v_aload_n o 0 dX6_makeChanged_72 rfl ?_
            refine v_aload_n o 1 dX6_makeChanged_73 rfl ?_
            refine v_iload_n o 3 dX6_makeChanged_74 rfl ?_
            refine v_cVi o [.int x3] [.ref a, .ref a] (fun sz => metX6_codeAt l G P g sz b1 hb1 x3 _ h) (cwX6_35 o.1.2.2.2.2 (by decide)) ⟨_, _, rfl⟩ (by decide) (wfWord_o hb1) rfl (Nat.le_of_ble_eq_true rfl) ⟨Nat.le_of_ble_eq_true rfl, Nat.le_of_ble_eq_true rfl⟩ dX6_makeChanged_75 rfl (fun r75 g75 h => ?_)
            refine v_cVi o [.int r75] [.ref a] (fun sz => metX6_turned l G P g75 sz a ha r75 _ h) (cwX6_62 o.1.2.2.2.2 (by decide)) ⟨_, _, rfl⟩ (by decide) (wfWord_o ha) rfl (Nat.le_of_ble_eq_true rfl) ⟨Nat.le_of_ble_eq_true rfl, Nat.le_of_ble_eq_true rfl⟩ dX6_makeChanged_78 rfl (fun r78 g78 h => ?_)
            refine v_cVv o [.int r78] [] (fun sz => metX6_add l G P g78 sz a ha r78 _ h) (cwX6_38 o.1.2.2.2.2 (by decide)) ⟨_, _, rfl⟩ (by decide) (wfWord_o ha) rfl (Nat.le_of_ble_eq_true rfl) ⟨Nat.le_of_ble_eq_true rfl, Nat.le_of_ble_eq_true rfl⟩ dX6_makeChanged_81 rfl (fun g81 h => ?_)
            refine v_goto o (tgt := 106) dX6_makeChanged_84 (by decide) ?_
            refine v_sub [0, 1, 2, 3] (lv2 := [(0, .ref a), (1, .ref b1), (2, .int p2), (3, .int x3)]) rfl ?_
            exact J106 x3 g81  h
          · replace h := h.2 c30_1
            refine v_lookup o (off := 57) (tgt := 87) dX6_makeChanged_30 (by decide) (by show Op.lookupswitch.offset [(0, 26), (1, 41)] _ _ = _; rw [lv_osw c30_0 (by decide), lv_osw c30_1 (by decide)]; rfl) (by decide) ?_
            refine v_aload_n o 0 dX6_makeChanged_87 rfl ?_
            refine v_aload_n o 1 dX6_makeChanged_88 rfl ?_
            refine v_aload_n o 1 dX6_makeChanged_89 rfl ?_
            refine v_gfI o lkX6_24 (by decide) (wfWord_o hb1) dX6_makeChanged_90 ?_
            refine v_iconst o (v := 1) dX6_makeChanged_93 (by decide) ?_
            refine v_isub o dX6_makeChanged_94 ?_
            refine v_iload_n o 3 dX6_makeChanged_95 rfl ?_
            refine v_isub o dX6_makeChanged_96 ?_
            refine v_cVi o [.int (((g b1 2) - 1) - x3)] [.ref a] (fun sz => metX6_codeAt l G P g sz b1 hb1 (((g b1 2) - 1) - x3) _ h) (cwX6_35 o.1.2.2.2.2 (by decide)) ⟨_, _, rfl⟩ (by decide) (wfWord_o hb1) rfl (Nat.le_of_ble_eq_true rfl) ⟨Nat.le_of_ble_eq_true rfl, Nat.le_of_ble_eq_true rfl⟩ dX6_makeChanged_97 rfl (fun r97 g97 h => ?_)
            refine v_cSi o [.int r97] [.ref a] (fun sz => metX6_flipped l G P g97 sz r97 _ h) (cwX6_59 o.1.2.2.2.2 (by decide)) rfl (Nat.le_of_ble_eq_true rfl) ⟨Nat.le_of_ble_eq_true rfl, Nat.le_of_ble_eq_true rfl⟩ dX6_makeChanged_100 rfl (fun r100 g100 h => ?_)
            refine v_cVv o [.int r100] [] (fun sz => metX6_add l G P g100 sz a ha r100 _ h) (cwX6_38 o.1.2.2.2.2 (by decide)) ⟨_, _, rfl⟩ (by decide) (wfWord_o ha) rfl (Nat.le_of_ble_eq_true rfl) ⟨Nat.le_of_ble_eq_true rfl, Nat.le_of_ble_eq_true rfl⟩ dX6_makeChanged_103 rfl (fun g103 h => ?_)
            refine v_sub [0, 1, 2, 3] (lv2 := [(0, .ref a), (1, .ref b1), (2, .int p2), (3, .int x3)]) rfl ?_
            exact J106 x3 g103  h
  unfold vX6_makeChanged at h
  refine v_iload_n o 2 dX6_makeChanged_0 rfl ?_
  refine v_iconst o (v := 3) dX6_makeChanged_1 (by decide) ?_
  refine v_icmp_ne o (tgt := 11) dX6_makeChanged_2 (by decide) (fun c2 => ?_) (fun c2 => ?_)
  · replace h := h.1 c2
    refine v_aload_n o 0 dX6_makeChanged_11 rfl ?_
    refine v_aload_n o 1 dX6_makeChanged_12 rfl ?_
    refine v_gfI o lkX6_20 (by decide) (wfWord_o hb1) dX6_makeChanged_13 ?_
    refine v_cVv o [.int (f b1 1)] [] (fun sz => metX6_begin l G P f sz a ha (f b1 1) _ h) (cwX6_56 o.1.2.2.2.2 (by decide)) ⟨_, _, rfl⟩ (by decide) (wfWord_o ha) rfl (Nat.le_of_ble_eq_true rfl) ⟨Nat.le_of_ble_eq_true rfl, Nat.le_of_ble_eq_true rfl⟩ dX6_makeChanged_16 rfl (fun g16 h => ?_)
    refine v_iconst o (v := 0) dX6_makeChanged_19 (by decide) ?_
    refine v_istore_n o (lv' := [(3, .int 0), (0, .ref a), (1, .ref b1), (2, .int p2)]) dX6_makeChanged_20 rfl (by decide) rfl ?_
    refine v_sub [1, 2, 3, 0] (lv2 := [(0, .ref a), (1, .ref b1), (2, .int p2), (3, .int 0)]) rfl ?_
    exact (main (μ21 g16 0 + 1)) g16 0  h (Nat.lt_succ_self _)
  · replace h := h.2 c2
    refine v_aload_n o 0 dX6_makeChanged_5 rfl ?_
    refine v_aload_n o 1 dX6_makeChanged_6 rfl ?_
    refine v_cVv o [.ref b1] [] (fun sz => metX6_makeLoose l G P f sz a ha b1 hb1 _ h) (cwX6_52 o.1.2.2.2.2 (by decide)) ⟨_, _, rfl⟩ (by decide) (wfWord_o ha) rfl (Nat.le_of_ble_eq_true rfl) ⟨Nat.le_of_ble_eq_true rfl, Nat.le_of_ble_eq_true rfl⟩ dX6_makeChanged_7 rfl (fun g7 h => ?_)
    exact v_vret o rfl hr dX6_makeChanged_10 h
def WX6_makeChanged (P : Sk) (f : St) (a : Nat) (b1 : Nat) (p2 : Int32) (K : St → Prop) : Prop := ∃ (I21 : St → Int32 → Prop) (μ21 : St → Int32 → Nat), (vX6_makeChanged P f a b1 p2 I21 K) ∧ (∀ (g : St) (x3 : Int32) , I21 g x3 → bX6_makeChanged_21 P a b1 p2 (fun g' z0 => I21 g' z0 ∧ μ21 g' z0 < μ21 g x3) K g x3)
def kX6_makeChanged (P : Sk) (f : St) (a : Nat) (b1 : Nat) (p2 : Int32) (K : St → Prop) : Prop := ∃ n w how, p2 = nI how ∧ how < 4 ∧ WordIs f b1 n w ∧ Wok n w ∧ (b1 + 3 ≤ a ∨ a + 3 ≤ b1) ∧ ∀ g, Fr f g a (a + 3) → WordIs g a n (chg n w how) → K g
theorem chg_len (n : Nat) (w : List Nat) (how : Nat) (h : how < 3) : (chg n w how).length = w.length := by
  unfold chg
  split
  · rw [List.length_map]
  · split
    · rw [List.length_map]
    · rw [if_pos (by omega), List.length_reverse, List.length_map]
theorem wX6_makeChanged (P : Sk) (f : St) (a : Nat) (ha : IsWord P a) (b1 : Nat) (hb1 : IsWord P b1) (p2 : Int32) (K : St → Prop) (h : kX6_makeChanged P f a b1 p2 K) : WX6_makeChanged P f a b1 p2 K := by
  obtain ⟨n, w, how, rfl, hh, hw, ho, hd, hK⟩ := h
  have hl := ho.2.2.1
  refine ⟨fun g x => ∃ k, x = nI k ∧ how < 3 ∧ k ≤ w.length ∧ Fr f g a (a + 3) ∧ WordIs g a n ((chg n w how).take k), fun g x => w.length - x.toNatClampNeg, ?_, ?_⟩
  · unfold vX6_makeChanged
    rw [show (3 : Int32) = nI 3 from rfl, nI_eq (by omega) (by omega)]
    refine ⟨fun q => u6_begin hw.1 (fun g h1 h2 => ⟨0, rfl, by omega, Nat.zero_le _, h1, ?_⟩), fun q => ?_⟩
    · rw [List.take_zero]
      exact h2
    · refine ⟨n, w, hw, ho, hd, fun g h1 h2 => hK g h1 ?_⟩
      rw [q]
      exact h2
  · rintro g x ⟨k, rfl, hh3, hk, hfr, hg⟩
    have hg' := hw.out hfr hd
    have hcl := chg_len n w how hh3
    unfold bX6_makeChanged_21
    rw [hg'.2.1, nI_leI (by omega) (by omega)]
    refine ⟨fun q => ?_, fun q => ?_⟩
    · rw [show k = (chg n w how).length by omega, List.take_length] at hg
      exact hK g hfr hg
    · have hk1 := take_snoc (chg n w how) k (by omega)
      have add : ∀ c, (chg n w how).getD k 0 = c → kX6_add P g a (nI c) (fun g65 => jX6_makeChanged_106 P a b1 (nI how) (fun g' z0 => (∃ k, z0 = nI k ∧ how < 3 ∧ k ≤ w.length ∧ Fr f g' a (a + 3) ∧ WordIs g' a n ((chg n w how).take k)) ∧ w.length - z0.toNatClampNeg < w.length - (nI k).toNatClampNeg) K (nI k) g65) := by
        intro c ec
        show vX6_add P g a (nI c) _
        unfold vX6_add
        refine u6_add hg (by rw [List.length_take]; omega) (fun g2 r1 r2 => ?_)
        unfold jX6_makeChanged_106
        rw [nI_1]
        rw [ec] at hk1
        rw [← hk1] at r2
        exact fun x e => ⟨⟨k + 1, e, hh3, by omega, hfr.trans r1, r2⟩, mu_up e (by omega) (by omega)⟩
      have hc := ho.at (i := k) (by omega)
      have h7 := ho.2.1
      rw [show (0 : Int32) = nI 0 from rfl, show (1 : Int32) = nI 1 from rfl, nI_eq (by omega) (by omega), nI_eq (by omega) (by omega)]
      refine ⟨fun q0 => ?_, fun q0 => ⟨fun q1 => ?_, fun q1 => ?_⟩⟩
      · refine u6_codeAt hb1 hg' (by omega) (by omega) ?_
        refine u6_flipped (by omega) (add _ ?_)
        rw [q0]
        exact getD_map fl (by omega)
      · refine u6_codeAt hb1 hg' (by omega) (by omega) ?_
        refine u6_turned hg.1 hc h7 (add _ ?_)
        rw [q1]
        exact getD_map (tn n) (by omega)
      · rw [pk_sub (by omega), pk_sub (by omega)]
        refine u6_codeAt hb1 hg' (by omega) (by omega) ?_
        have hc2 := ho.lt (i := w.length - 1 - k) (by omega)
        refine u6_flipped (by omega) (add _ ?_)
        rw [show how = 2 by omega]
        show (w.map fl).reverse.getD k 0 = _
        rw [getD_rev _ (by rw [List.length_map]; omega), List.length_map]
        exact getD_map fl (by omega)

theorem metX6_makeChanged (l : Launch) (G : Gl) (P : Sk) (f : St) (sz : Nat) (a : Nat) (ha : IsWord P a) (b1 : Nat) (hb1 : IsWord P b1) (p2 : Int32) (K : St → Prop) (h : kX6_makeChanged P f a b1 p2 K) : Met l yX6_makeChanged (wU yX6_makeChanged cX6_makeChanged 4 none) rmX6_makeChanged (PcW G P f sz [.ref a, .ref b1, .int p2]) (QcV G P sz K) 0 0 (frA P sz) := by
  obtain ⟨I21, μ21, qh, qh21⟩ := wX6_makeChanged P f a ha b1 hb1 p2 K h
  exact mX6_makeChanged l G P f sz a ha b1 hb1 p2 K I21 μ21 qh qh21

def jX6_makeShortAtOnce_68 (P : Sk) (a : Nat) (b1 : Nat) (L10 : St → Int32 → Prop) (K : St → Prop) (x2 : Int32) (f : St) : Prop :=
  ∀ x2_68 : Int32, x2_68 = x2 + 1 → L10 f x2_68
def jX6_makeShortAtOnce_59 (P : Sk) (a : Nat) (b1 : Nat) (L10 : St → Int32 → Prop) (K : St → Prop) (x2 : Int32) (f : St) : Prop :=
  kX6_codeAt P f b1 x2 (fun r62 g62 => kX6_add P g62 a r62 (fun g65 => jX6_makeShortAtOnce_68 P a b1 L10 K x2 g65))
def bX6_makeShortAtOnce_10 (P : Sk) (a : Nat) (b1 : Nat) (L10 : St → Int32 → Prop) (K : St → Prop) (f : St) (x2 : Int32) : Prop :=
  (f b1 2 ≤ x2 → K f) ∧ (¬ f b1 2 ≤ x2 → (f a 2 ≤ 0 → jX6_makeShortAtOnce_59 P a b1 L10 K x2 f) ∧ (¬ f a 2 ≤ 0 → kX6_codeAt P f a ((f a 2) - 1) (fun r32 g32 => kX6_codeAt P g32 b1 x2 (fun r37 g37 => kX6_flipped P g37 r37 (fun r40 g40 => (¬ r32 = r40 → jX6_makeShortAtOnce_59 P a b1 L10 K x2 g40) ∧ (r32 = r40 → kX6_removeAt P g40 a ((g40 a 2) - 1) (fun g53 => jX6_makeShortAtOnce_68 P a b1 L10 K x2 g53)))))))
def vX6_makeShortAtOnce (P : Sk) (f : St) (a : Nat) (b1 : Nat) (L10 : St → Int32 → Prop) (K : St → Prop) : Prop :=
  kX6_begin P f a (f b1 1) (fun g5 => L10 g5 0)
set_option maxRecDepth 20000 in
set_option maxHeartbeats 4000000 in
theorem mX6_makeShortAtOnce (l : Launch) (G : Gl) (P : Sk) (f : St) (sz : Nat) (a : Nat) (ha : IsWord P a) (b1 : Nat) (hb1 : IsWord P b1) (K : St → Prop) (I10 : St → Int32 → Prop) (μ10 : St → Int32 → Nat) 
  (h : vX6_makeShortAtOnce P f a b1 I10 K)
  (h10 : ∀ (g : St) (x2 : Int32) , I10 g x2 → bX6_makeShortAtOnce_10 P a b1 (fun g' z0 => I10 g' z0 ∧ μ10 g' z0 < μ10 g x2) K g x2) :
  Met l yX6_makeShortAtOnce (wU yX6_makeShortAtOnce cX6_makeShortAtOnce 3 none) rmX6_makeShortAtOnce (PcW G P f sz [.ref a, .ref b1]) (QcV G P sz K) 0 0 (frA P sz) := by
  refine v_met (own := RX6) [.ref a, .ref b1] (by decide +kernel) rfl (Nat.le_of_ble_eq_true rfl) (fun p e s m args below meth c hsz o hr hnm => ?_)
  refine v_lv (lv2 := [(0, .ref a), (1, .ref b1)]) rfl ?_
  have main : ∀ n : Nat, (∀ (g : St) (x2 : Int32) , I10 g x2 → μ10 g x2 < n → V p l e rmX6_makeShortAtOnce s m args below meth c 3 G (frA P sz) (MQ below (QcV G P sz K) args s 0 0 (frA P sz)) 0 0 P [(0, .ref a), (1, .ref b1), (2, .int x2)] [] 10 g) := by
    intro n
    induction n with
    | zero => exact fun g x2 hI hm => absurd hm (Nat.not_lt_zero _)
    | succ n ih =>
      intro g x2 hI hm
      have h := h10 g x2 hI
      clear hI
      have J68 : ∀ (x2_68 : Int32) (g68 : St), jX6_makeShortAtOnce_68 P a b1 (fun g' z0 => I10 g' z0 ∧ μ10 g' z0 < μ10 g x2) K x2_68 g68 → V p l e rmX6_makeShortAtOnce s m args below meth c 3 G (frA P sz) (MQ below (QcV G P sz K) args s 0 0 (frA P sz)) 0 0 P [(0, .ref a), (1, .ref b1), (2, .int x2_68)] [] 68 g68 := by
        intro x2_68 g68  h
        unfold jX6_makeShortAtOnce_68 at h
        obtain ⟨x2_68, ex2_68⟩ : ∃ y : Int32, y = x2_68 + 1 := ⟨_, rfl⟩
        replace h := h x2_68 ex2_68
        refine v_iinc o (v := x2_68) (lv' := [(2, .int x2_68), (0, .ref a), (1, .ref b1)]) 2 dX6_makeShortAtOnce_68 rfl (by rw [ex2_68]; rfl) (by decide) rfl ?_
        refine v_goto o (tgt := 10) dX6_makeShortAtOnce_71 (by decide) ?_
        refine v_sub [1, 2, 0] (lv2 := [(0, .ref a), (1, .ref b1), (2, .int x2_68)]) rfl ?_
        exact ih g68 x2_68  h.1 (by have := h.2; omega)
      have J59 : ∀ (x2_59 : Int32) (g59 : St), jX6_makeShortAtOnce_59 P a b1 (fun g' z0 => I10 g' z0 ∧ μ10 g' z0 < μ10 g x2) K x2_59 g59 → V p l e rmX6_makeShortAtOnce s m args below meth c 3 G (frA P sz) (MQ below (QcV G P sz K) args s 0 0 (frA P sz)) 0 0 P [(0, .ref a), (1, .ref b1), (2, .int x2_59)] [] 59 g59 := by
        intro x2_59 g59  h
        unfold jX6_makeShortAtOnce_59 at h
        refine v_aload_n o 0 dX6_makeShortAtOnce_59 rfl ?_
        refine v_aload_n o 1 dX6_makeShortAtOnce_60 rfl ?_
        refine v_iload_n o 2 dX6_makeShortAtOnce_61 rfl ?_
        refine v_cVi o [.int x2_59] [.ref a] (fun sz => metX6_codeAt l G P g59 sz b1 hb1 x2_59 _ h) (cwX6_35 o.1.2.2.2.2 (by decide)) ⟨_, _, rfl⟩ (by decide) (wfWord_o hb1) rfl (Nat.le_of_ble_eq_true rfl) ⟨Nat.le_of_ble_eq_true rfl, Nat.le_of_ble_eq_true rfl⟩ dX6_makeShortAtOnce_62 rfl (fun r62 g62 h => ?_)
        refine v_cVv o [.int r62] [] (fun sz => metX6_add l G P g62 sz a ha r62 _ h) (cwX6_38 o.1.2.2.2.2 (by decide)) ⟨_, _, rfl⟩ (by decide) (wfWord_o ha) rfl (Nat.le_of_ble_eq_true rfl) ⟨Nat.le_of_ble_eq_true rfl, Nat.le_of_ble_eq_true rfl⟩ dX6_makeShortAtOnce_65 rfl (fun g65 h => ?_)
        refine v_sub [0, 1, 2] (lv2 := [(0, .ref a), (1, .ref b1), (2, .int x2_59)]) rfl ?_
        exact J68 x2_59 g65  h
      unfold bX6_makeShortAtOnce_10 at h
      refine v_iload_n o 2 dX6_makeShortAtOnce_10 rfl ?_
      refine v_aload_n o 1 dX6_makeShortAtOnce_11 rfl ?_
      refine v_gfI o lkX6_24 (by decide) (wfWord_o hb1) dX6_makeShortAtOnce_12 ?_
      refine v_icmp_ge o (tgt := 74) dX6_makeShortAtOnce_15 (by decide) (fun c15 => ?_) (fun c15 => ?_)
      · replace h := h.1 c15
        exact v_vret o rfl hr dX6_makeShortAtOnce_74 h
      · replace h := h.2 c15
        refine v_aload_n o 0 dX6_makeShortAtOnce_18 rfl ?_
        refine v_gfI o lkX6_24 (by decide) (wfWord_o ha) dX6_makeShortAtOnce_19 ?_
        refine v_if_le o (tgt := 59) dX6_makeShortAtOnce_22 (by decide) (fun c22 => ?_) (fun c22 => ?_)
        · replace h := h.1 c22
          refine v_sub [0, 1, 2] (lv2 := [(0, .ref a), (1, .ref b1), (2, .int x2)]) rfl ?_
          exact J59 x2 g  h
        · replace h := h.2 c22
          refine v_aload_n o 0 dX6_makeShortAtOnce_25 rfl ?_
          refine v_aload_n o 0 dX6_makeShortAtOnce_26 rfl ?_
          refine v_gfI o lkX6_24 (by decide) (wfWord_o ha) dX6_makeShortAtOnce_27 ?_
          refine v_iconst o (v := 1) dX6_makeShortAtOnce_30 (by decide) ?_
          refine v_isub o dX6_makeShortAtOnce_31 ?_
          refine v_cVi o [.int ((g a 2) - 1)] [] (fun sz => metX6_codeAt l G P g sz a ha ((g a 2) - 1) _ h) (cwX6_35 o.1.2.2.2.2 (by decide)) ⟨_, _, rfl⟩ (by decide) (wfWord_o ha) rfl (Nat.le_of_ble_eq_true rfl) ⟨Nat.le_of_ble_eq_true rfl, Nat.le_of_ble_eq_true rfl⟩ dX6_makeShortAtOnce_32 rfl (fun r32 g32 h => ?_)
          refine v_aload_n o 1 dX6_makeShortAtOnce_35 rfl ?_
          refine v_iload_n o 2 dX6_makeShortAtOnce_36 rfl ?_
          refine v_cVi o [.int x2] [.int r32] (fun sz => metX6_codeAt l G P g32 sz b1 hb1 x2 _ h) (cwX6_35 o.1.2.2.2.2 (by decide)) ⟨_, _, rfl⟩ (by decide) (wfWord_o hb1) rfl (Nat.le_of_ble_eq_true rfl) ⟨Nat.le_of_ble_eq_true rfl, Nat.le_of_ble_eq_true rfl⟩ dX6_makeShortAtOnce_37 rfl (fun r37 g37 h => ?_)
          refine v_cSi o [.int r37] [.int r32] (fun sz => metX6_flipped l G P g37 sz r37 _ h) (cwX6_59 o.1.2.2.2.2 (by decide)) rfl (Nat.le_of_ble_eq_true rfl) ⟨Nat.le_of_ble_eq_true rfl, Nat.le_of_ble_eq_true rfl⟩ dX6_makeShortAtOnce_40 rfl (fun r40 g40 h => ?_)
          refine v_icmp_ne o (tgt := 59) dX6_makeShortAtOnce_43 (by decide) (fun c43 => ?_) (fun c43 => ?_)
          · replace h := h.1 c43
            refine v_sub [0, 1, 2] (lv2 := [(0, .ref a), (1, .ref b1), (2, .int x2)]) rfl ?_
            exact J59 x2 g40  h
          · replace h := h.2 c43
            refine v_aload_n o 0 dX6_makeShortAtOnce_46 rfl ?_
            refine v_aload_n o 0 dX6_makeShortAtOnce_47 rfl ?_
            refine v_gfI o lkX6_24 (by decide) (wfWord_o ha) dX6_makeShortAtOnce_48 ?_
            refine v_iconst o (v := 1) dX6_makeShortAtOnce_51 (by decide) ?_
            refine v_isub o dX6_makeShortAtOnce_52 ?_
            refine v_cVv o [.int ((g40 a 2) - 1)] [] (fun sz => metX6_removeAt l G P g40 sz a ha ((g40 a 2) - 1) _ h) (cwX6_75 o.1.2.2.2.2 (by decide)) ⟨_, _, rfl⟩ (by decide) (wfWord_o ha) rfl (Nat.le_of_ble_eq_true rfl) ⟨Nat.le_of_ble_eq_true rfl, Nat.le_of_ble_eq_true rfl⟩ dX6_makeShortAtOnce_53 rfl (fun g53 h => ?_)
            refine v_goto o (tgt := 68) dX6_makeShortAtOnce_56 (by decide) ?_
            refine v_sub [0, 1, 2] (lv2 := [(0, .ref a), (1, .ref b1), (2, .int x2)]) rfl ?_
            exact J68 x2 g53  h
  unfold vX6_makeShortAtOnce at h
  refine v_aload_n o 0 dX6_makeShortAtOnce_0 rfl ?_
  refine v_aload_n o 1 dX6_makeShortAtOnce_1 rfl ?_
  refine v_gfI o lkX6_20 (by decide) (wfWord_o hb1) dX6_makeShortAtOnce_2 ?_
  refine v_cVv o [.int (f b1 1)] [] (fun sz => metX6_begin l G P f sz a ha (f b1 1) _ h) (cwX6_56 o.1.2.2.2.2 (by decide)) ⟨_, _, rfl⟩ (by decide) (wfWord_o ha) rfl (Nat.le_of_ble_eq_true rfl) ⟨Nat.le_of_ble_eq_true rfl, Nat.le_of_ble_eq_true rfl⟩ dX6_makeShortAtOnce_5 rfl (fun g5 h => ?_)
  refine v_iconst o (v := 0) dX6_makeShortAtOnce_8 (by decide) ?_
  refine v_istore_n o (lv' := [(2, .int 0), (0, .ref a), (1, .ref b1)]) dX6_makeShortAtOnce_9 rfl (by decide) rfl ?_
  refine v_sub [1, 2, 0] (lv2 := [(0, .ref a), (1, .ref b1), (2, .int 0)]) rfl ?_
  exact (main (μ10 g5 0 + 1)) g5 0  h (Nat.lt_succ_self _)
def WX6_makeShortAtOnce (P : Sk) (f : St) (a : Nat) (b1 : Nat) (K : St → Prop) : Prop := ∃ (I10 : St → Int32 → Prop) (μ10 : St → Int32 → Nat), (vX6_makeShortAtOnce P f a b1 I10 K) ∧ (∀ (g : St) (x2 : Int32) , I10 g x2 → bX6_makeShortAtOnce_10 P a b1 (fun g' z0 => I10 g' z0 ∧ μ10 g' z0 < μ10 g x2) K g x2)
def kX6_makeShortAtOnce (P : Sk) (f : St) (a : Nat) (b1 : Nat) (K : St → Prop) : Prop := ∃ n w, WordIs f b1 n w ∧ Wok n w ∧ (b1 + 3 ≤ a ∨ a + 3 ≤ b1) ∧ ∀ g, Fr f g a (a + 3) → WordIs g a n (SF w) → K g
theorem sh_last (v : List Nat) (c : Nat) : shR v.reverse c = if 0 < v.length ∧ v.getD (v.length - 1) 0 = fl c then (del v (v.length - 1)).reverse else (v ++ [c]).reverse := by
  by_cases h0 : v.length = 0
  · have e : v = [] := List.length_eq_zero_iff.mp h0
    subst e
    rfl
  · obtain ⟨a, b, e, hl⟩ := w_split v (v.length - 1) (by omega)
    generalize v.getD (v.length - 1) 0 = y at *
    have hb : b = [] := by
      have := congrArg List.length e
      rw [List.length_append, List.length_cons] at this
      exact List.length_eq_zero_iff.mp (by omega)
    subst hb
    rw [← hl, e, List.reverse_append, List.reverse_cons, List.reverse_nil, List.nil_append, List.cons_append, List.nil_append, shR, del_app]
    by_cases hy : y = fl c
    · rw [if_pos hy, if_pos ⟨by simp, hy⟩, List.append_nil]
    · rw [if_neg hy, if_neg (fun q => hy q.2)]
      simp
theorem wX6_makeShortAtOnce (P : Sk) (f : St) (a : Nat) (ha : IsWord P a) (b1 : Nat) (hb1 : IsWord P b1) (K : St → Prop) (h : kX6_makeShortAtOnce P f a b1 K) : WX6_makeShortAtOnce P f a b1 K := by
  obtain ⟨n, w, hw, ho, hd, hK⟩ := h
  have hl := ho.2.2.1
  refine ⟨fun g x => ∃ k, x = nI k ∧ k ≤ w.length ∧ Fr f g a (a + 3) ∧ WordIs g a n (SF (w.take k)), fun g x => w.length - x.toNatClampNeg, ?_, ?_⟩
  · unfold vX6_makeShortAtOnce
    refine u6_begin hw.1 (fun g h1 h2 => ⟨0, rfl, Nat.zero_le _, h1, ?_⟩)
    rw [List.take_zero]
    exact h2
  · rintro g x ⟨k, rfl, hk, hfr, hg⟩
    have hg' := hw.out hfr hd
    unfold bX6_makeShortAtOnce_10
    rw [hg'.2.1, nI_leI (by omega) (by omega)]
    refine ⟨fun q => ?_, fun q => ?_⟩
    · rw [show k = w.length by omega, List.take_length] at hg
      exact hK g hfr hg
    · have hc := ho.lt (i := k) (by omega)
      have hk1 := take_snoc w k (by omega)
      have hv := (ho.take k).SF
      have hvl := hv.2.2.1
      have hvl2 : (SF (w.take k)).length ≤ k := Nat.le_trans (SF_len _) (by rw [List.length_take]; omega)
      have hst := SF_snoc (w.take k) (w.getD k 0)
      rw [← hk1] at hst
      generalize SF (w.take k) = v at *
      have hm := sh_last v (w.getD k 0)
      have next : ∀ g2, Fr g g2 a (a + 3) → WordIs g2 a n (SF (w.take (k + 1))) → jX6_makeShortAtOnce_68 P a b1 (fun g' z0 => (∃ k, z0 = nI k ∧ k ≤ w.length ∧ Fr f g' a (a + 3) ∧ WordIs g' a n (SF (w.take k))) ∧ w.length - z0.toNatClampNeg < w.length - (nI k).toNatClampNeg) K (nI k) g2 := by
        intro g2 q1 q2
        unfold jX6_makeShortAtOnce_68
        rw [nI_1]
        exact fun x e => ⟨⟨k + 1, e, by omega, hfr.trans q1, q2⟩, mu_up e (by omega) (by omega)⟩
      have put : ¬ (0 < v.length ∧ v.getD (v.length - 1) 0 = fl (w.getD k 0)) → jX6_makeShortAtOnce_59 P a b1 (fun g' z0 => (∃ k, z0 = nI k ∧ k ≤ w.length ∧ Fr f g' a (a + 3) ∧ WordIs g' a n (SF (w.take k))) ∧ w.length - z0.toNatClampNeg < w.length - (nI k).toNatClampNeg) K (nI k) g := by
        intro q1
        rw [if_neg q1] at hm
        unfold jX6_makeShortAtOnce_59
        refine u6_codeAt hb1 hg' (by omega) (by omega) ?_
        refine u6_add hg (by omega) (fun g2 r1 r2 => next g2 r1 ?_)
        rw [hst, hm, List.reverse_reverse]
        exact r2
      rw [hg.2.1, show (0 : Int32) = nI 0 from rfl, nI_leI (by omega) (by omega)]
      refine ⟨fun q2 => put (fun q3 => by omega), fun q2 => ?_⟩
      have hp : nI v.length - 1 = nI (v.length - 1) := by
        conv => lhs; rw [show v.length = (v.length - 1) + 1 by omega]
        exact nI_m1 _
      rw [hp]
      refine u6_codeAt ha hg hvl (by omega) ?_
      refine u6_codeAt hb1 hg' (by omega) (by omega) ?_
      refine u6_flipped (by omega) ?_
      have h4 := hv.lt (i := v.length - 1) (by omega)
      have h5 := fl_lt (n := 6) hc
      rw [nI_eq (by omega) (by omega)]
      refine ⟨fun q3 => put (fun q4 => q3 q4.2), fun q3 => ?_⟩
      rw [if_pos ⟨by omega, q3⟩] at hm
      refine ⟨n, v, v.length - 1, by rw [hg.2.1, hp], by omega, hvl, hg, fun g2 r1 r2 => next g2 r1 ?_⟩
      rw [hst, hm, List.reverse_reverse]
      exact r2

theorem metX6_makeShortAtOnce (l : Launch) (G : Gl) (P : Sk) (f : St) (sz : Nat) (a : Nat) (ha : IsWord P a) (b1 : Nat) (hb1 : IsWord P b1) (K : St → Prop) (h : kX6_makeShortAtOnce P f a b1 K) : Met l yX6_makeShortAtOnce (wU yX6_makeShortAtOnce cX6_makeShortAtOnce 3 none) rmX6_makeShortAtOnce (PcW G P f sz [.ref a, .ref b1]) (QcV G P sz K) 0 0 (frA P sz) := by
  obtain ⟨I10, μ10, qh, qh10⟩ := wX6_makeShortAtOnce P f a ha b1 hb1 K h
  exact mX6_makeShortAtOnce l G P f sz a ha b1 hb1 K I10 μ10 qh qh10

def bX6_firstPair_2 (P : Sk) (a : Nat) (L2 : St → Int32 → Prop) (K : Int32 → St → Prop) (f : St) (x1 : Int32) : Prop :=
  ((f a 2) - 1 ≤ x1 → K (-1) f) ∧ (¬ (f a 2) - 1 ≤ x1 → kX6_codeAt P f a (x1 + 1) (fun r16 g16 => kX6_codeAt P g16 a x1 (fun r21 g21 => kX6_flipped P g21 r21 (fun r24 g24 => (¬ r16 = r24 → ∀ x1_32 : Int32, x1_32 = x1 + 1 → L2 g24 x1_32) ∧ (r16 = r24 → K x1 g24)))))
def vX6_firstPair (P : Sk) (f : St) (a : Nat) (L2 : St → Int32 → Prop) (K : Int32 → St → Prop) : Prop :=
  L2 f 0
set_option maxRecDepth 20000 in
set_option maxHeartbeats 4000000 in
theorem mX6_firstPair (l : Launch) (G : Gl) (P : Sk) (f : St) (sz : Nat) (a : Nat) (ha : IsWord P a) (K : Int32 → St → Prop) (I2 : St → Int32 → Prop) (μ2 : St → Int32 → Nat) 
  (h : vX6_firstPair P f a I2 K)
  (h2 : ∀ (g : St) (x1 : Int32) , I2 g x1 → bX6_firstPair_2 P a (fun g' z0 => I2 g' z0 ∧ μ2 g' z0 < μ2 g x1) K g x1) :
  Met l yX6_firstPair (wU yX6_firstPair cX6_firstPair 2 (some .int)) rmX6_firstPair (PcW G P f sz [.ref a]) (QcI G P sz K) 0 0 (frA P sz) := by
  refine v_met (own := RX6) [.ref a] (by decide +kernel) rfl (Nat.le_of_ble_eq_true rfl) (fun p e s m args below meth c hsz o hr hnm => ?_)
  refine v_lv (lv2 := [(0, .ref a)]) rfl ?_
  have main : ∀ n : Nat, (∀ (g : St) (x1 : Int32) , I2 g x1 → μ2 g x1 < n → V p l e rmX6_firstPair s m args below meth c 2 G (frA P sz) (MQ below (QcI G P sz K) args s 0 0 (frA P sz)) 0 0 P [(0, .ref a), (1, .int x1)] [] 2 g) := by
    intro n
    induction n with
    | zero => exact fun g x1 hI hm => absurd hm (Nat.not_lt_zero _)
    | succ n ih =>
      intro g x1 hI hm
      have h := h2 g x1 hI
      clear hI
      unfold bX6_firstPair_2 at h
      refine v_iload_n o 1 dX6_firstPair_2 rfl ?_
      refine v_aload_n o 0 dX6_firstPair_3 rfl ?_
      refine v_gfI o lkX6_24 (by decide) (wfWord_o ha) dX6_firstPair_4 ?_
      refine v_iconst o (v := 1) dX6_firstPair_7 (by decide) ?_
      refine v_isub o dX6_firstPair_8 ?_
      refine v_icmp_ge o (tgt := 38) dX6_firstPair_9 (by decide) (fun c9 => ?_) (fun c9 => ?_)
      · replace h := h.1 c9
        refine v_iconst o (v := (-1)) dX6_firstPair_38 (by decide) ?_
        exact v_iret o rfl hr dX6_firstPair_39 h
      · replace h := h.2 c9
        refine v_aload_n o 0 dX6_firstPair_12 rfl ?_
        refine v_iload_n o 1 dX6_firstPair_13 rfl ?_
        refine v_iconst o (v := 1) dX6_firstPair_14 (by decide) ?_
        refine v_iadd o dX6_firstPair_15 ?_
        refine v_cVi o [.int (x1 + 1)] [] (fun sz => metX6_codeAt l G P g sz a ha (x1 + 1) _ h) (cwX6_35 o.1.2.2.2.2 (by decide)) ⟨_, _, rfl⟩ (by decide) (wfWord_o ha) rfl (Nat.le_of_ble_eq_true rfl) ⟨Nat.le_of_ble_eq_true rfl, Nat.le_of_ble_eq_true rfl⟩ dX6_firstPair_16 rfl (fun r16 g16 h => ?_)
        refine v_aload_n o 0 dX6_firstPair_19 rfl ?_
        refine v_iload_n o 1 dX6_firstPair_20 rfl ?_
        refine v_cVi o [.int x1] [.int r16] (fun sz => metX6_codeAt l G P g16 sz a ha x1 _ h) (cwX6_35 o.1.2.2.2.2 (by decide)) ⟨_, _, rfl⟩ (by decide) (wfWord_o ha) rfl (Nat.le_of_ble_eq_true rfl) ⟨Nat.le_of_ble_eq_true rfl, Nat.le_of_ble_eq_true rfl⟩ dX6_firstPair_21 rfl (fun r21 g21 h => ?_)
        refine v_cSi o [.int r21] [.int r16] (fun sz => metX6_flipped l G P g21 sz r21 _ h) (cwX6_59 o.1.2.2.2.2 (by decide)) rfl (Nat.le_of_ble_eq_true rfl) ⟨Nat.le_of_ble_eq_true rfl, Nat.le_of_ble_eq_true rfl⟩ dX6_firstPair_24 rfl (fun r24 g24 h => ?_)
        refine v_icmp_ne o (tgt := 32) dX6_firstPair_27 (by decide) (fun c27 => ?_) (fun c27 => ?_)
        · replace h := h.1 c27
          obtain ⟨x1_32, ex1_32⟩ : ∃ y : Int32, y = x1 + 1 := ⟨_, rfl⟩
          replace h := h x1_32 ex1_32
          refine v_iinc o (v := x1_32) (lv' := [(1, .int x1_32), (0, .ref a)]) 1 dX6_firstPair_32 rfl (by rw [ex1_32]; rfl) (by decide) rfl ?_
          refine v_goto o (tgt := 2) dX6_firstPair_35 (by decide) ?_
          refine v_sub [1, 0] (lv2 := [(0, .ref a), (1, .int x1_32)]) rfl ?_
          exact ih g24 x1_32  h.1 (by have := h.2; omega)
        · replace h := h.2 c27
          refine v_iload_n o 1 dX6_firstPair_30 rfl ?_
          exact v_iret o rfl hr dX6_firstPair_31 h
  unfold vX6_firstPair at h
  refine v_iconst o (v := 0) dX6_firstPair_0 (by decide) ?_
  refine v_istore_n o (lv' := [(1, .int 0), (0, .ref a)]) dX6_firstPair_1 rfl (by decide) rfl ?_
  refine v_sub [1, 0] (lv2 := [(0, .ref a), (1, .int 0)]) rfl ?_
  exact (main (μ2 f 0 + 1)) f 0  h (Nat.lt_succ_self _)
def WX6_firstPair (P : Sk) (f : St) (a : Nat) (K : Int32 → St → Prop) : Prop := ∃ (I2 : St → Int32 → Prop) (μ2 : St → Int32 → Nat), (vX6_firstPair P f a I2 K) ∧ (∀ (g : St) (x1 : Int32) , I2 g x1 → bX6_firstPair_2 P a (fun g' z0 => I2 g' z0 ∧ μ2 g' z0 < μ2 g x1) K g x1)
def kX6_firstPair (P : Sk) (f : St) (a : Nat) (K : Int32 → St → Prop) : Prop := ∃ n w, WordIs f a n w ∧ Wok n w ∧ (∀ i, i + 1 < w.length → w.getD (i + 1) 0 = fl (w.getD i 0) → K (nI i) f) ∧ (StillS w → K (-1) f)
theorem wX6_firstPair (P : Sk) (f : St) (a : Nat) (ha : IsWord P a) (K : Int32 → St → Prop) (h : kX6_firstPair P f a K) : WX6_firstPair P f a K := by
  obtain ⟨n, w, hw, ho, hK1, hK2⟩ := h
  refine ⟨fun g x => ∃ k, x = nI k ∧ g = f ∧ k ≤ w.length ∧ ∀ j, j < k → j + 1 < w.length → ¬ (w.getD (j + 1) 0 = fl (w.getD j 0)), fun g x => w.length - x.toNatClampNeg, ?_, ?_⟩
  · unfold vX6_firstPair
    exact ⟨0, rfl, rfl, Nat.zero_le _, fun j hj => absurd hj (Nat.not_lt_zero _)⟩
  · rintro g x ⟨k, rfl, rfl, hk, hA⟩
    have hl := ho.2.2.1
    unfold bX6_firstPair_2
    rw [hw.2.1]
    by_cases c0 : w.length = 0
    · refine ⟨fun q => hK2 (fun i hi => by omega), fun q => ?_⟩
      rw [c0, show k = 0 by omega] at q
      exact absurd q (by decide)
    · rw [show w.length = (w.length - 1) + 1 by omega, nI_m1, nI_leI (by omega) (by omega)]
      refine ⟨fun q => hK2 (fun i hi => hA i (by omega) hi), fun q => ?_⟩
      rw [nI_1]
      refine u6_codeAt ha hw hl (by omega) ?_
      refine u6_codeAt ha hw hl (by omega) ?_
      have h1 := ho.lt (i := k) (by omega)
      have h2 := ho.lt (i := k + 1) (by omega)
      have h3 := fl_lt (n := 6) h1
      refine u6_flipped (by omega) ?_
      rw [nI_eq (by omega) (by omega)]
      refine ⟨fun q2 x e => ⟨⟨k + 1, e, rfl, by omega, fun j hj hj2 => ?_⟩, mu_up e (by omega) (by omega)⟩, fun q2 => hK1 k (by omega) q2⟩
      by_cases c : j = k
      · rw [c]
        exact q2
      · exact hA j (by omega) (by omega)

theorem metX6_firstPair (l : Launch) (G : Gl) (P : Sk) (f : St) (sz : Nat) (a : Nat) (ha : IsWord P a) (K : Int32 → St → Prop) (h : kX6_firstPair P f a K) : Met l yX6_firstPair (wU yX6_firstPair cX6_firstPair 2 (some .int)) rmX6_firstPair (PcW G P f sz [.ref a]) (QcI G P sz K) 0 0 (frA P sz) := by
  obtain ⟨I2, μ2, qh, qh2⟩ := wX6_firstPair P f a ha K h
  exact mX6_firstPair l G P f sz a ha K I2 μ2 qh qh2

def bX6_makeShortByLooking_12 (P : Sk) (a : Nat) (b1 : Nat) (L12 : St → Int32 → Int32 → Prop) (K : St → Prop) (f : St) (x2 : Int32) (x3 : Int32) : Prop :=
  (24 ≤ x3 → K f) ∧ (¬ 24 ≤ x3 → (x2 = (-1) → K f) ∧ (¬ x2 = (-1) → kX6_removeAt P f a (x2 + 1) (fun g27 => kX6_removeAt P g27 a x2 (fun g32 => kX6_firstPair P g32 a (fun r36 g36 => ∀ x3_40 : Int32, x3_40 = x3 + 1 → L12 g36 r36 x3_40)))))
def vX6_makeShortByLooking (P : Sk) (f : St) (a : Nat) (b1 : Nat) (L12 : St → Int32 → Int32 → Prop) (K : St → Prop) : Prop :=
  kX6_copyFrom P f a b1 (fun g2 => kX6_firstPair P g2 a (fun r6 g6 => L12 g6 r6 0))
set_option maxRecDepth 20000 in
set_option maxHeartbeats 4000000 in
theorem mX6_makeShortByLooking (l : Launch) (G : Gl) (P : Sk) (f : St) (sz : Nat) (a : Nat) (ha : IsWord P a) (b1 : Nat) (hb1 : IsWord P b1) (K : St → Prop) (I12 : St → Int32 → Int32 → Prop) (μ12 : St → Int32 → Int32 → Nat) 
  (h : vX6_makeShortByLooking P f a b1 I12 K)
  (h12 : ∀ (g : St) (x2 : Int32) (x3 : Int32) , I12 g x2 x3 → bX6_makeShortByLooking_12 P a b1 (fun g' z0 z1 => I12 g' z0 z1 ∧ μ12 g' z0 z1 < μ12 g x2 x3) K g x2 x3) :
  Met l yX6_makeShortByLooking (wU yX6_makeShortByLooking cX6_makeShortByLooking 4 none) rmX6_makeShortByLooking (PcW G P f sz [.ref a, .ref b1]) (QcV G P sz K) 0 0 (frA P sz) := by
  refine v_met (own := RX6) [.ref a, .ref b1] (by decide +kernel) rfl (Nat.le_of_ble_eq_true rfl) (fun p e s m args below meth c hsz o hr hnm => ?_)
  refine v_lv (lv2 := [(0, .ref a), (1, .ref b1)]) rfl ?_
  have main : ∀ n : Nat, (∀ (g : St) (x2 : Int32) (x3 : Int32) , I12 g x2 x3 → μ12 g x2 x3 < n → V p l e rmX6_makeShortByLooking s m args below meth c 4 G (frA P sz) (MQ below (QcV G P sz K) args s 0 0 (frA P sz)) 0 0 P [(0, .ref a), (1, .ref b1), (2, .int x2), (3, .int x3)] [] 12 g) := by
    intro n
    induction n with
    | zero => exact fun g x2 x3 hI hm => absurd hm (Nat.not_lt_zero _)
    | succ n ih =>
      intro g x2 x3 hI hm
      have h := h12 g x2 x3 hI
      clear hI
      unfold bX6_makeShortByLooking_12 at h
      refine v_iload_n o 3 dX6_makeShortByLooking_12 rfl ?_
      refine v_bipush o (v := 24) dX6_makeShortByLooking_13 (by decide) ?_
      refine v_icmp_ge o (tgt := 46) dX6_makeShortByLooking_15 (by decide) (fun c15 => ?_) (fun c15 => ?_)
      · replace h := h.1 c15
        exact v_vret o rfl hr dX6_makeShortByLooking_46 h
      · replace h := h.2 c15
        refine v_iload_n o 2 dX6_makeShortByLooking_18 rfl ?_
        refine v_iconst o (v := (-1)) dX6_makeShortByLooking_19 (by decide) ?_
        refine v_icmp_eq o (tgt := 46) dX6_makeShortByLooking_20 (by decide) (fun c20 => ?_) (fun c20 => ?_)
        · replace h := h.1 c20
          exact v_vret o rfl hr dX6_makeShortByLooking_46 h
        · replace h := h.2 c20
          refine v_aload_n o 0 dX6_makeShortByLooking_23 rfl ?_
          refine v_iload_n o 2 dX6_makeShortByLooking_24 rfl ?_
          refine v_iconst o (v := 1) dX6_makeShortByLooking_25 (by decide) ?_
          refine v_iadd o dX6_makeShortByLooking_26 ?_
          refine v_cVv o [.int (x2 + 1)] [] (fun sz => metX6_removeAt l G P g sz a ha (x2 + 1) _ h) (cwX6_75 o.1.2.2.2.2 (by decide)) ⟨_, _, rfl⟩ (by decide) (wfWord_o ha) rfl (Nat.le_of_ble_eq_true rfl) ⟨Nat.le_of_ble_eq_true rfl, Nat.le_of_ble_eq_true rfl⟩ dX6_makeShortByLooking_27 rfl (fun g27 h => ?_)
          refine v_aload_n o 0 dX6_makeShortByLooking_30 rfl ?_
          refine v_iload_n o 2 dX6_makeShortByLooking_31 rfl ?_
          refine v_cVv o [.int x2] [] (fun sz => metX6_removeAt l G P g27 sz a ha x2 _ h) (cwX6_75 o.1.2.2.2.2 (by decide)) ⟨_, _, rfl⟩ (by decide) (wfWord_o ha) rfl (Nat.le_of_ble_eq_true rfl) ⟨Nat.le_of_ble_eq_true rfl, Nat.le_of_ble_eq_true rfl⟩ dX6_makeShortByLooking_32 rfl (fun g32 h => ?_)
          refine v_aload_n o 0 dX6_makeShortByLooking_35 rfl ?_
          refine v_cVi o [] [] (fun sz => metX6_firstPair l G P g32 sz a ha _ h) (cwX6_80 o.1.2.2.2.2 (by decide)) ⟨_, _, rfl⟩ (by decide) (wfWord_o ha) rfl (Nat.le_of_ble_eq_true rfl) ⟨Nat.le_of_ble_eq_true rfl, Nat.le_of_ble_eq_true rfl⟩ dX6_makeShortByLooking_36 rfl (fun r36 g36 h => ?_)
          refine v_istore_n o (lv' := [(2, .int r36), (0, .ref a), (1, .ref b1), (3, .int x3)]) dX6_makeShortByLooking_39 rfl (by decide) rfl ?_
          obtain ⟨x3_40, ex3_40⟩ : ∃ y : Int32, y = x3 + 1 := ⟨_, rfl⟩
          replace h := h x3_40 ex3_40
          refine v_iinc o (v := x3_40) (lv' := [(3, .int x3_40), (2, .int r36), (0, .ref a), (1, .ref b1)]) 3 dX6_makeShortByLooking_40 rfl (by rw [ex3_40]; rfl) (by decide) rfl ?_
          refine v_goto o (tgt := 12) dX6_makeShortByLooking_43 (by decide) ?_
          refine v_sub [2, 3, 1, 0] (lv2 := [(0, .ref a), (1, .ref b1), (2, .int r36), (3, .int x3_40)]) rfl ?_
          exact ih g36 r36 x3_40  h.1 (by have := h.2; omega)
  unfold vX6_makeShortByLooking at h
  refine v_aload_n o 0 dX6_makeShortByLooking_0 rfl ?_
  refine v_aload_n o 1 dX6_makeShortByLooking_1 rfl ?_
  refine v_cVv o [.ref b1] [] (fun sz => metX6_copyFrom l G P f sz a ha b1 hb1 _ h) (cwX6_78 o.1.2.2.2.2 (by decide)) ⟨_, _, rfl⟩ (by decide) (wfWord_o ha) rfl (Nat.le_of_ble_eq_true rfl) ⟨Nat.le_of_ble_eq_true rfl, Nat.le_of_ble_eq_true rfl⟩ dX6_makeShortByLooking_2 rfl (fun g2 h => ?_)
  refine v_aload_n o 0 dX6_makeShortByLooking_5 rfl ?_
  refine v_cVi o [] [] (fun sz => metX6_firstPair l G P g2 sz a ha _ h) (cwX6_80 o.1.2.2.2.2 (by decide)) ⟨_, _, rfl⟩ (by decide) (wfWord_o ha) rfl (Nat.le_of_ble_eq_true rfl) ⟨Nat.le_of_ble_eq_true rfl, Nat.le_of_ble_eq_true rfl⟩ dX6_makeShortByLooking_6 rfl (fun r6 g6 h => ?_)
  refine v_istore_n o (lv' := [(2, .int r6), (0, .ref a), (1, .ref b1)]) dX6_makeShortByLooking_9 rfl (by decide) rfl ?_
  refine v_iconst o (v := 0) dX6_makeShortByLooking_10 (by decide) ?_
  refine v_istore_n o (lv' := [(3, .int 0), (2, .int r6), (0, .ref a), (1, .ref b1)]) dX6_makeShortByLooking_11 rfl (by decide) rfl ?_
  refine v_sub [2, 3, 1, 0] (lv2 := [(0, .ref a), (1, .ref b1), (2, .int r6), (3, .int 0)]) rfl ?_
  exact (main (μ12 g6 r6 0 + 1)) g6 r6 0  h (Nat.lt_succ_self _)
def WX6_makeShortByLooking (P : Sk) (f : St) (a : Nat) (b1 : Nat) (K : St → Prop) : Prop := ∃ (I12 : St → Int32 → Int32 → Prop) (μ12 : St → Int32 → Int32 → Nat), (vX6_makeShortByLooking P f a b1 I12 K) ∧ (∀ (g : St) (x2 : Int32) (x3 : Int32) , I12 g x2 x3 → bX6_makeShortByLooking_12 P a b1 (fun g' z0 z1 => I12 g' z0 z1 ∧ μ12 g' z0 z1 < μ12 g x2 x3) K g x2 x3)
def kX6_makeShortByLooking (P : Sk) (f : St) (a : Nat) (b1 : Nat) (K : St → Prop) : Prop := ∃ n w, WordIs f b1 n w ∧ Wok n w ∧ (b1 + 3 ≤ a ∨ a + 3 ≤ b1) ∧ ∀ g, Fr f g a (a + 3) → WordIs g a n (SF w) → K g
theorem del_mem : ∀ (w : List Nat) (i y : Nat), y ∈ del w i → y ∈ w
  | [], _, y, h => h
  | x :: w, 0, y, h => List.mem_cons_of_mem _ h
  | x :: w, i + 1, y, h => by
    rcases List.mem_cons.mp h with q | q
    · simp [q]
    · exact List.mem_cons_of_mem _ (del_mem w i y q)
theorem Wok.del {n : Nat} {w : List Nat} (h : Wok n w) {i : Nat} (hi : i < w.length) : Wok n (del w i) := ⟨h.1, h.2.1, by rw [del_len _ _ hi]; have := h.2.2.1; omega, fun c hc => h.2.2.2 c (del_mem _ _ _ hc)⟩
theorem wX6_makeShortByLooking (P : Sk) (f : St) (a : Nat) (ha : IsWord P a) (b1 : Nat) (hb1 : IsWord P b1) (K : St → Prop) (h : kX6_makeShortByLooking P f a b1 K) : WX6_makeShortByLooking P f a b1 K := by
  obtain ⟨n, w, hw, ho, hd, hK⟩ := h
  have hl := ho.2.2.1
  refine ⟨fun g x2 x3 => ∃ k v, x3 = nI k ∧ k + v.length ≤ 24 ∧ Fr f g a (a + 3) ∧ WordIs g a n v ∧ Wok n v ∧ sfR v = sfR w ∧ ((x2 = -1 ∧ StillS v) ∨ ∃ i, x2 = nI i ∧ i + 1 < v.length ∧ v.getD (i + 1) 0 = fl (v.getD i 0)), fun g x2 x3 => 24 - x3.toNatClampNeg, ?_, ?_⟩
  · unfold vX6_makeShortByLooking
    refine u6_copyFrom ha hb1 hd hw hl (fun g h1 h2 => ?_)
    refine ⟨n, w, h2, ho, fun i hi e => ⟨0, w, rfl, by omega, h1, h2, ho, rfl, Or.inr ⟨i, rfl, hi, e⟩⟩, fun hs => ⟨0, w, rfl, by omega, h1, h2, ho, rfl, Or.inl ⟨rfl, hs⟩⟩⟩
  · rintro g x2 x3 ⟨k, v, rfl, hk, hfr, hg, hv, hs, hx⟩
    unfold bX6_makeShortByLooking_12
    have fin : StillS v → K g := by
      intro q
      refine hK g hfr ?_
      have e := SF_still q
      unfold SF at e ⊢
      rw [← hs, e]
      exact hg
    have vin : ∀ i : Nat, i < 24 → nI i ≠ (-1 : Int32) := by decide +kernel
    rw [show (24 : Int32) = nI 24 from rfl, nI_leI (by omega) (by omega)]
    refine ⟨fun q => fin (fun i hi => by omega), fun q => ⟨fun q2 => ?_, fun q2 => ?_⟩⟩
    · rcases hx with hx | ⟨i, rfl, hi, -⟩
      · exact fin hx.2
      · exact absurd q2 (vin i (by omega))
    · rcases hx with hx | ⟨i, rfl, hi, he⟩
      · exact absurd hx.1 q2
      · have hv1 := hv.del hi
        have hl1 := del_len v (i + 1) hi
        have hi2 : i < (del v (i + 1)).length := by omega
        have hv2 := hv1.del hi2
        have hl2 := del_len (del v (i + 1)) i hi2
        have hs2 := sf_del v i hi he
        rw [nI_1]
        refine ⟨n, v, i + 1, rfl, hi, hv.2.2.1, hg, fun g2 r1 r2 => ?_⟩
        refine ⟨n, _, i, rfl, hi2, hv1.2.2.1, r2, fun g3 r3 r4 => ?_⟩
        rw [nI_1]
        refine ⟨n, _, r4, hv2, fun j hj e x ex => ?_, fun hst x ex => ?_⟩
        · exact ⟨⟨k + 1, _, ex, by omega, hfr.trans (r1.trans r3), r4, hv2, hs2.trans hs, Or.inr ⟨j, rfl, hj, e⟩⟩, mu_up ex (by omega) (by omega)⟩
        · exact ⟨⟨k + 1, _, ex, by omega, hfr.trans (r1.trans r3), r4, hv2, hs2.trans hs, Or.inl ⟨rfl, hst⟩⟩, mu_up ex (by omega) (by omega)⟩

theorem metX6_makeShortByLooking (l : Launch) (G : Gl) (P : Sk) (f : St) (sz : Nat) (a : Nat) (ha : IsWord P a) (b1 : Nat) (hb1 : IsWord P b1) (K : St → Prop) (h : kX6_makeShortByLooking P f a b1 K) : Met l yX6_makeShortByLooking (wU yX6_makeShortByLooking cX6_makeShortByLooking 4 none) rmX6_makeShortByLooking (PcW G P f sz [.ref a, .ref b1]) (QcV G P sz K) 0 0 (frA P sz) := by
  obtain ⟨I12, μ12, qh, qh12⟩ := wX6_makeShortByLooking P f a ha b1 hb1 K h
  exact mX6_makeShortByLooking l G P f sz a ha b1 hb1 K I12 μ12 qh qh12

