def vX4_size (P : Sk) (f : St) (a : Nat) (K : Int32 → St → Prop) : Prop :=
  K (f a 1) f
set_option maxRecDepth 20000 in
set_option maxHeartbeats 4000000 in
theorem mX4_size (l : Launch) (G : Gl) (P : Sk) (f : St) (sz : Nat) (a : Nat) (ha : IsText P a) (K : Int32 → St → Prop) (h : vX4_size P f a K)  :
  Met l yX4_size (wU yX4_size cX4_size 1 (some .int)) rmX4_size (PcW G P f sz [.ref a]) (QcI G P sz K) 0 0 (frA P sz) := by
  refine v_met (own := RX4) [.ref a] (by decide +kernel) rfl (Nat.le_of_ble_eq_true rfl) (fun p e s m args below meth c hsz o hr hnm => ?_)
  refine v_lv (lv2 := [(0, .ref a)]) rfl ?_
  unfold vX4_size at h
  refine v_aload_n o 0 dX4_size_0 rfl ?_
  refine v_gfI o lkX4_20 (by decide) (wfText_o ha) dX4_size_1 ?_
  exact v_iret o rfl hr dX4_size_4 h
abbrev kX4_size := @vX4_size
abbrev metX4_size := @mX4_size

def vX4_signAt (P : Sk) (f : St) (a : Nat) (p1 : Int32) (K : Int32 → St → Prop) : Prop :=
  kX3_at P f (a + 1) p1 (fun r5 g5 => K r5 g5)
set_option maxRecDepth 20000 in
set_option maxHeartbeats 4000000 in
theorem mX4_signAt (l : Launch) (G : Gl) (P : Sk) (f : St) (sz : Nat) (a : Nat) (ha : IsText P a) (p1 : Int32) (K : Int32 → St → Prop) (h : vX4_signAt P f a p1 K)  :
  Met l yX4_signAt (wU yX4_signAt cX4_signAt 2 (some .int)) rmX4_signAt (PcW G P f sz [.ref a, .int p1]) (QcI G P sz K) 0 0 (frA P sz) := by
  refine v_met (own := RX4) [.ref a, .int p1] (by decide +kernel) rfl (Nat.le_of_ble_eq_true rfl) (fun p e s m args below meth c hsz o hr hnm => ?_)
  refine v_lv (lv2 := [(0, .ref a), (1, .int p1)]) rfl ?_
  unfold vX4_signAt at h
  refine v_aload_n o 0 dX4_signAt_0 rfl ?_
  refine v_gfR o lkX4_14 (by decide) (wfText_o ha) (wfText_r0 ha) dX4_signAt_1 ?_
  refine v_iload_n o 1 dX4_signAt_4 rfl ?_
  refine v_cVi o [.int p1] [] (fun sz => metX3_at l G P f sz (a + 1) (wfText_t0 ha) p1 _ h) (cwX4_24 o.1.2.2.2.2 (by decide)) ⟨_, _, rfl⟩ (by decide) (wfRow_o (wfText_t0 ha)) rfl (Nat.le_of_ble_eq_true rfl) ⟨Nat.le_of_ble_eq_true rfl, Nat.le_of_ble_eq_true rfl⟩ dX4_signAt_5 rfl (fun r5 g5 h => ?_)
  exact v_iret o rfl hr dX4_signAt_8 h
abbrev kX4_signAt := @vX4_signAt
abbrev metX4_signAt := @mX4_signAt
theorem u4_signAt {P : Sk} {f : St} {a i : Nat} {b : List Nat} {K : Int32 → St → Prop} (ha : IsText P a) (hT : TextIs f a b) (hb : Tok b) (hi : i < b.length) (hK : K (nI (b.getD i 0)) f) : kX4_signAt P f a (nI i) K := by
  show vX4_signAt P f a (nI i) K
  unfold vX4_signAt
  have := hb.1
  refine u3_at (wfText_n0 ha) (by decide) (by omega) ?_
  rw [hT.2 i hi]
  exact hK

def vX4_addSign (P : Sk) (f : St) (a : Nat) (p1 : Int32) (K : St → Prop) : Prop :=
  (60 ≤ f a 1 → K f) ∧ (¬ 60 ≤ f a 1 → kX3_put P f (a + 1) (f a 1) p1 (fun g18 => ∀ g28 : St, g28 = setf g18 a 1 ((g18 a 1) + 1) → K g28))
set_option maxRecDepth 20000 in
set_option maxHeartbeats 4000000 in
theorem mX4_addSign (l : Launch) (G : Gl) (P : Sk) (f : St) (sz : Nat) (a : Nat) (ha : IsText P a) (p1 : Int32) (K : St → Prop) (h : vX4_addSign P f a p1 K)  :
  Met l yX4_addSign (wU yX4_addSign cX4_addSign 2 none) rmX4_addSign (PcW G P f sz [.ref a, .int p1]) (QcV G P sz K) 0 0 (frA P sz) := by
  refine v_met (own := RX4) [.ref a, .int p1] (by decide +kernel) rfl (Nat.le_of_ble_eq_true rfl) (fun p e s m args below meth c hsz o hr hnm => ?_)
  refine v_lv (lv2 := [(0, .ref a), (1, .int p1)]) rfl ?_
  unfold vX4_addSign at h
  refine v_aload_n o 0 dX4_addSign_0 rfl ?_
  refine v_gfI o lkX4_20 (by decide) (wfText_o ha) dX4_addSign_1 ?_
  refine v_bipush o (v := 60) dX4_addSign_4 (by decide) ?_
  refine v_icmp_ge o (tgt := 31) dX4_addSign_6 (by decide) (fun c6 => ?_) (fun c6 => ?_)
  · replace h := h.1 c6
    exact v_vret o rfl hr dX4_addSign_31 h
  · replace h := h.2 c6
    refine v_aload_n o 0 dX4_addSign_9 rfl ?_
    refine v_gfR o lkX4_14 (by decide) (wfText_o ha) (wfText_r0 ha) dX4_addSign_10 ?_
    refine v_aload_n o 0 dX4_addSign_13 rfl ?_
    refine v_gfI o lkX4_20 (by decide) (wfText_o ha) dX4_addSign_14 ?_
    refine v_iload_n o 1 dX4_addSign_17 rfl ?_
    refine v_cVv o [.int (f a 1), .int p1] [] (fun sz => metX3_put l G P f sz (a + 1) (wfText_t0 ha) (f a 1) p1 _ h) (cwX4_28 o.1.2.2.2.2 (by decide)) ⟨_, _, rfl⟩ (by decide) (wfRow_o (wfText_t0 ha)) rfl (Nat.le_of_ble_eq_true rfl) ⟨Nat.le_of_ble_eq_true rfl, Nat.le_of_ble_eq_true rfl⟩ dX4_addSign_18 rfl (fun g18 h => ?_)
    refine v_aload_n o 0 dX4_addSign_21 rfl ?_
    refine v_dup o dX4_addSign_22 rfl ?_
    refine v_gfI o lkX4_20 (by decide) (wfText_o ha) dX4_addSign_23 ?_
    refine v_iconst o (v := 1) dX4_addSign_26 (by decide) ?_
    refine v_iadd o dX4_addSign_27 ?_
    refine v_pf o lpX4_20 (wfText_o ha) ⟨rfl, rfl⟩ dX4_addSign_28 ?_
    refine v_nmf (fun g28 eg28 => ?_)
    replace h := h g28 eg28
    exact v_vret o rfl hr dX4_addSign_31 h
abbrev kX4_addSign := @vX4_addSign
abbrev metX4_addSign := @mX4_addSign
theorem u4_addSign {P : Sk} {f : St} {a c : Nat} {b : List Nat} {K : St → Prop} (ha : IsText P a) (hT : TextIs f a b) (h : b.length < 60) (hK : ∀ g, Fr f g a (a + 3) → TextIs g a (b ++ [c]) → K g) : kX4_addSign P f a (nI c) K := by
  show vX4_addSign P f a (nI c) K
  unfold vX4_addSign
  rw [hT.1, show (60 : Int32) = nI 60 from rfl, nI_leI (by omega) (by omega)]
  refine ⟨fun q => absurd q (by omega), fun _ => ?_⟩
  refine u3_put (wfText_n0 ha) (by decide) h ?_
  intro g e
  refine hK g ?_ ⟨?_, fun i hi => ?_⟩
  · rw [e]
    exact (fr_setf _ (by omega) (by omega)).trans (fr_setf _ (by omega) (by omega))
  · rw [e, setf_same, setf_off (Or.inl (by omega)), hT.1, nI_1]
    simp
  · rw [List.length_append, List.length_cons, List.length_nil] at hi
    rw [e, setf_off (Or.inl (by omega))]
    by_cases c2 : i = b.length
    · rw [c2, setf_same]
      have := getD_app2 b [c] 0
      rw [Nat.add_zero] at this
      rw [this]
      rfl
    · rw [setf_off (Or.inr c2), getD_app1 _ _ _ (by omega)]
      exact hT.2 i (by omega)

def vX4_clear (P : Sk) (f : St) (a : Nat) (K : St → Prop) : Prop :=
  ∀ g2 : St, g2 = setf f a 1 0 → K g2
set_option maxRecDepth 20000 in
set_option maxHeartbeats 4000000 in
theorem mX4_clear (l : Launch) (G : Gl) (P : Sk) (f : St) (sz : Nat) (a : Nat) (ha : IsText P a) (K : St → Prop) (h : vX4_clear P f a K)  :
  Met l yX4_clear (wU yX4_clear cX4_clear 1 none) rmX4_clear (PcW G P f sz [.ref a]) (QcV G P sz K) 0 0 (frA P sz) := by
  refine v_met (own := RX4) [.ref a] (by decide +kernel) rfl (Nat.le_of_ble_eq_true rfl) (fun p e s m args below meth c hsz o hr hnm => ?_)
  refine v_lv (lv2 := [(0, .ref a)]) rfl ?_
  unfold vX4_clear at h
  refine v_aload_n o 0 dX4_clear_0 rfl ?_
  refine v_iconst o (v := 0) dX4_clear_1 (by decide) ?_
  refine v_pf o lpX4_20 (wfText_o ha) ⟨rfl, rfl⟩ dX4_clear_2 ?_
  refine v_nmf (fun g2 eg2 => ?_)
  replace h := h g2 eg2
  exact v_vret o rfl hr dX4_clear_5 h
abbrev kX4_clear := @vX4_clear
abbrev metX4_clear := @mX4_clear
theorem u4_clear {P : Sk} {f : St} {a : Nat} {K : St → Prop} (hK : ∀ g, Fr f g a (a + 3) → TextIs g a [] → K g) : kX4_clear P f a K := by
  show vX4_clear P f a K
  unfold vX4_clear
  intro g e
  refine hK g ?_ ⟨?_, fun i hi => absurd hi (Nat.not_lt_zero _)⟩
  · rw [e]
    exact fr_setf _ (by omega) (by omega)
  · rw [e, setf_same]
    rfl

def vX4_digitAt (P : Sk) (f : St) (a : Nat) (p1 : Int32) (K : Int32 → St → Prop) : Prop :=
  kX4_signAt P f a p1 (fun r2 g2 => K (r2 - 48) g2)
set_option maxRecDepth 20000 in
set_option maxHeartbeats 4000000 in
theorem mX4_digitAt (l : Launch) (G : Gl) (P : Sk) (f : St) (sz : Nat) (a : Nat) (ha : IsText P a) (p1 : Int32) (K : Int32 → St → Prop) (h : vX4_digitAt P f a p1 K)  :
  Met l yX4_digitAt (wU yX4_digitAt cX4_digitAt 2 (some .int)) rmX4_digitAt (PcW G P f sz [.ref a, .int p1]) (QcI G P sz K) 0 0 (frA P sz) := by
  refine v_met (own := RX4) [.ref a, .int p1] (by decide +kernel) rfl (Nat.le_of_ble_eq_true rfl) (fun p e s m args below meth c hsz o hr hnm => ?_)
  refine v_lv (lv2 := [(0, .ref a), (1, .int p1)]) rfl ?_
  unfold vX4_digitAt at h
  refine v_aload_n o 0 dX4_digitAt_0 rfl ?_
  refine v_iload_n o 1 dX4_digitAt_1 rfl ?_
  refine v_cVi o [.int p1] [] (fun sz => metX4_signAt l G P f sz a ha p1 _ h) (cwX4_32 o.1.2.2.2.2 (by decide)) ⟨_, _, rfl⟩ (by decide) (wfText_o ha) rfl (Nat.le_of_ble_eq_true rfl) ⟨Nat.le_of_ble_eq_true rfl, Nat.le_of_ble_eq_true rfl⟩ dX4_digitAt_2 rfl (fun r2 g2 h => ?_)
  refine v_bipush o (v := 48) dX4_digitAt_5 (by decide) ?_
  refine v_isub o dX4_digitAt_7 ?_
  exact v_iret o rfl hr dX4_digitAt_8 h
abbrev kX4_digitAt := @vX4_digitAt
abbrev metX4_digitAt := @mX4_digitAt

def vX4_placeAt (P : Sk) (f : St) (a : Nat) (p1 : Int32) (K : Int32 → St → Prop) : Prop :=
  kX4_signAt P f a p1 (fun r2 g2 => K (r2 - 97) g2)
set_option maxRecDepth 20000 in
set_option maxHeartbeats 4000000 in
theorem mX4_placeAt (l : Launch) (G : Gl) (P : Sk) (f : St) (sz : Nat) (a : Nat) (ha : IsText P a) (p1 : Int32) (K : Int32 → St → Prop) (h : vX4_placeAt P f a p1 K)  :
  Met l yX4_placeAt (wU yX4_placeAt cX4_placeAt 2 (some .int)) rmX4_placeAt (PcW G P f sz [.ref a, .int p1]) (QcI G P sz K) 0 0 (frA P sz) := by
  refine v_met (own := RX4) [.ref a, .int p1] (by decide +kernel) rfl (Nat.le_of_ble_eq_true rfl) (fun p e s m args below meth c hsz o hr hnm => ?_)
  refine v_lv (lv2 := [(0, .ref a), (1, .int p1)]) rfl ?_
  unfold vX4_placeAt at h
  refine v_aload_n o 0 dX4_placeAt_0 rfl ?_
  refine v_iload_n o 1 dX4_placeAt_1 rfl ?_
  refine v_cVi o [.int p1] [] (fun sz => metX4_signAt l G P f sz a ha p1 _ h) (cwX4_32 o.1.2.2.2.2 (by decide)) ⟨_, _, rfl⟩ (by decide) (wfText_o ha) rfl (Nat.le_of_ble_eq_true rfl) ⟨Nat.le_of_ble_eq_true rfl, Nat.le_of_ble_eq_true rfl⟩ dX4_placeAt_2 rfl (fun r2 g2 h => ?_)
  refine v_bipush o (v := 97) dX4_placeAt_5 (by decide) ?_
  refine v_isub o dX4_placeAt_7 ?_
  exact v_iret o rfl hr dX4_placeAt_8 h
abbrev kX4_placeAt := @vX4_placeAt
abbrev metX4_placeAt := @mX4_placeAt

def vX4_isBetween (P : Sk) (f : St) (p0 : Int32) (p1 : Int32) (p2 : Int32) (K : Int32 → St → Prop) : Prop :=
  (p0 < p1 → K 0 f) ∧ (¬ p0 < p1 → (p2 < p0 → K 0 f) ∧ (¬ p2 < p0 → K 1 f))
set_option maxRecDepth 20000 in
set_option maxHeartbeats 4000000 in
theorem mX4_isBetween (l : Launch) (G : Gl) (P : Sk) (f : St) (sz : Nat) (p0 : Int32) (p1 : Int32) (p2 : Int32) (K : Int32 → St → Prop) (h : vX4_isBetween P f p0 p1 p2 K)  :
  Met l yX4_isBetween (wU yX4_isBetween cX4_isBetween 3 (some .boolean)) rmX4_isBetween (PcW G P f sz [.int p0, .int p1, .int p2]) (QcI G P sz K) 0 0 (frA P sz) := by
  refine v_met (own := RX4) [.int p0, .int p1, .int p2] (by decide +kernel) rfl (Nat.le_of_ble_eq_true rfl) (fun p e s m args below meth c hsz o hr hnm => ?_)
  refine v_lv (lv2 := [(0, .int p0), (1, .int p1), (2, .int p2)]) rfl ?_
  unfold vX4_isBetween at h
  refine v_iload_n o 0 dX4_isBetween_0 rfl ?_
  refine v_iload_n o 1 dX4_isBetween_1 rfl ?_
  refine v_icmp_lt o (tgt := 14) dX4_isBetween_2 (by decide) (fun c2 => ?_) (fun c2 => ?_)
  · replace h := h.1 c2
    refine v_iconst o (v := 0) dX4_isBetween_14 (by decide) ?_
    exact v_zret o rfl hr bz0.1 dX4_isBetween_15 h
  · replace h := h.2 c2
    refine v_iload_n o 0 dX4_isBetween_5 rfl ?_
    refine v_iload_n o 2 dX4_isBetween_6 rfl ?_
    refine v_icmp_gt o (tgt := 14) dX4_isBetween_7 (by decide) (fun c7 => ?_) (fun c7 => ?_)
    · replace h := h.1 c7
      refine v_iconst o (v := 0) dX4_isBetween_14 (by decide) ?_
      exact v_zret o rfl hr bz0.1 dX4_isBetween_15 h
    · replace h := h.2 c7
      refine v_iconst o (v := 1) dX4_isBetween_10 (by decide) ?_
      refine v_goto o (tgt := 15) dX4_isBetween_11 (by decide) ?_
      exact v_zret o rfl hr bz1.1 dX4_isBetween_15 h
abbrev kX4_isBetween := @vX4_isBetween
abbrev metX4_isBetween := @mX4_isBetween
theorem u4_isBetween {P : Sk} {f : St} {c x y : Nat} {K : Int32 → St → Prop} (hc : c < 2 ^ 31) (hx : x < 2 ^ 31) (hy : y < 2 ^ 31) (hK1 : x ≤ c → c ≤ y → K 1 f) (hK0 : ¬ (x ≤ c ∧ c ≤ y) → K 0 f) : kX4_isBetween P f (nI c) (nI x) (nI y) K := by
  show vX4_isBetween P f (nI c) (nI x) (nI y) K
  unfold vX4_isBetween
  rw [nI_ltI hc hx, nI_ltI hy hc]
  exact ⟨fun q => hK0 (by omega), fun q => ⟨fun q2 => hK0 (by omega), fun q2 => hK1 (by omega) (by omega)⟩⟩

def vX4_isSide (P : Sk) (f : St) (p0 : Int32) (K : Int32 → St → Prop) : Prop :=
  (p0 = 43 → K 1 f) ∧ (¬ p0 = 43 → (¬ p0 = 45 → K 0 f) ∧ (p0 = 45 → K 1 f))
set_option maxRecDepth 20000 in
set_option maxHeartbeats 4000000 in
theorem mX4_isSide (l : Launch) (G : Gl) (P : Sk) (f : St) (sz : Nat) (p0 : Int32) (K : Int32 → St → Prop) (h : vX4_isSide P f p0 K)  :
  Met l yX4_isSide (wU yX4_isSide cX4_isSide 1 (some .boolean)) rmX4_isSide (PcW G P f sz [.int p0]) (QcI G P sz K) 0 0 (frA P sz) := by
  refine v_met (own := RX4) [.int p0] (by decide +kernel) rfl (Nat.le_of_ble_eq_true rfl) (fun p e s m args below meth c hsz o hr hnm => ?_)
  refine v_lv (lv2 := [(0, .int p0)]) rfl ?_
  unfold vX4_isSide at h
  refine v_iload_n o 0 dX4_isSide_0 rfl ?_
  refine v_bipush o (v := 43) dX4_isSide_1 (by decide) ?_
  refine v_icmp_eq o (tgt := 12) dX4_isSide_3 (by decide) (fun c3 => ?_) (fun c3 => ?_)
  · replace h := h.1 c3
    refine v_iconst o (v := 1) dX4_isSide_12 (by decide) ?_
    refine v_goto o (tgt := 17) dX4_isSide_13 (by decide) ?_
    exact v_zret o rfl hr bz1.1 dX4_isSide_17 h
  · replace h := h.2 c3
    refine v_iload_n o 0 dX4_isSide_6 rfl ?_
    refine v_bipush o (v := 45) dX4_isSide_7 (by decide) ?_
    refine v_icmp_ne o (tgt := 16) dX4_isSide_9 (by decide) (fun c9 => ?_) (fun c9 => ?_)
    · replace h := h.1 c9
      refine v_iconst o (v := 0) dX4_isSide_16 (by decide) ?_
      exact v_zret o rfl hr bz0.1 dX4_isSide_17 h
    · replace h := h.2 c9
      refine v_iconst o (v := 1) dX4_isSide_12 (by decide) ?_
      refine v_goto o (tgt := 17) dX4_isSide_13 (by decide) ?_
      exact v_zret o rfl hr bz1.1 dX4_isSide_17 h
abbrev kX4_isSide := @vX4_isSide
abbrev metX4_isSide := @mX4_isSide
theorem u4_isSide {P : Sk} {f : St} {c : Nat} {K : Int32 → St → Prop} (hc : c < 2 ^ 31) (hK1 : c = 43 ∨ c = 45 → K 1 f) (hK0 : ¬ (c = 43 ∨ c = 45) → K 0 f) : kX4_isSide P f (nI c) K := by
  show vX4_isSide P f (nI c) K
  unfold vX4_isSide
  rw [show (43 : Int32) = nI 43 from rfl, show (45 : Int32) = nI 45 from rfl, nI_eq hc (by decide), nI_eq hc (by decide)]
  exact ⟨fun q => hK1 (Or.inl q), fun q => ⟨fun q2 => hK0 (fun q3 => q3.elim q q2), fun q2 => hK1 (Or.inr q2)⟩⟩

def vX4_canFollowInLoaf (P : Sk) (f : St) (a : Nat) (p1 : Int32) (K : Int32 → St → Prop) : Prop :=
  kX4_signAt P f a p1 (fun r2 g2 => (¬ p1 = 0 → (¬ p1 = 1 → (p1 < 50 → (¬ p1 - p1 / 2 * 2 = 0 → kX4_isSide P g2 r2 (fun r70 g70 => (r70 = 0 ∨ r70 = 1) ∧ K r70 g70)) ∧ (p1 - p1 / 2 * 2 = 0 → kX4_digitAt P g2 a 0 (fun r57 g57 => kX4_isBetween P g57 r2 97 ((97 + r57) - 2) (fun r63 g63 => (r63 = 0 ∨ r63 = 1) ∧ K r63 g63)))) ∧ (¬ p1 < 50 → K 0 g2)) ∧ (p1 = 1 → (¬ r2 = 58 → K 0 g2) ∧ (r2 = 58 → K 1 g2))) ∧ (p1 = 0 → kX4_isBetween P g2 r2 50 55 (fun r15 g15 => (r15 = 0 ∨ r15 = 1) ∧ K r15 g15)))
set_option maxRecDepth 20000 in
set_option maxHeartbeats 4000000 in
theorem mX4_canFollowInLoaf (l : Launch) (G : Gl) (P : Sk) (f : St) (sz : Nat) (a : Nat) (ha : IsText P a) (p1 : Int32) (K : Int32 → St → Prop) (h : vX4_canFollowInLoaf P f a p1 K)  :
  Met l yX4_canFollowInLoaf (wU yX4_canFollowInLoaf cX4_canFollowInLoaf 3 (some .boolean)) rmX4_canFollowInLoaf (PcW G P f sz [.ref a, .int p1]) (QcI G P sz K) 0 0 (frA P sz) := by
  refine v_met (own := RX4) [.ref a, .int p1] (by decide +kernel) rfl (Nat.le_of_ble_eq_true rfl) (fun p e s m args below meth c hsz o hr hnm => ?_)
  refine v_lv (lv2 := [(0, .ref a), (1, .int p1)]) rfl ?_
  unfold vX4_canFollowInLoaf at h
  refine v_aload_n o 0 dX4_canFollowInLoaf_0 rfl ?_
  refine v_iload_n o 1 dX4_canFollowInLoaf_1 rfl ?_
  refine v_cVi o [.int p1] [] (fun sz => metX4_signAt l G P f sz a ha p1 _ h) (cwX4_32 o.1.2.2.2.2 (by decide)) ⟨_, _, rfl⟩ (by decide) (wfText_o ha) rfl (Nat.le_of_ble_eq_true rfl) ⟨Nat.le_of_ble_eq_true rfl, Nat.le_of_ble_eq_true rfl⟩ dX4_canFollowInLoaf_2 rfl (fun r2 g2 h => ?_)
  refine v_istore_n o (lv' := [(2, .int r2), (0, .ref a), (1, .int p1)]) dX4_canFollowInLoaf_5 rfl (by decide) rfl ?_
  refine v_iload_n o 2 dX4_canFollowInLoaf_6 rfl ?_
  refine v_if_ne o (tgt := 19) dX4_canFollowInLoaf_7 (by decide) (fun c7 => ?_) (fun c7 => ?_)
  · replace h := h.1 c7
    refine v_iload_n o 2 dX4_canFollowInLoaf_19 rfl ?_
    refine v_iconst o (v := 1) dX4_canFollowInLoaf_20 (by decide) ?_
    refine v_icmp_ne o (tgt := 36) dX4_canFollowInLoaf_21 (by decide) (fun c21 => ?_) (fun c21 => ?_)
    · replace h := h.1 c21
      refine v_iload_n o 2 dX4_canFollowInLoaf_36 rfl ?_
      refine v_bipush o (v := 50) dX4_canFollowInLoaf_37 (by decide) ?_
      refine v_icmp_lt o (tgt := 44) dX4_canFollowInLoaf_39 (by decide) (fun c39 => ?_) (fun c39 => ?_)
      · replace h := h.1 c39
        refine v_iload_n o 2 dX4_canFollowInLoaf_44 rfl ?_
        refine v_iconst o (v := 2) dX4_canFollowInLoaf_45 (by decide) ?_
        refine v_irem o dX4_canFollowInLoaf_46 (by decide) ?_
        refine v_if_ne o (tgt := 69) dX4_canFollowInLoaf_47 (by decide) (fun c47 => ?_) (fun c47 => ?_)
        · replace h := h.1 c47
          refine v_iload_n o 0 dX4_canFollowInLoaf_69 rfl ?_
          refine v_cSi o [.int r2] [] (fun sz => metX4_isSide l G P g2 sz r2 _ h) (cwX4_50 o.1.2.2.2.2 (by decide)) rfl (Nat.le_of_ble_eq_true rfl) ⟨Nat.le_of_ble_eq_true rfl, Nat.le_of_ble_eq_true rfl⟩ dX4_canFollowInLoaf_70 rfl (fun r70 g70 h => ?_)
          exact v_zret o rfl hr (bzz h.1).1 dX4_canFollowInLoaf_73 h.2
        · replace h := h.2 c47
          refine v_iload_n o 0 dX4_canFollowInLoaf_50 rfl ?_
          refine v_bipush o (v := 97) dX4_canFollowInLoaf_51 (by decide) ?_
          refine v_bipush o (v := 97) dX4_canFollowInLoaf_53 (by decide) ?_
          refine v_aload_n o 1 dX4_canFollowInLoaf_55 rfl ?_
          refine v_iconst o (v := 0) dX4_canFollowInLoaf_56 (by decide) ?_
          refine v_cVi o [.int 0] [.int 97, .int 97, .int r2] (fun sz => metX4_digitAt l G P g2 sz a ha 0 _ h) (cwX4_47 o.1.2.2.2.2 (by decide)) ⟨_, _, rfl⟩ (by decide) (wfText_o ha) rfl (Nat.le_of_ble_eq_true rfl) ⟨Nat.le_of_ble_eq_true rfl, Nat.le_of_ble_eq_true rfl⟩ dX4_canFollowInLoaf_57 rfl (fun r57 g57 h => ?_)
          refine v_iadd o dX4_canFollowInLoaf_60 ?_
          refine v_iconst o (v := 2) dX4_canFollowInLoaf_61 (by decide) ?_
          refine v_isub o dX4_canFollowInLoaf_62 ?_
          refine v_cSi o [.int r2, .int 97, .int ((97 + r57) - 2)] [] (fun sz => metX4_isBetween l G P g57 sz r2 97 ((97 + r57) - 2) _ h) (cwX4_43 o.1.2.2.2.2 (by decide)) rfl (Nat.le_of_ble_eq_true rfl) ⟨Nat.le_of_ble_eq_true rfl, Nat.le_of_ble_eq_true rfl⟩ dX4_canFollowInLoaf_63 rfl (fun r63 g63 h => ?_)
          refine v_goto o (tgt := 73) dX4_canFollowInLoaf_66 (by decide) ?_
          exact v_zret o rfl hr (bzz h.1).1 dX4_canFollowInLoaf_73 h.2
      · replace h := h.2 c39
        refine v_iconst o (v := 0) dX4_canFollowInLoaf_42 (by decide) ?_
        exact v_zret o rfl hr bz0.1 dX4_canFollowInLoaf_43 h
    · replace h := h.2 c21
      refine v_iload_n o 0 dX4_canFollowInLoaf_24 rfl ?_
      refine v_bipush o (v := 58) dX4_canFollowInLoaf_25 (by decide) ?_
      refine v_icmp_ne o (tgt := 34) dX4_canFollowInLoaf_27 (by decide) (fun c27 => ?_) (fun c27 => ?_)
      · replace h := h.1 c27
        refine v_iconst o (v := 0) dX4_canFollowInLoaf_34 (by decide) ?_
        exact v_zret o rfl hr bz0.1 dX4_canFollowInLoaf_35 h
      · replace h := h.2 c27
        refine v_iconst o (v := 1) dX4_canFollowInLoaf_30 (by decide) ?_
        refine v_goto o (tgt := 35) dX4_canFollowInLoaf_31 (by decide) ?_
        exact v_zret o rfl hr bz1.1 dX4_canFollowInLoaf_35 h
  · replace h := h.2 c7
    refine v_iload_n o 0 dX4_canFollowInLoaf_10 rfl ?_
    refine v_bipush o (v := 50) dX4_canFollowInLoaf_11 (by decide) ?_
    refine v_bipush o (v := 55) dX4_canFollowInLoaf_13 (by decide) ?_
    refine v_cSi o [.int r2, .int 50, .int 55] [] (fun sz => metX4_isBetween l G P g2 sz r2 50 55 _ h) (cwX4_43 o.1.2.2.2.2 (by decide)) rfl (Nat.le_of_ble_eq_true rfl) ⟨Nat.le_of_ble_eq_true rfl, Nat.le_of_ble_eq_true rfl⟩ dX4_canFollowInLoaf_15 rfl (fun r15 g15 h => ?_)
    exact v_zret o rfl hr (bzz h.1).1 dX4_canFollowInLoaf_18 h.2
abbrev kX4_canFollowInLoaf := @vX4_canFollowInLoaf
abbrev metX4_canFollowInLoaf := @mX4_canFollowInLoaf
theorem u4_canFollow {P : Sk} {f : St} {a i : Nat} {b : List Nat} {K : Int32 → St → Prop} (ha : IsText P a) (hT : TextIs f a b) (hb : Tok b) (hi : i < b.length) (h0 : i = 0 ∨ okL b 0) (hK1 : okL b i → K 1 f) (hK0 : ¬ okL b i → K 0 f) : kX4_canFollowInLoaf P f a (nI i) K := by
  show vX4_canFollowInLoaf P f a (nI i) K
  unfold vX4_canFollowInLoaf
  have hl := hb.1
  have hc := hb.at hi
  refine u4_signAt ha hT hb hi ?_
  change _ ∧ _
  have hr : nI i - nI i / nI 2 * nI 2 = nI (i % 2) := pk_rem (by omega) (by decide) (by decide)
  have hr2 : i % 2 < 2 := Nat.mod_lt _ (by decide)
  rw [show (0 : Int32) = nI 0 from rfl, show (1 : Int32) = nI 1 from rfl, show (2 : Int32) = nI 2 from rfl, show (50 : Int32) = nI 50 from rfl, show (58 : Int32) = nI 58 from rfl, hr, nI_eq (by omega) (by omega), nI_eq (by omega) (by omega), nI_eq (by omega) (by omega), nI_eq (by omega) (by omega), nI_ltI (by omega) (by omega)]
  unfold okL at hK1 hK0
  refine ⟨fun c0 => ⟨fun c1 => ⟨fun c2 => ⟨fun c3 => ?_, fun c3 => ?_⟩, fun c2 => ?_⟩, fun c1 => ⟨fun c2 => ?_, fun c2 => ?_⟩⟩, fun c0 => ?_⟩
  · rw [if_neg c0, if_neg c1, if_neg (show ¬ 50 ≤ i by omega), if_neg c3] at hK1 hK0
    exact u4_isSide (by omega) (fun h => ⟨Or.inr rfl, hK1 h⟩) (fun h => ⟨Or.inl rfl, hK0 h⟩)
  · rw [if_neg c0, if_neg c1, if_neg (show ¬ 50 ≤ i by omega), if_pos c3] at hK1 hK0
    have h0 := okL_0 (h0.resolve_left c0)
    show vX4_digitAt P f a (nI 0) _
    unfold vX4_digitAt
    refine u4_signAt ha hT hb (by omega) ?_
    change kX4_isBetween P f (nI (b.getD i 0)) (nI 97) ((nI 97 + (nI (b.getD 0 0) - nI 48)) - nI 2) _
    rw [pk_sub (by omega), nI_add, pk_sub (by omega)]
    exact u4_isBetween (by omega) (by omega) (by omega) (fun h1 h2 => ⟨Or.inr rfl, hK1 ⟨h1, by omega⟩⟩) (fun h => ⟨Or.inl rfl, hK0 (by omega)⟩)
  · rw [if_neg c0, if_neg c1, if_pos (show 50 ≤ i by omega)] at hK0
    exact hK0 id
  · rw [if_neg c0, if_pos c1] at hK0
    rw [c1] at c2
    exact hK0 c2
  · rw [if_neg c0, if_pos c1] at hK1
    rw [c1] at c2
    exact hK1 c2
  · rw [if_pos c0] at hK1 hK0
    rw [c0]
    rw [c0] at hc
    exact u4_isBetween (x := 50) (y := 55) (by omega) (by omega) (by omega) (fun h1 h2 => ⟨Or.inr rfl, hK1 ⟨h1, h2⟩⟩) (fun h => ⟨Or.inl rfl, hK0 h⟩)

def bX4_firstErrorOfLoaf_2 (P : Sk) (a : Nat) (L2 : St → Int32 → Prop) (K : Int32 → St → Prop) (f : St) (x1 : Int32) : Prop :=
  (f a 1 ≤ x1 → K (f a 1) f) ∧ (¬ f a 1 ≤ x1 → kX4_canFollowInLoaf P f a x1 (fun r12 g12 => (¬ r12 = 0 → ∀ x1_20 : Int32, x1_20 = x1 + 1 → L2 g12 x1_20) ∧ (r12 = 0 → K x1 g12)))
def vX4_firstErrorOfLoaf (P : Sk) (f : St) (a : Nat) (L2 : St → Int32 → Prop) (K : Int32 → St → Prop) : Prop :=
  L2 f 0
set_option maxRecDepth 20000 in
set_option maxHeartbeats 4000000 in
theorem mX4_firstErrorOfLoaf (l : Launch) (G : Gl) (P : Sk) (f : St) (sz : Nat) (a : Nat) (ha : IsText P a) (K : Int32 → St → Prop) (I2 : St → Int32 → Prop) (μ2 : St → Int32 → Nat) 
  (h : vX4_firstErrorOfLoaf P f a I2 K)
  (h2 : ∀ (g : St) (x1 : Int32) , I2 g x1 → bX4_firstErrorOfLoaf_2 P a (fun g' z0 => I2 g' z0 ∧ μ2 g' z0 < μ2 g x1) K g x1) :
  Met l yX4_firstErrorOfLoaf (wU yX4_firstErrorOfLoaf cX4_firstErrorOfLoaf 2 (some .int)) rmX4_firstErrorOfLoaf (PcW G P f sz [.ref a]) (QcI G P sz K) 0 0 (frA P sz) := by
  refine v_met (own := RX4) [.ref a] (by decide +kernel) rfl (Nat.le_of_ble_eq_true rfl) (fun p e s m args below meth c hsz o hr hnm => ?_)
  refine v_lv (lv2 := [(0, .ref a)]) rfl ?_
  have main : ∀ n : Nat, (∀ (g : St) (x1 : Int32) , I2 g x1 → μ2 g x1 < n → V p l e rmX4_firstErrorOfLoaf s m args below meth c 2 G (frA P sz) (MQ below (QcI G P sz K) args s 0 0 (frA P sz)) 0 0 P [(0, .ref a), (1, .int x1)] [] 2 g) := by
    intro n
    induction n with
    | zero => exact fun g x1 hI hm => absurd hm (Nat.not_lt_zero _)
    | succ n ih =>
      intro g x1 hI hm
      have h := h2 g x1 hI
      clear hI
      unfold bX4_firstErrorOfLoaf_2 at h
      refine v_iload_n o 1 dX4_firstErrorOfLoaf_2 rfl ?_
      refine v_aload_n o 0 dX4_firstErrorOfLoaf_3 rfl ?_
      refine v_gfI o lkX4_20 (by decide) (wfText_o ha) dX4_firstErrorOfLoaf_4 ?_
      refine v_icmp_ge o (tgt := 26) dX4_firstErrorOfLoaf_7 (by decide) (fun c7 => ?_) (fun c7 => ?_)
      · replace h := h.1 c7
        refine v_aload_n o 0 dX4_firstErrorOfLoaf_26 rfl ?_
        refine v_gfI o lkX4_20 (by decide) (wfText_o ha) dX4_firstErrorOfLoaf_27 ?_
        exact v_iret o rfl hr dX4_firstErrorOfLoaf_30 h
      · replace h := h.2 c7
        refine v_aload_n o 0 dX4_firstErrorOfLoaf_10 rfl ?_
        refine v_iload_n o 1 dX4_firstErrorOfLoaf_11 rfl ?_
        refine v_cVi o [.int x1] [] (fun sz => metX4_canFollowInLoaf l G P g sz a ha x1 _ h) (cwX4_39 o.1.2.2.2.2 (by decide)) ⟨_, _, rfl⟩ (by decide) (wfText_o ha) rfl (Nat.le_of_ble_eq_true rfl) ⟨Nat.le_of_ble_eq_true rfl, Nat.le_of_ble_eq_true rfl⟩ dX4_firstErrorOfLoaf_12 rfl (fun r12 g12 h => ?_)
        refine v_if_ne o (tgt := 20) dX4_firstErrorOfLoaf_15 (by decide) (fun c15 => ?_) (fun c15 => ?_)
        · replace h := h.1 c15
          obtain ⟨x1_20, ex1_20⟩ : ∃ y : Int32, y = x1 + 1 := ⟨_, rfl⟩
          replace h := h x1_20 ex1_20
          refine v_iinc o (v := x1_20) (lv' := [(1, .int x1_20), (0, .ref a)]) 1 dX4_firstErrorOfLoaf_20 rfl (by rw [ex1_20]; rfl) (by decide) rfl ?_
          refine v_goto o (tgt := 2) dX4_firstErrorOfLoaf_23 (by decide) ?_
          refine v_sub [1, 0] (lv2 := [(0, .ref a), (1, .int x1_20)]) rfl ?_
          exact ih g12 x1_20  h.1 (by have := h.2; omega)
        · replace h := h.2 c15
          refine v_iload_n o 1 dX4_firstErrorOfLoaf_18 rfl ?_
          exact v_iret o rfl hr dX4_firstErrorOfLoaf_19 h
  unfold vX4_firstErrorOfLoaf at h
  refine v_iconst o (v := 0) dX4_firstErrorOfLoaf_0 (by decide) ?_
  refine v_istore_n o (lv' := [(1, .int 0), (0, .ref a)]) dX4_firstErrorOfLoaf_1 rfl (by decide) rfl ?_
  refine v_sub [1, 0] (lv2 := [(0, .ref a), (1, .int 0)]) rfl ?_
  exact (main (μ2 f 0 + 1)) f 0  h (Nat.lt_succ_self _)
def WX4_firstErrorOfLoaf (P : Sk) (f : St) (a : Nat) (K : Int32 → St → Prop) : Prop := ∃ (I2 : St → Int32 → Prop) (μ2 : St → Int32 → Nat), (vX4_firstErrorOfLoaf P f a I2 K) ∧ (∀ (g : St) (x1 : Int32) , I2 g x1 → bX4_firstErrorOfLoaf_2 P a (fun g' z0 => I2 g' z0 ∧ μ2 g' z0 < μ2 g x1) K g x1)
def kX4_firstErrorOfLoaf (P : Sk) (f : St) (a : Nat) (K : Int32 → St → Prop) : Prop := ∃ b, TextIs f a b ∧ Tok b ∧ ∀ e, FeL b e → K (nI e) f
theorem wX4_firstErrorOfLoaf (P : Sk) (f : St) (a : Nat) (ha : IsText P a) (K : Int32 → St → Prop) (h : kX4_firstErrorOfLoaf P f a K) : WX4_firstErrorOfLoaf P f a K := by
  obtain ⟨b, hT, hb, hK⟩ := h
  have hl := hb.1
  refine ⟨fun g x => ∃ k, x = nI k ∧ g = f ∧ k ≤ b.length ∧ ∀ j, j < k → okL b j, fun g x => b.length - x.toNatClampNeg, ?_, ?_⟩
  · unfold vX4_firstErrorOfLoaf
    exact ⟨0, rfl, rfl, Nat.zero_le _, fun j hj => absurd hj (Nat.not_lt_zero _)⟩
  · rintro g x ⟨k, rfl, rfl, hk, hA⟩
    unfold bX4_firstErrorOfLoaf_2
    rw [hT.1, nI_leI (by omega) (by omega)]
    refine ⟨fun q => hK _ ⟨Nat.le_refl _, fun j hj => hA j (by omega), Or.inl rfl⟩, fun q => ?_⟩
    refine u4_canFollow ha hT hb (by omega) ?_ (fun h => ⟨fun _ x e => ?_, fun q2 => absurd q2 (by decide)⟩) (fun h => ⟨fun q2 => absurd rfl q2, fun _ => hK k ⟨hk, hA, Or.inr h⟩⟩)
    · by_cases c : k = 0
      · exact Or.inl c
      · exact Or.inr (hA 0 (by omega))
    · rw [nI_1] at e
      refine ⟨⟨k + 1, e, rfl, by omega, fun j hj => ?_⟩, mu_up e (by omega) (by omega)⟩
      by_cases c : j = k
      · rw [c]
        exact h
      · exact hA j (by omega)

theorem metX4_firstErrorOfLoaf (l : Launch) (G : Gl) (P : Sk) (f : St) (sz : Nat) (a : Nat) (ha : IsText P a) (K : Int32 → St → Prop) (h : kX4_firstErrorOfLoaf P f a K) : Met l yX4_firstErrorOfLoaf (wU yX4_firstErrorOfLoaf cX4_firstErrorOfLoaf 2 (some .int)) rmX4_firstErrorOfLoaf (PcW G P f sz [.ref a]) (QcI G P sz K) 0 0 (frA P sz) := by
  obtain ⟨I2, μ2, qh, qh2⟩ := wX4_firstErrorOfLoaf P f a ha K h
  exact mX4_firstErrorOfLoaf l G P f sz a ha K I2 μ2 qh qh2

def vX4_isLoaf (P : Sk) (f : St) (a : Nat) (K : Int32 → St → Prop) : Prop :=
  (f a 1 < 2 → K 0 f) ∧ (¬ f a 1 < 2 → (¬ (f a 1) - (f a 1) / 2 * 2 = 0 → K 0 f) ∧ ((f a 1) - (f a 1) / 2 * 2 = 0 → kX4_firstErrorOfLoaf P f a (fun r18 g18 => (¬ r18 = g18 a 1 → K 0 g18) ∧ (r18 = g18 a 1 → K 1 g18))))
set_option maxRecDepth 20000 in
set_option maxHeartbeats 4000000 in
theorem mX4_isLoaf (l : Launch) (G : Gl) (P : Sk) (f : St) (sz : Nat) (a : Nat) (ha : IsText P a) (K : Int32 → St → Prop) (h : vX4_isLoaf P f a K)  :
  Met l yX4_isLoaf (wU yX4_isLoaf cX4_isLoaf 1 (some .boolean)) rmX4_isLoaf (PcW G P f sz [.ref a]) (QcI G P sz K) 0 0 (frA P sz) := by
  refine v_met (own := RX4) [.ref a] (by decide +kernel) rfl (Nat.le_of_ble_eq_true rfl) (fun p e s m args below meth c hsz o hr hnm => ?_)
  refine v_lv (lv2 := [(0, .ref a)]) rfl ?_
  unfold vX4_isLoaf at h
  refine v_aload_n o 0 dX4_isLoaf_0 rfl ?_
  refine v_gfI o lkX4_20 (by decide) (wfText_o ha) dX4_isLoaf_1 ?_
  refine v_iconst o (v := 2) dX4_isLoaf_4 (by decide) ?_
  refine v_icmp_lt o (tgt := 32) dX4_isLoaf_5 (by decide) (fun c5 => ?_) (fun c5 => ?_)
  · replace h := h.1 c5
    refine v_iconst o (v := 0) dX4_isLoaf_32 (by decide) ?_
    exact v_zret o rfl hr bz0.1 dX4_isLoaf_33 h
  · replace h := h.2 c5
    refine v_aload_n o 0 dX4_isLoaf_8 rfl ?_
    refine v_gfI o lkX4_20 (by decide) (wfText_o ha) dX4_isLoaf_9 ?_
    refine v_iconst o (v := 2) dX4_isLoaf_12 (by decide) ?_
    refine v_irem o dX4_isLoaf_13 (by decide) ?_
    refine v_if_ne o (tgt := 32) dX4_isLoaf_14 (by decide) (fun c14 => ?_) (fun c14 => ?_)
    · replace h := h.1 c14
      refine v_iconst o (v := 0) dX4_isLoaf_32 (by decide) ?_
      exact v_zret o rfl hr bz0.1 dX4_isLoaf_33 h
    · replace h := h.2 c14
      refine v_aload_n o 0 dX4_isLoaf_17 rfl ?_
      refine v_cVi o [] [] (fun sz => metX4_firstErrorOfLoaf l G P f sz a ha _ h) (cwX4_35 o.1.2.2.2.2 (by decide)) ⟨_, _, rfl⟩ (by decide) (wfText_o ha) rfl (Nat.le_of_ble_eq_true rfl) ⟨Nat.le_of_ble_eq_true rfl, Nat.le_of_ble_eq_true rfl⟩ dX4_isLoaf_18 rfl (fun r18 g18 h => ?_)
      refine v_aload_n o 0 dX4_isLoaf_21 rfl ?_
      refine v_gfI o lkX4_20 (by decide) (wfText_o ha) dX4_isLoaf_22 ?_
      refine v_icmp_ne o (tgt := 32) dX4_isLoaf_25 (by decide) (fun c25 => ?_) (fun c25 => ?_)
      · replace h := h.1 c25
        refine v_iconst o (v := 0) dX4_isLoaf_32 (by decide) ?_
        exact v_zret o rfl hr bz0.1 dX4_isLoaf_33 h
      · replace h := h.2 c25
        refine v_iconst o (v := 1) dX4_isLoaf_28 (by decide) ?_
        refine v_goto o (tgt := 33) dX4_isLoaf_29 (by decide) ?_
        exact v_zret o rfl hr bz1.1 dX4_isLoaf_33 h
abbrev kX4_isLoaf := @vX4_isLoaf
abbrev metX4_isLoaf := @mX4_isLoaf
theorem u4_isLoaf {P : Sk} {f : St} {a : Nat} {b : List Nat} {K : Int32 → St → Prop} (hT : TextIs f a b) (hb : Tok b) (hK1 : LoafT b → K 1 f) (hK0 : ¬ LoafT b → K 0 f) : kX4_isLoaf P f a K := by
  show vX4_isLoaf P f a K
  unfold vX4_isLoaf
  have hl := hb.1
  have hr : nI b.length - nI b.length / nI 2 * nI 2 = nI (b.length % 2) := pk_rem (by omega) (by decide) (by decide)
  have hr2 : b.length % 2 < 2 := Nat.mod_lt _ (by decide)
  rw [hT.1, show (2 : Int32) = nI 2 from rfl, hr, nI_ltI (by omega) (by omega), show nI (b.length % 2) = 0 ↔ b.length % 2 = 0 from nI_eq (b := 0) (by omega) (by omega)]
  refine ⟨fun q => hK0 (fun h => by have := h.1; omega), fun q => ⟨fun q2 => hK0 (fun h => q2 h.2.1), fun q2 => ⟨b, hT, hb, fun e he => ?_⟩⟩⟩
  have := he.1
  change _ ∧ _
  rw [hT.1, nI_eq (by omega) (by omega)]
  refine ⟨fun q3 => hK0 (fun h => ?_), fun q3 => hK1 ⟨by omega, q2, fun j hj => he.2.1 j (by omega)⟩⟩
  rcases he.2.2 with q4 | q4
  · exact q3 q4
  · exact q4 (h.2.2 e (by omega))

def jX4_readLoaf_42 (P : Sk) (a : Nat) (b1 : Nat) (L11 : St → Int32 → Prop) (K : St → Prop) (x2 : Int32) (y1 : Int32) (y2 : Int32) (f : St) : Prop :=
  kX6_codeOf P f y1 y2 (fun r42 g42 => kX6_add P g42 b1 r42 (fun g45 => ∀ x2_48 : Int32, x2_48 = x2 + 2 → L11 g45 x2_48))
def bX4_readLoaf_11 (P : Sk) (a : Nat) (b1 : Nat) (L11 : St → Int32 → Prop) (K : St → Prop) (f : St) (x2 : Int32) : Prop :=
  (f a 1 ≤ x2 → K f) ∧ (¬ f a 1 ≤ x2 → kX4_placeAt P f a x2 (fun r22 g22 => kX4_signAt P g22 a (x2 + 1) (fun r29 g29 => (¬ r29 = 43 → jX4_readLoaf_42 P a b1 L11 K x2 r22 0 g29) ∧ (r29 = 43 → jX4_readLoaf_42 P a b1 L11 K x2 r22 1 g29))))
def vX4_readLoaf (P : Sk) (f : St) (a : Nat) (b1 : Nat) (L11 : St → Int32 → Prop) (K : St → Prop) : Prop :=
  kX4_digitAt P f a 0 (fun r3 g3 => kX6_begin P g3 b1 r3 (fun g6 => L11 g6 2))
set_option maxRecDepth 20000 in
set_option maxHeartbeats 4000000 in
theorem mX4_readLoaf (l : Launch) (G : Gl) (P : Sk) (f : St) (sz : Nat) (a : Nat) (ha : IsText P a) (b1 : Nat) (hb1 : IsWord P b1) (K : St → Prop) (I11 : St → Int32 → Prop) (μ11 : St → Int32 → Nat) 
  (h : vX4_readLoaf P f a b1 I11 K)
  (h11 : ∀ (g : St) (x2 : Int32) , I11 g x2 → bX4_readLoaf_11 P a b1 (fun g' z0 => I11 g' z0 ∧ μ11 g' z0 < μ11 g x2) K g x2) :
  Met l yX4_readLoaf (wU yX4_readLoaf cX4_readLoaf 3 none) rmX4_readLoaf (PcW G P f sz [.ref a, .ref b1]) (QcV G P sz K) 0 0 (frA P sz) := by
  refine v_met (own := RX4) [.ref a, .ref b1] (by decide +kernel) rfl (Nat.le_of_ble_eq_true rfl) (fun p e s m args below meth c hsz o hr hnm => ?_)
  refine v_lv (lv2 := [(0, .ref a), (1, .ref b1)]) rfl ?_
  have main : ∀ n : Nat, (∀ (g : St) (x2 : Int32) , I11 g x2 → μ11 g x2 < n → V p l e rmX4_readLoaf s m args below meth c 3 G (frA P sz) (MQ below (QcV G P sz K) args s 0 0 (frA P sz)) 0 0 P [(0, .ref a), (1, .ref b1), (2, .int x2)] [] 11 g) := by
    intro n
    induction n with
    | zero => exact fun g x2 hI hm => absurd hm (Nat.not_lt_zero _)
    | succ n ih =>
      intro g x2 hI hm
      have h := h11 g x2 hI
      clear hI
      have J42 : ∀ (x2_42 : Int32) (y1_42 : Int32) (y2_42 : Int32) (g42 : St), jX4_readLoaf_42 P a b1 (fun g' z0 => I11 g' z0 ∧ μ11 g' z0 < μ11 g x2) K x2_42 y1_42 y2_42 g42 → V p l e rmX4_readLoaf s m args below meth c 3 G (frA P sz) (MQ below (QcV G P sz K) args s 0 0 (frA P sz)) 0 0 P [(0, .ref a), (1, .ref b1), (2, .int x2_42)] [.int y2_42, .int y1_42, .ref b1] 42 g42 := by
        intro x2_42 y1_42 y2_42 g42  h
        unfold jX4_readLoaf_42 at h
        refine v_cSi o [.int y1_42, .int y2_42] [.ref b1] (fun sz => metX6_codeOf l G P g42 sz y1_42 y2_42 _ h) (cwX4_61 o.1.2.2.2.2 (by decide)) rfl (Nat.le_of_ble_eq_true rfl) ⟨Nat.le_of_ble_eq_true rfl, Nat.le_of_ble_eq_true rfl⟩ dX4_readLoaf_42 rfl (fun r42 g42 h => ?_)
        refine v_cVv o [.int r42] [] (fun sz => metX6_add l G P g42 sz b1 hb1 r42 _ h) (cwX4_65 o.1.2.2.2.2 (by decide)) ⟨_, _, rfl⟩ (by decide) (wfWord_o hb1) rfl (Nat.le_of_ble_eq_true rfl) ⟨Nat.le_of_ble_eq_true rfl, Nat.le_of_ble_eq_true rfl⟩ dX4_readLoaf_45 rfl (fun g45 h => ?_)
        obtain ⟨x2_48, ex2_48⟩ : ∃ y : Int32, y = x2_42 + 2 := ⟨_, rfl⟩
        replace h := h x2_48 ex2_48
        refine v_iinc o (v := x2_48) (lv' := [(2, .int x2_48), (0, .ref a), (1, .ref b1)]) 2 dX4_readLoaf_48 rfl (by rw [ex2_48]; rfl) (by decide) rfl ?_
        refine v_goto o (tgt := 11) dX4_readLoaf_51 (by decide) ?_
        refine v_sub [1, 2, 0] (lv2 := [(0, .ref a), (1, .ref b1), (2, .int x2_48)]) rfl ?_
        exact ih g45 x2_48  h.1 (by have := h.2; omega)
      unfold bX4_readLoaf_11 at h
      refine v_iload_n o 2 dX4_readLoaf_11 rfl ?_
      refine v_aload_n o 0 dX4_readLoaf_12 rfl ?_
      refine v_gfI o lkX4_20 (by decide) (wfText_o ha) dX4_readLoaf_13 ?_
      refine v_icmp_ge o (tgt := 54) dX4_readLoaf_16 (by decide) (fun c16 => ?_) (fun c16 => ?_)
      · replace h := h.1 c16
        exact v_vret o rfl hr dX4_readLoaf_54 h
      · replace h := h.2 c16
        refine v_aload_n o 1 dX4_readLoaf_19 rfl ?_
        refine v_aload_n o 0 dX4_readLoaf_20 rfl ?_
        refine v_iload_n o 2 dX4_readLoaf_21 rfl ?_
        refine v_cVi o [.int x2] [.ref b1] (fun sz => metX4_placeAt l G P g sz a ha x2 _ h) (cwX4_58 o.1.2.2.2.2 (by decide)) ⟨_, _, rfl⟩ (by decide) (wfText_o ha) rfl (Nat.le_of_ble_eq_true rfl) ⟨Nat.le_of_ble_eq_true rfl, Nat.le_of_ble_eq_true rfl⟩ dX4_readLoaf_22 rfl (fun r22 g22 h => ?_)
        refine v_aload_n o 0 dX4_readLoaf_25 rfl ?_
        refine v_iload_n o 2 dX4_readLoaf_26 rfl ?_
        refine v_iconst o (v := 1) dX4_readLoaf_27 (by decide) ?_
        refine v_iadd o dX4_readLoaf_28 ?_
        refine v_cVi o [.int (x2 + 1)] [.int r22, .ref b1] (fun sz => metX4_signAt l G P g22 sz a ha (x2 + 1) _ h) (cwX4_32 o.1.2.2.2.2 (by decide)) ⟨_, _, rfl⟩ (by decide) (wfText_o ha) rfl (Nat.le_of_ble_eq_true rfl) ⟨Nat.le_of_ble_eq_true rfl, Nat.le_of_ble_eq_true rfl⟩ dX4_readLoaf_29 rfl (fun r29 g29 h => ?_)
        refine v_bipush o (v := 43) dX4_readLoaf_32 (by decide) ?_
        refine v_icmp_ne o (tgt := 41) dX4_readLoaf_34 (by decide) (fun c34 => ?_) (fun c34 => ?_)
        · replace h := h.1 c34
          refine v_iconst o (v := 0) dX4_readLoaf_41 (by decide) ?_
          refine v_sub [0, 1, 2] (lv2 := [(0, .ref a), (1, .ref b1), (2, .int x2)]) rfl ?_
          exact J42 x2 r22 0 g29  h
        · replace h := h.2 c34
          refine v_iconst o (v := 1) dX4_readLoaf_37 (by decide) ?_
          refine v_goto o (tgt := 42) dX4_readLoaf_38 (by decide) ?_
          refine v_sub [0, 1, 2] (lv2 := [(0, .ref a), (1, .ref b1), (2, .int x2)]) rfl ?_
          exact J42 x2 r22 1 g29  h
  unfold vX4_readLoaf at h
  refine v_aload_n o 1 dX4_readLoaf_0 rfl ?_
  refine v_aload_n o 0 dX4_readLoaf_1 rfl ?_
  refine v_iconst o (v := 0) dX4_readLoaf_2 (by decide) ?_
  refine v_cVi o [.int 0] [.ref b1] (fun sz => metX4_digitAt l G P f sz a ha 0 _ h) (cwX4_47 o.1.2.2.2.2 (by decide)) ⟨_, _, rfl⟩ (by decide) (wfText_o ha) rfl (Nat.le_of_ble_eq_true rfl) ⟨Nat.le_of_ble_eq_true rfl, Nat.le_of_ble_eq_true rfl⟩ dX4_readLoaf_3 rfl (fun r3 g3 h => ?_)
  refine v_cVv o [.int r3] [] (fun sz => metX6_begin l G P g3 sz b1 hb1 r3 _ h) (cwX4_53 o.1.2.2.2.2 (by decide)) ⟨_, _, rfl⟩ (by decide) (wfWord_o hb1) rfl (Nat.le_of_ble_eq_true rfl) ⟨Nat.le_of_ble_eq_true rfl, Nat.le_of_ble_eq_true rfl⟩ dX4_readLoaf_6 rfl (fun g6 h => ?_)
  refine v_iconst o (v := 2) dX4_readLoaf_9 (by decide) ?_
  refine v_istore_n o (lv' := [(2, .int 2), (0, .ref a), (1, .ref b1)]) dX4_readLoaf_10 rfl (by decide) rfl ?_
  refine v_sub [1, 2, 0] (lv2 := [(0, .ref a), (1, .ref b1), (2, .int 2)]) rfl ?_
  exact (main (μ11 g6 2 + 1)) g6 2  h (Nat.lt_succ_self _)
def WX4_readLoaf (P : Sk) (f : St) (a : Nat) (b1 : Nat) (K : St → Prop) : Prop := ∃ (I11 : St → Int32 → Prop) (μ11 : St → Int32 → Nat), (vX4_readLoaf P f a b1 I11 K) ∧ (∀ (g : St) (x2 : Int32) , I11 g x2 → bX4_readLoaf_11 P a b1 (fun g' z0 => I11 g' z0 ∧ μ11 g' z0 < μ11 g x2) K g x2)
def kX4_readLoaf (P : Sk) (f : St) (a : Nat) (b1 : Nat) (K : St → Prop) : Prop := ∃ b, TextIs f a b ∧ Tok b ∧ LoafT b ∧ (b1 + 3 ≤ a ∨ a + 3 ≤ b1) ∧ ∀ g, Fr f g b1 (b1 + 3) → WordIs g b1 (b.getD 0 0 - 48) (wdT b) → K g
theorem wX4_readLoaf (P : Sk) (f : St) (a : Nat) (ha : IsText P a) (b1 : Nat) (hb1 : IsWord P b1) (K : St → Prop) (h : kX4_readLoaf P f a b1 K) : WX4_readLoaf P f a b1 K := by
  obtain ⟨b, hT, hb, hL, hd, hK⟩ := h
  have hw := hL.wok
  have hl := hL.1
  have he := hL.2.1
  have hwl := wdT_len b
  have h0 := okL_0 (hL.2.2 0 (by omega))
  refine ⟨fun g x => ∃ k, x = nI (2 + 2 * k) ∧ k ≤ (wdT b).length ∧ Fr f g b1 (b1 + 3) ∧ WordIs g b1 (b.getD 0 0 - 48) ((wdT b).take k), fun g x => b.length - x.toNatClampNeg, ?_, ?_⟩
  · unfold vX4_readLoaf
    show vX4_digitAt P f a (nI 0) _
    unfold vX4_digitAt
    refine u4_signAt ha hT hb (by omega) ?_
    refine u6_begin (n := b.getD 0 0 - 48) ?_ (fun g h1 h2 => ⟨0, rfl, Nat.zero_le _, h1, h2⟩)
    rw [show (48 : Int32) = nI 48 from rfl, pk_sub (by omega)]
  · rintro g x ⟨k, rfl, hk, hfr, hg⟩
    have hT' := hT.out hfr (by omega)
    unfold bX4_readLoaf_11
    rw [hT'.1, nI_leI (by omega) (by omega)]
    refine ⟨fun q => ?_, fun q => ?_⟩
    · rw [show k = (wdT b).length by omega, List.take_length] at hg
      exact hK g hfr hg
    · show vX4_placeAt P g a _ _
      unfold vX4_placeAt
      refine u4_signAt ha hT' hb (by omega) ?_
      have h4 := okL_ev (by omega) (by omega) (hL.2.2 (2 + 2 * k) (by omega))
      have hc := hb.at (i := 3 + 2 * k) (by omega)
      rw [show (97 : Int32) = nI 97 from rfl, pk_sub (by omega), nI_1, show 2 + 2 * k + 1 = 3 + 2 * k by omega]
      refine u4_signAt ha hT' hb (by omega) ?_
      have hk1 := take_snoc (wdT b) k (by omega)
      have hwk := wdT_at b (j := k) (by omega)
      have add : ∀ r, r < 2 → (wdT b).getD k 0 = 2 * (b.getD (2 + 2 * k) 0 - 97) + r → jX4_readLoaf_42 P a b1 (fun g' z0 => (∃ k, z0 = nI (2 + 2 * k) ∧ k ≤ (wdT b).length ∧ Fr f g' b1 (b1 + 3) ∧ WordIs g' b1 (b.getD 0 0 - 48) ((wdT b).take k)) ∧ b.length - z0.toNatClampNeg < b.length - (nI (2 + 2 * k)).toNatClampNeg) K (nI (2 + 2 * k)) (nI (b.getD (2 + 2 * k) 0 - 97)) (nI r) g := by
        intro r hr e
        unfold jX4_readLoaf_42
        refine u6_codeOf hr ?_
        show vX6_add P g b1 _ _
        unfold vX6_add
        refine u6_add hg (by rw [List.length_take]; have := hw.1.2.2.1; omega) (fun g2 r1 r2 => ?_)
        rw [← e, ← hk1] at r2
        rw [show (2 : Int32) = nI 2 from rfl, nI_add]
        intro y ey
        refine ⟨⟨k + 1, by rw [ey]; congr 1, by omega, hfr.trans r1, r2⟩, ?_⟩
        rw [ey, nI_clamp (by omega), nI_clamp (by omega)]
        omega
      change _ ∧ _
      rw [show (43 : Int32) = nI 43 from rfl, nI_eq (by omega) (by omega)]
      refine ⟨fun q2 => add 0 (by omega) ?_, fun q2 => add 1 (by omega) ?_⟩
      · rw [if_neg q2] at hwk
        exact hwk
      · rw [if_pos q2] at hwk
        exact hwk

theorem metX4_readLoaf (l : Launch) (G : Gl) (P : Sk) (f : St) (sz : Nat) (a : Nat) (ha : IsText P a) (b1 : Nat) (hb1 : IsWord P b1) (K : St → Prop) (h : kX4_readLoaf P f a b1 K) : Met l yX4_readLoaf (wU yX4_readLoaf cX4_readLoaf 3 none) rmX4_readLoaf (PcW G P f sz [.ref a, .ref b1]) (QcV G P sz K) 0 0 (frA P sz) := by
  obtain ⟨I11, μ11, qh, qh11⟩ := wX4_readLoaf P f a ha b1 hb1 K h
  exact mX4_readLoaf l G P f sz a ha b1 hb1 K I11 μ11 qh qh11

def vX4_stateBehindLetter (P : Sk) (f : St) (p0 : Int32) (K : Int32 → St → Prop) : Prop :=
  (p0 = 106 → K 5 f) ∧ (¬ p0 = 106 → (p0 = 108 → K 1 f) ∧ (¬ p0 = 108 → (p0 = 109 → K 1 f) ∧ (¬ p0 = 109 → (p0 = 114 → K 1 f) ∧ (¬ p0 = 114 → (p0 = 116 → K 1 f) ∧ (¬ p0 = 116 → (p0 = 120 → K 2 f) ∧ (¬ p0 = 120 → (p0 = 122 → K 1 f) ∧ (¬ p0 = 122 → K (-1) f)))))))
set_option maxRecDepth 20000 in
set_option maxHeartbeats 4000000 in
theorem mX4_stateBehindLetter (l : Launch) (G : Gl) (P : Sk) (f : St) (sz : Nat) (p0 : Int32) (K : Int32 → St → Prop) (h : vX4_stateBehindLetter P f p0 K)  :
  Met l yX4_stateBehindLetter (wU yX4_stateBehindLetter cX4_stateBehindLetter 1 (some .int)) rmX4_stateBehindLetter (PcW G P f sz [.int p0]) (QcI G P sz K) 0 0 (frA P sz) := by
  refine v_met (own := RX4) [.int p0] (by decide +kernel) rfl (Nat.le_of_ble_eq_true rfl) (fun p e s m args below meth c hsz o hr hnm => ?_)
  refine v_lv (lv2 := [(0, .int p0)]) rfl ?_
  unfold vX4_stateBehindLetter at h
  refine v_iload_n o 0 dX4_stateBehindLetter_0 rfl ?_
  by_cases c1_106 : p0 = 106
  · replace h := h.1 c1_106
    refine v_tableIn o (off := 85) (tgt := 86) dX4_stateBehindLetter_1 (by rw [c1_106]; decide) (by rw [c1_106]; decide) (by rw [c1_106]; decide) (by decide) ?_
    refine v_iconst o (v := 5) dX4_stateBehindLetter_86 (by decide) ?_
    exact v_iret o rfl hr dX4_stateBehindLetter_87 h
  · replace h := h.2 c1_106
    by_cases c1_108 : p0 = 108
    · replace h := h.1 c1_108
      refine v_tableIn o (off := 87) (tgt := 88) dX4_stateBehindLetter_1 (by rw [c1_108]; decide) (by rw [c1_108]; decide) (by rw [c1_108]; decide) (by decide) ?_
      refine v_iconst o (v := 1) dX4_stateBehindLetter_88 (by decide) ?_
      exact v_iret o rfl hr dX4_stateBehindLetter_89 h
    · replace h := h.2 c1_108
      by_cases c1_109 : p0 = 109
      · replace h := h.1 c1_109
        refine v_tableIn o (off := 87) (tgt := 88) dX4_stateBehindLetter_1 (by rw [c1_109]; decide) (by rw [c1_109]; decide) (by rw [c1_109]; decide) (by decide) ?_
        refine v_iconst o (v := 1) dX4_stateBehindLetter_88 (by decide) ?_
        exact v_iret o rfl hr dX4_stateBehindLetter_89 h
      · replace h := h.2 c1_109
        by_cases c1_114 : p0 = 114
        · replace h := h.1 c1_114
          refine v_tableIn o (off := 87) (tgt := 88) dX4_stateBehindLetter_1 (by rw [c1_114]; decide) (by rw [c1_114]; decide) (by rw [c1_114]; decide) (by decide) ?_
          refine v_iconst o (v := 1) dX4_stateBehindLetter_88 (by decide) ?_
          exact v_iret o rfl hr dX4_stateBehindLetter_89 h
        · replace h := h.2 c1_114
          by_cases c1_116 : p0 = 116
          · replace h := h.1 c1_116
            refine v_tableIn o (off := 87) (tgt := 88) dX4_stateBehindLetter_1 (by rw [c1_116]; decide) (by rw [c1_116]; decide) (by rw [c1_116]; decide) (by decide) ?_
            refine v_iconst o (v := 1) dX4_stateBehindLetter_88 (by decide) ?_
            exact v_iret o rfl hr dX4_stateBehindLetter_89 h
          · replace h := h.2 c1_116
            by_cases c1_120 : p0 = 120
            · replace h := h.1 c1_120
              refine v_tableIn o (off := 83) (tgt := 84) dX4_stateBehindLetter_1 (by rw [c1_120]; decide) (by rw [c1_120]; decide) (by rw [c1_120]; decide) (by decide) ?_
              refine v_iconst o (v := 2) dX4_stateBehindLetter_84 (by decide) ?_
              exact v_iret o rfl hr dX4_stateBehindLetter_85 h
            · replace h := h.2 c1_120
              by_cases c1_122 : p0 = 122
              · replace h := h.1 c1_122
                refine v_tableIn o (off := 87) (tgt := 88) dX4_stateBehindLetter_1 (by rw [c1_122]; decide) (by rw [c1_122]; decide) (by rw [c1_122]; decide) (by decide) ?_
                refine v_iconst o (v := 1) dX4_stateBehindLetter_88 (by decide) ?_
                exact v_iret o rfl hr dX4_stateBehindLetter_89 h
              · replace h := h.2 c1_122
                have D1 : V p l e rmX4_stateBehindLetter s m args below meth c 1 G (frA P sz) (MQ below (QcI G P sz K) args s 0 0 (frA P sz)) 0 0 P [(0, .int p0)] [] 90 f := by
                  refine v_iconst o (v := (-1)) dX4_stateBehindLetter_90 (by decide) ?_
                  exact v_iret o rfl hr dX4_stateBehindLetter_91 h
                have E1 : (p0).toInt < 106 ∨ 122 < (p0).toInt ∨ (p0).toInt = 107 ∨ (p0).toInt = 110 ∨ (p0).toInt = 111 ∨ (p0).toInt = 112 ∨ (p0).toInt = 113 ∨ (p0).toInt = 115 ∨ (p0).toInt = 117 ∨ (p0).toInt = 118 ∨ (p0).toInt = 119 ∨ (p0).toInt = 121 := by have q0 := lv_neT c1_106 (a := 106) (by decide); have q1 := lv_neT c1_108 (a := 108) (by decide); have q2 := lv_neT c1_109 (a := 109) (by decide); have q3 := lv_neT c1_114 (a := 114) (by decide); have q4 := lv_neT c1_116 (a := 116) (by decide); have q5 := lv_neT c1_120 (a := 120) (by decide); have q6 := lv_neT c1_122 (a := 122) (by decide); omega
                rcases E1 with E | E | E | E | E | E | E | E | E | E | E | E
                · exact v_tableOut o (tgt := 90) dX4_stateBehindLetter_1 (Or.inl E) (by decide) D1
                · exact v_tableOut o (tgt := 90) dX4_stateBehindLetter_1 (Or.inr E) (by decide) D1
                · exact v_tableIn o (off := 89) (tgt := 90) dX4_stateBehindLetter_1 (by rw [E]; decide) (by rw [E]; decide) (by rw [E]; decide) (by decide) D1
                · exact v_tableIn o (off := 89) (tgt := 90) dX4_stateBehindLetter_1 (by rw [E]; decide) (by rw [E]; decide) (by rw [E]; decide) (by decide) D1
                · exact v_tableIn o (off := 89) (tgt := 90) dX4_stateBehindLetter_1 (by rw [E]; decide) (by rw [E]; decide) (by rw [E]; decide) (by decide) D1
                · exact v_tableIn o (off := 89) (tgt := 90) dX4_stateBehindLetter_1 (by rw [E]; decide) (by rw [E]; decide) (by rw [E]; decide) (by decide) D1
                · exact v_tableIn o (off := 89) (tgt := 90) dX4_stateBehindLetter_1 (by rw [E]; decide) (by rw [E]; decide) (by rw [E]; decide) (by decide) D1
                · exact v_tableIn o (off := 89) (tgt := 90) dX4_stateBehindLetter_1 (by rw [E]; decide) (by rw [E]; decide) (by rw [E]; decide) (by decide) D1
                · exact v_tableIn o (off := 89) (tgt := 90) dX4_stateBehindLetter_1 (by rw [E]; decide) (by rw [E]; decide) (by rw [E]; decide) (by decide) D1
                · exact v_tableIn o (off := 89) (tgt := 90) dX4_stateBehindLetter_1 (by rw [E]; decide) (by rw [E]; decide) (by rw [E]; decide) (by decide) D1
                · exact v_tableIn o (off := 89) (tgt := 90) dX4_stateBehindLetter_1 (by rw [E]; decide) (by rw [E]; decide) (by rw [E]; decide) (by decide) D1
                · exact v_tableIn o (off := 89) (tgt := 90) dX4_stateBehindLetter_1 (by rw [E]; decide) (by rw [E]; decide) (by rw [E]; decide) (by decide) D1
abbrev kX4_stateBehindLetter := @vX4_stateBehindLetter
abbrev metX4_stateBehindLetter := @mX4_stateBehindLetter
theorem u4_letter {P : Sk} {f : St} {c : Nat} {K : Int32 → St → Prop} (hc : c < 128) (hK : K (si (stF 0 c)) f) : kX4_stateBehindLetter P f (nI c) K := by
  show vX4_stateBehindLetter P f (nI c) K
  unfold vX4_stateBehindLetter
  have e : stF 0 c = if c = 106 then 5 else if c = 108 ∨ c = 109 ∨ c = 114 ∨ c = 116 ∨ c = 122 then 1 else if c = 120 then 2 else 8 := rfl
  rw [e] at hK
  rw [show (106 : Int32) = nI 106 from rfl, show (108 : Int32) = nI 108 from rfl, show (109 : Int32) = nI 109 from rfl, show (114 : Int32) = nI 114 from rfl, show (116 : Int32) = nI 116 from rfl, show (120 : Int32) = nI 120 from rfl, show (122 : Int32) = nI 122 from rfl]
  have w : ∀ k, k < 2 ^ 31 → (nI c = nI k ↔ c = k) := fun k hk => nI_eq (by omega) hk
  rw [w 106 (by decide), w 108 (by decide), w 109 (by decide), w 114 (by decide), w 116 (by decide), w 120 (by decide), w 122 (by decide)]
  refine ⟨fun q => ?_, fun q0 => ⟨fun q => ?_, fun q1 => ⟨fun q => ?_, fun q2 => ⟨fun q => ?_, fun q3 => ⟨fun q => ?_, fun q4 => ⟨fun q => ?_, fun q5 => ⟨fun q => ?_, fun q6 => ?_⟩⟩⟩⟩⟩⟩⟩
  · rw [if_pos q] at hK
    exact hK
  · rw [if_neg q0, if_pos (by omega)] at hK
    exact hK
  · rw [if_neg q0, if_pos (by omega)] at hK
    exact hK
  · rw [if_neg q0, if_pos (by omega)] at hK
    exact hK
  · rw [if_neg q0, if_pos (by omega)] at hK
    exact hK
  · rw [if_neg q0, if_neg (by omega), if_pos q] at hK
    exact hK
  · rw [if_neg q0, if_pos (by omega)] at hK
    exact hK
  · rw [if_neg q0, if_neg (by omega), if_neg q5] at hK
    exact hK

def vX4_isLoafDigit (P : Sk) (f : St) (p0 : Int32) (K : Int32 → St → Prop) : Prop :=
  kX4_isBetween P f p0 48 53 (fun r5 g5 => (r5 = 0 ∨ r5 = 1) ∧ K r5 g5)
set_option maxRecDepth 20000 in
set_option maxHeartbeats 4000000 in
theorem mX4_isLoafDigit (l : Launch) (G : Gl) (P : Sk) (f : St) (sz : Nat) (p0 : Int32) (K : Int32 → St → Prop) (h : vX4_isLoafDigit P f p0 K)  :
  Met l yX4_isLoafDigit (wU yX4_isLoafDigit cX4_isLoafDigit 1 (some .boolean)) rmX4_isLoafDigit (PcW G P f sz [.int p0]) (QcI G P sz K) 0 0 (frA P sz) := by
  refine v_met (own := RX4) [.int p0] (by decide +kernel) rfl (Nat.le_of_ble_eq_true rfl) (fun p e s m args below meth c hsz o hr hnm => ?_)
  refine v_lv (lv2 := [(0, .int p0)]) rfl ?_
  unfold vX4_isLoafDigit at h
  refine v_iload_n o 0 dX4_isLoafDigit_0 rfl ?_
  refine v_bipush o (v := 48) dX4_isLoafDigit_1 (by decide) ?_
  refine v_bipush o (v := 53) dX4_isLoafDigit_3 (by decide) ?_
  refine v_cSi o [.int p0, .int 48, .int 53] [] (fun sz => metX4_isBetween l G P f sz p0 48 53 _ h) (cwX4_43 o.1.2.2.2.2 (by decide)) rfl (Nat.le_of_ble_eq_true rfl) ⟨Nat.le_of_ble_eq_true rfl, Nat.le_of_ble_eq_true rfl⟩ dX4_isLoafDigit_5 rfl (fun r5 g5 h => ?_)
  exact v_zret o rfl hr (bzz h.1).1 dX4_isLoafDigit_8 h.2
abbrev kX4_isLoafDigit := @vX4_isLoafDigit
abbrev metX4_isLoafDigit := @mX4_isLoafDigit
theorem u4_isLoafDigit {P : Sk} {f : St} {c : Nat} {K : Int32 → St → Prop} (hc : c < 2 ^ 31) (hK1 : 48 ≤ c ∧ c ≤ 53 → K 1 f) (hK0 : ¬ (48 ≤ c ∧ c ≤ 53) → K 0 f) : kX4_isLoafDigit P f (nI c) K := by
  show vX4_isLoafDigit P f (nI c) K
  unfold vX4_isLoafDigit
  exact u4_isBetween (x := 48) (y := 53) hc (by decide) (by decide) (fun h1 h2 => ⟨Or.inr rfl, hK1 ⟨h1, h2⟩⟩) (fun h => ⟨Or.inl rfl, hK0 h⟩)

def vX4_stateBehind (P : Sk) (f : St) (p0 : Int32) (p1 : Int32) (K : Int32 → St → Prop) : Prop :=
  (p0 = 0 → kX4_stateBehindLetter P f p1 (fun r49 g49 => K r49 g49)) ∧ (¬ p0 = 0 → (p0 = 1 → kX4_isLoafDigit P f p1 (fun r54 g54 => (r54 = 0 → K (-1) g54) ∧ (¬ r54 = 0 → K 7 g54))) ∧ (¬ p0 = 1 → (p0 = 2 → kX4_isLoafDigit P f p1 (fun r68 g68 => (r68 = 0 → K (-1) g68) ∧ (¬ r68 = 0 → K 3 g68))) ∧ (¬ p0 = 2 → (p0 = 3 → kX4_isBetween P f p1 97 102 (fun r85 g85 => (r85 = 0 → K (-1) g85) ∧ (¬ r85 = 0 → K 4 g85))) ∧ (¬ p0 = 3 → (p0 = 4 → kX4_isSide P f p1 (fun r98 g98 => (r98 = 0 → K (-1) g98) ∧ (¬ r98 = 0 → K 7 g98))) ∧ (¬ p0 = 4 → (p0 = 5 → kX4_isLoafDigit P f p1 (fun r112 g112 => (r112 = 0 → K (-1) g112) ∧ (¬ r112 = 0 → K 6 g112))) ∧ (¬ p0 = 5 → (p0 = 6 → (¬ p1 = 47 → K (-1) f) ∧ (p1 = 47 → K 1 f)) ∧ (¬ p0 = 6 → (p0 = 7 → (¬ p1 = 59 → K (-1) f) ∧ (p1 = 59 → K 0 f)) ∧ (¬ p0 = 7 → K (-1) f))))))))
set_option maxRecDepth 20000 in
set_option maxHeartbeats 4000000 in
theorem mX4_stateBehind (l : Launch) (G : Gl) (P : Sk) (f : St) (sz : Nat) (p0 : Int32) (p1 : Int32) (K : Int32 → St → Prop) (h : vX4_stateBehind P f p0 p1 K)  :
  Met l yX4_stateBehind (wU yX4_stateBehind cX4_stateBehind 2 (some .int)) rmX4_stateBehind (PcW G P f sz [.int p0, .int p1]) (QcI G P sz K) 0 0 (frA P sz) := by
  refine v_met (own := RX4) [.int p0, .int p1] (by decide +kernel) rfl (Nat.le_of_ble_eq_true rfl) (fun p e s m args below meth c hsz o hr hnm => ?_)
  refine v_lv (lv2 := [(0, .int p0), (1, .int p1)]) rfl ?_
  unfold vX4_stateBehind at h
  refine v_iload_n o 0 dX4_stateBehind_0 rfl ?_
  by_cases c1_0 : p0 = 0
  · replace h := h.1 c1_0
    refine v_tableIn o (off := 47) (tgt := 48) dX4_stateBehind_1 (by rw [c1_0]; decide) (by rw [c1_0]; decide) (by rw [c1_0]; decide) (by decide) ?_
    refine v_iload_n o 1 dX4_stateBehind_48 rfl ?_
    refine v_cSi o [.int p1] [] (fun sz => metX4_stateBehindLetter l G P f sz p1 _ h) (cwX4_72 o.1.2.2.2.2 (by decide)) rfl (Nat.le_of_ble_eq_true rfl) ⟨Nat.le_of_ble_eq_true rfl, Nat.le_of_ble_eq_true rfl⟩ dX4_stateBehind_49 rfl (fun r49 g49 h => ?_)
    exact v_iret o rfl hr dX4_stateBehind_52 h
  · replace h := h.2 c1_0
    by_cases c1_1 : p0 = 1
    · replace h := h.1 c1_1
      refine v_tableIn o (off := 52) (tgt := 53) dX4_stateBehind_1 (by rw [c1_1]; decide) (by rw [c1_1]; decide) (by rw [c1_1]; decide) (by decide) ?_
      refine v_iload_n o 1 dX4_stateBehind_53 rfl ?_
      refine v_cSi o [.int p1] [] (fun sz => metX4_isLoafDigit l G P f sz p1 _ h) (cwX4_75 o.1.2.2.2.2 (by decide)) rfl (Nat.le_of_ble_eq_true rfl) ⟨Nat.le_of_ble_eq_true rfl, Nat.le_of_ble_eq_true rfl⟩ dX4_stateBehind_54 rfl (fun r54 g54 h => ?_)
      refine v_if_eq o (tgt := 65) dX4_stateBehind_57 (by decide) (fun c57 => ?_) (fun c57 => ?_)
      · replace h := h.1 c57
        refine v_iconst o (v := (-1)) dX4_stateBehind_65 (by decide) ?_
        exact v_iret o rfl hr dX4_stateBehind_66 h
      · replace h := h.2 c57
        refine v_bipush o (v := 7) dX4_stateBehind_60 (by decide) ?_
        refine v_goto o (tgt := 66) dX4_stateBehind_62 (by decide) ?_
        exact v_iret o rfl hr dX4_stateBehind_66 h
    · replace h := h.2 c1_1
      by_cases c1_2 : p0 = 2
      · replace h := h.1 c1_2
        refine v_tableIn o (off := 66) (tgt := 67) dX4_stateBehind_1 (by rw [c1_2]; decide) (by rw [c1_2]; decide) (by rw [c1_2]; decide) (by decide) ?_
        refine v_iload_n o 1 dX4_stateBehind_67 rfl ?_
        refine v_cSi o [.int p1] [] (fun sz => metX4_isLoafDigit l G P f sz p1 _ h) (cwX4_75 o.1.2.2.2.2 (by decide)) rfl (Nat.le_of_ble_eq_true rfl) ⟨Nat.le_of_ble_eq_true rfl, Nat.le_of_ble_eq_true rfl⟩ dX4_stateBehind_68 rfl (fun r68 g68 h => ?_)
        refine v_if_eq o (tgt := 78) dX4_stateBehind_71 (by decide) (fun c71 => ?_) (fun c71 => ?_)
        · replace h := h.1 c71
          refine v_iconst o (v := (-1)) dX4_stateBehind_78 (by decide) ?_
          exact v_iret o rfl hr dX4_stateBehind_79 h
        · replace h := h.2 c71
          refine v_iconst o (v := 3) dX4_stateBehind_74 (by decide) ?_
          refine v_goto o (tgt := 79) dX4_stateBehind_75 (by decide) ?_
          exact v_iret o rfl hr dX4_stateBehind_79 h
      · replace h := h.2 c1_2
        by_cases c1_3 : p0 = 3
        · replace h := h.1 c1_3
          refine v_tableIn o (off := 79) (tgt := 80) dX4_stateBehind_1 (by rw [c1_3]; decide) (by rw [c1_3]; decide) (by rw [c1_3]; decide) (by decide) ?_
          refine v_iload_n o 1 dX4_stateBehind_80 rfl ?_
          refine v_bipush o (v := 97) dX4_stateBehind_81 (by decide) ?_
          refine v_bipush o (v := 102) dX4_stateBehind_83 (by decide) ?_
          refine v_cSi o [.int p1, .int 97, .int 102] [] (fun sz => metX4_isBetween l G P f sz p1 97 102 _ h) (cwX4_43 o.1.2.2.2.2 (by decide)) rfl (Nat.le_of_ble_eq_true rfl) ⟨Nat.le_of_ble_eq_true rfl, Nat.le_of_ble_eq_true rfl⟩ dX4_stateBehind_85 rfl (fun r85 g85 h => ?_)
          refine v_if_eq o (tgt := 95) dX4_stateBehind_88 (by decide) (fun c88 => ?_) (fun c88 => ?_)
          · replace h := h.1 c88
            refine v_iconst o (v := (-1)) dX4_stateBehind_95 (by decide) ?_
            exact v_iret o rfl hr dX4_stateBehind_96 h
          · replace h := h.2 c88
            refine v_iconst o (v := 4) dX4_stateBehind_91 (by decide) ?_
            refine v_goto o (tgt := 96) dX4_stateBehind_92 (by decide) ?_
            exact v_iret o rfl hr dX4_stateBehind_96 h
        · replace h := h.2 c1_3
          by_cases c1_4 : p0 = 4
          · replace h := h.1 c1_4
            refine v_tableIn o (off := 96) (tgt := 97) dX4_stateBehind_1 (by rw [c1_4]; decide) (by rw [c1_4]; decide) (by rw [c1_4]; decide) (by decide) ?_
            refine v_iload_n o 1 dX4_stateBehind_97 rfl ?_
            refine v_cSi o [.int p1] [] (fun sz => metX4_isSide l G P f sz p1 _ h) (cwX4_50 o.1.2.2.2.2 (by decide)) rfl (Nat.le_of_ble_eq_true rfl) ⟨Nat.le_of_ble_eq_true rfl, Nat.le_of_ble_eq_true rfl⟩ dX4_stateBehind_98 rfl (fun r98 g98 h => ?_)
            refine v_if_eq o (tgt := 109) dX4_stateBehind_101 (by decide) (fun c101 => ?_) (fun c101 => ?_)
            · replace h := h.1 c101
              refine v_iconst o (v := (-1)) dX4_stateBehind_109 (by decide) ?_
              exact v_iret o rfl hr dX4_stateBehind_110 h
            · replace h := h.2 c101
              refine v_bipush o (v := 7) dX4_stateBehind_104 (by decide) ?_
              refine v_goto o (tgt := 110) dX4_stateBehind_106 (by decide) ?_
              exact v_iret o rfl hr dX4_stateBehind_110 h
          · replace h := h.2 c1_4
            by_cases c1_5 : p0 = 5
            · replace h := h.1 c1_5
              refine v_tableIn o (off := 110) (tgt := 111) dX4_stateBehind_1 (by rw [c1_5]; decide) (by rw [c1_5]; decide) (by rw [c1_5]; decide) (by decide) ?_
              refine v_iload_n o 1 dX4_stateBehind_111 rfl ?_
              refine v_cSi o [.int p1] [] (fun sz => metX4_isLoafDigit l G P f sz p1 _ h) (cwX4_75 o.1.2.2.2.2 (by decide)) rfl (Nat.le_of_ble_eq_true rfl) ⟨Nat.le_of_ble_eq_true rfl, Nat.le_of_ble_eq_true rfl⟩ dX4_stateBehind_112 rfl (fun r112 g112 h => ?_)
              refine v_if_eq o (tgt := 123) dX4_stateBehind_115 (by decide) (fun c115 => ?_) (fun c115 => ?_)
              · replace h := h.1 c115
                refine v_iconst o (v := (-1)) dX4_stateBehind_123 (by decide) ?_
                exact v_iret o rfl hr dX4_stateBehind_124 h
              · replace h := h.2 c115
                refine v_bipush o (v := 6) dX4_stateBehind_118 (by decide) ?_
                refine v_goto o (tgt := 124) dX4_stateBehind_120 (by decide) ?_
                exact v_iret o rfl hr dX4_stateBehind_124 h
            · replace h := h.2 c1_5
              by_cases c1_6 : p0 = 6
              · replace h := h.1 c1_6
                refine v_tableIn o (off := 124) (tgt := 125) dX4_stateBehind_1 (by rw [c1_6]; decide) (by rw [c1_6]; decide) (by rw [c1_6]; decide) (by decide) ?_
                refine v_iload_n o 1 dX4_stateBehind_125 rfl ?_
                refine v_bipush o (v := 47) dX4_stateBehind_126 (by decide) ?_
                refine v_icmp_ne o (tgt := 135) dX4_stateBehind_128 (by decide) (fun c128 => ?_) (fun c128 => ?_)
                · replace h := h.1 c128
                  refine v_iconst o (v := (-1)) dX4_stateBehind_135 (by decide) ?_
                  exact v_iret o rfl hr dX4_stateBehind_136 h
                · replace h := h.2 c128
                  refine v_iconst o (v := 1) dX4_stateBehind_131 (by decide) ?_
                  refine v_goto o (tgt := 136) dX4_stateBehind_132 (by decide) ?_
                  exact v_iret o rfl hr dX4_stateBehind_136 h
              · replace h := h.2 c1_6
                by_cases c1_7 : p0 = 7
                · replace h := h.1 c1_7
                  refine v_tableIn o (off := 136) (tgt := 137) dX4_stateBehind_1 (by rw [c1_7]; decide) (by rw [c1_7]; decide) (by rw [c1_7]; decide) (by decide) ?_
                  refine v_iload_n o 1 dX4_stateBehind_137 rfl ?_
                  refine v_bipush o (v := 59) dX4_stateBehind_138 (by decide) ?_
                  refine v_icmp_ne o (tgt := 147) dX4_stateBehind_140 (by decide) (fun c140 => ?_) (fun c140 => ?_)
                  · replace h := h.1 c140
                    refine v_iconst o (v := (-1)) dX4_stateBehind_147 (by decide) ?_
                    exact v_iret o rfl hr dX4_stateBehind_148 h
                  · replace h := h.2 c140
                    refine v_iconst o (v := 0) dX4_stateBehind_143 (by decide) ?_
                    refine v_goto o (tgt := 148) dX4_stateBehind_144 (by decide) ?_
                    exact v_iret o rfl hr dX4_stateBehind_148 h
                · replace h := h.2 c1_7
                  refine v_tableOut o (tgt := 149) dX4_stateBehind_1 (by have q0 := lv_neT c1_0 (a := 0) (by decide); have q1 := lv_neT c1_1 (a := 1) (by decide); have q2 := lv_neT c1_2 (a := 2) (by decide); have q3 := lv_neT c1_3 (a := 3) (by decide); have q4 := lv_neT c1_4 (a := 4) (by decide); have q5 := lv_neT c1_5 (a := 5) (by decide); have q6 := lv_neT c1_6 (a := 6) (by decide); have q7 := lv_neT c1_7 (a := 7) (by decide); omega) (by decide) ?_
                  refine v_iconst o (v := (-1)) dX4_stateBehind_149 (by decide) ?_
                  exact v_iret o rfl hr dX4_stateBehind_150 h
abbrev kX4_stateBehind := @vX4_stateBehind
abbrev metX4_stateBehind := @mX4_stateBehind
theorem u4_stateBehind {P : Sk} {f : St} {s c : Nat} {K : Int32 → St → Prop} (hs : s ≤ 8) (hc : c < 128) (hK : K (si (stF s c)) f) : kX4_stateBehind P f (si s) (nI c) K := by
  show vX4_stateBehind P f (si s) (nI c) K
  unfold vX4_stateBehind
  have w : ∀ k, k < 8 → ∀ s, s ≤ 8 → (si s = nI k ↔ s = k) := by decide +kernel
  have e0 : ∀ (p : Prop), (si s = 0 → p) ↔ (s = 0 → p) := fun p => by rw [show (0 : Int32) = nI 0 from rfl, w 0 (by decide) s hs]
  have hl := hc
  rw [show (0 : Int32) = nI 0 from rfl, show (1 : Int32) = nI 1 from rfl, show (2 : Int32) = nI 2 from rfl, show (3 : Int32) = nI 3 from rfl, show (4 : Int32) = nI 4 from rfl, show (5 : Int32) = nI 5 from rfl, show (6 : Int32) = nI 6 from rfl, show (7 : Int32) = nI 7 from rfl, w 0 (by decide) s hs, w 1 (by decide) s hs, w 2 (by decide) s hs, w 3 (by decide) s hs, w 4 (by decide) s hs, w 5 (by decide) s hs, w 6 (by decide) s hs, w 7 (by decide) s hs, show nI c = 47 ↔ c = 47 from nI_eq (b := 47) (by omega) (by omega), show nI c = 59 ↔ c = 59 from nI_eq (b := 59) (by omega) (by omega)]
  refine ⟨fun q => ?_, fun q0 => ⟨fun q => ?_, fun q1 => ⟨fun q => ?_, fun q2 => ⟨fun q => ?_, fun q3 => ⟨fun q => ?_, fun q4 => ⟨fun q => ?_, fun q5 => ⟨fun q => ?_, fun q6 => ⟨fun q => ?_, fun q7 => ?_⟩⟩⟩⟩⟩⟩⟩⟩
  · subst q
    exact u4_letter hc hK
  · subst q
    have e : stF 1 c = if 48 ≤ c ∧ c ≤ 53 then 7 else 8 := rfl
    rw [e] at hK
    exact u4_isLoafDigit (by omega) (fun h => ⟨fun q => absurd q (by decide), fun _ => by rw [if_pos h] at hK; exact hK⟩) (fun h => ⟨fun _ => by rw [if_neg h] at hK; exact hK, fun q => absurd rfl q⟩)
  · subst q
    have e : stF 2 c = if 48 ≤ c ∧ c ≤ 53 then 3 else 8 := rfl
    rw [e] at hK
    exact u4_isLoafDigit (by omega) (fun h => ⟨fun q => absurd q (by decide), fun _ => by rw [if_pos h] at hK; exact hK⟩) (fun h => ⟨fun _ => by rw [if_neg h] at hK; exact hK, fun q => absurd rfl q⟩)
  · subst q
    have e : stF 3 c = if 97 ≤ c ∧ c ≤ 102 then 4 else 8 := rfl
    rw [e] at hK
    exact u4_isBetween (x := 97) (y := 102) (by omega) (by omega) (by omega) (fun h1 h2 => ⟨fun q => absurd q (by decide), fun _ => by rw [if_pos ⟨h1, h2⟩] at hK; exact hK⟩) (fun h => ⟨fun _ => by rw [if_neg h] at hK; exact hK, fun q => absurd rfl q⟩)
  · subst q
    have e : stF 4 c = if c = 43 ∨ c = 45 then 7 else 8 := rfl
    rw [e] at hK
    exact u4_isSide (by omega) (fun h => ⟨fun q => absurd q (by decide), fun _ => by rw [if_pos h] at hK; exact hK⟩) (fun h => ⟨fun _ => by rw [if_neg h] at hK; exact hK, fun q => absurd rfl q⟩)
  · subst q
    have e : stF 5 c = if 48 ≤ c ∧ c ≤ 53 then 6 else 8 := rfl
    rw [e] at hK
    exact u4_isLoafDigit (by omega) (fun h => ⟨fun q => absurd q (by decide), fun _ => by rw [if_pos h] at hK; exact hK⟩) (fun h => ⟨fun _ => by rw [if_neg h] at hK; exact hK, fun q => absurd rfl q⟩)
  · subst q
    have e : stF 6 c = if c = 47 then 1 else 8 := rfl
    rw [e] at hK
    refine ⟨fun h => ?_, fun h => ?_⟩
    · rw [if_neg h] at hK
      exact hK
    · rw [if_pos h] at hK
      exact hK
  · subst q
    have e : stF 7 c = if c = 59 then 0 else 8 := rfl
    rw [e] at hK
    refine ⟨fun h => ?_, fun h => ?_⟩
    · rw [if_neg h] at hK
      exact hK
    · rw [if_pos h] at hK
      exact hK
  · have h8 : s = 8 := by omega
    subst h8
    exact hK

def bX4_isWorks_4 (P : Sk) (a : Nat) (L4 : St → Int32 → Int32 → Prop) (K : Int32 → St → Prop) (f : St) (x1 : Int32) (x2 : Int32) : Prop :=
  (f a 1 ≤ x2 → (¬ x1 = 7 → K 0 f) ∧ (x1 = 7 → K 1 f)) ∧ (¬ f a 1 ≤ x2 → kX4_signAt P f a x2 (fun r15 g15 => kX4_stateBehind P g15 x1 r15 (fun r18 g18 => ∀ x2_22 : Int32, x2_22 = x2 + 1 → L4 g18 r18 x2_22)))
def vX4_isWorks (P : Sk) (f : St) (a : Nat) (L4 : St → Int32 → Int32 → Prop) (K : Int32 → St → Prop) : Prop :=
  L4 f 0 0
set_option maxRecDepth 20000 in
set_option maxHeartbeats 4000000 in
theorem mX4_isWorks (l : Launch) (G : Gl) (P : Sk) (f : St) (sz : Nat) (a : Nat) (ha : IsText P a) (K : Int32 → St → Prop) (I4 : St → Int32 → Int32 → Prop) (μ4 : St → Int32 → Int32 → Nat) 
  (h : vX4_isWorks P f a I4 K)
  (h4 : ∀ (g : St) (x1 : Int32) (x2 : Int32) , I4 g x1 x2 → bX4_isWorks_4 P a (fun g' z0 z1 => I4 g' z0 z1 ∧ μ4 g' z0 z1 < μ4 g x1 x2) K g x1 x2) :
  Met l yX4_isWorks (wU yX4_isWorks cX4_isWorks 3 (some .boolean)) rmX4_isWorks (PcW G P f sz [.ref a]) (QcI G P sz K) 0 0 (frA P sz) := by
  refine v_met (own := RX4) [.ref a] (by decide +kernel) rfl (Nat.le_of_ble_eq_true rfl) (fun p e s m args below meth c hsz o hr hnm => ?_)
  refine v_lv (lv2 := [(0, .ref a)]) rfl ?_
  have main : ∀ n : Nat, (∀ (g : St) (x1 : Int32) (x2 : Int32) , I4 g x1 x2 → μ4 g x1 x2 < n → V p l e rmX4_isWorks s m args below meth c 3 G (frA P sz) (MQ below (QcI G P sz K) args s 0 0 (frA P sz)) 0 0 P [(0, .ref a), (1, .int x1), (2, .int x2)] [] 4 g) := by
    intro n
    induction n with
    | zero => exact fun g x1 x2 hI hm => absurd hm (Nat.not_lt_zero _)
    | succ n ih =>
      intro g x1 x2 hI hm
      have h := h4 g x1 x2 hI
      clear hI
      unfold bX4_isWorks_4 at h
      refine v_iload_n o 2 dX4_isWorks_4 rfl ?_
      refine v_aload_n o 0 dX4_isWorks_5 rfl ?_
      refine v_gfI o lkX4_20 (by decide) (wfText_o ha) dX4_isWorks_6 ?_
      refine v_icmp_ge o (tgt := 28) dX4_isWorks_9 (by decide) (fun c9 => ?_) (fun c9 => ?_)
      · replace h := h.1 c9
        refine v_iload_n o 1 dX4_isWorks_28 rfl ?_
        refine v_bipush o (v := 7) dX4_isWorks_29 (by decide) ?_
        refine v_icmp_ne o (tgt := 38) dX4_isWorks_31 (by decide) (fun c31 => ?_) (fun c31 => ?_)
        · replace h := h.1 c31
          refine v_iconst o (v := 0) dX4_isWorks_38 (by decide) ?_
          exact v_zret o rfl hr bz0.1 dX4_isWorks_39 h
        · replace h := h.2 c31
          refine v_iconst o (v := 1) dX4_isWorks_34 (by decide) ?_
          refine v_goto o (tgt := 39) dX4_isWorks_35 (by decide) ?_
          exact v_zret o rfl hr bz1.1 dX4_isWorks_39 h
      · replace h := h.2 c9
        refine v_iload_n o 1 dX4_isWorks_12 rfl ?_
        refine v_aload_n o 0 dX4_isWorks_13 rfl ?_
        refine v_iload_n o 2 dX4_isWorks_14 rfl ?_
        refine v_cVi o [.int x2] [.int x1] (fun sz => metX4_signAt l G P g sz a ha x2 _ h) (cwX4_32 o.1.2.2.2.2 (by decide)) ⟨_, _, rfl⟩ (by decide) (wfText_o ha) rfl (Nat.le_of_ble_eq_true rfl) ⟨Nat.le_of_ble_eq_true rfl, Nat.le_of_ble_eq_true rfl⟩ dX4_isWorks_15 rfl (fun r15 g15 h => ?_)
        refine v_cSi o [.int x1, .int r15] [] (fun sz => metX4_stateBehind l G P g15 sz x1 r15 _ h) (cwX4_68 o.1.2.2.2.2 (by decide)) rfl (Nat.le_of_ble_eq_true rfl) ⟨Nat.le_of_ble_eq_true rfl, Nat.le_of_ble_eq_true rfl⟩ dX4_isWorks_18 rfl (fun r18 g18 h => ?_)
        refine v_istore_n o (lv' := [(1, .int r18), (0, .ref a), (2, .int x2)]) dX4_isWorks_21 rfl (by decide) rfl ?_
        obtain ⟨x2_22, ex2_22⟩ : ∃ y : Int32, y = x2 + 1 := ⟨_, rfl⟩
        replace h := h x2_22 ex2_22
        refine v_iinc o (v := x2_22) (lv' := [(2, .int x2_22), (1, .int r18), (0, .ref a)]) 2 dX4_isWorks_22 rfl (by rw [ex2_22]; rfl) (by decide) rfl ?_
        refine v_goto o (tgt := 4) dX4_isWorks_25 (by decide) ?_
        refine v_sub [2, 1, 0] (lv2 := [(0, .ref a), (1, .int r18), (2, .int x2_22)]) rfl ?_
        exact ih g18 r18 x2_22  h.1 (by have := h.2; omega)
  unfold vX4_isWorks at h
  refine v_iconst o (v := 0) dX4_isWorks_0 (by decide) ?_
  refine v_istore_n o (lv' := [(1, .int 0), (0, .ref a)]) dX4_isWorks_1 rfl (by decide) rfl ?_
  refine v_iconst o (v := 0) dX4_isWorks_2 (by decide) ?_
  refine v_istore_n o (lv' := [(2, .int 0), (1, .int 0), (0, .ref a)]) dX4_isWorks_3 rfl (by decide) rfl ?_
  refine v_sub [2, 1, 0] (lv2 := [(0, .ref a), (1, .int 0), (2, .int 0)]) rfl ?_
  exact (main (μ4 f 0 0 + 1)) f 0 0  h (Nat.lt_succ_self _)
def WX4_isWorks (P : Sk) (f : St) (a : Nat) (K : Int32 → St → Prop) : Prop := ∃ (I4 : St → Int32 → Int32 → Prop) (μ4 : St → Int32 → Int32 → Nat), (vX4_isWorks P f a I4 K) ∧ (∀ (g : St) (x1 : Int32) (x2 : Int32) , I4 g x1 x2 → bX4_isWorks_4 P a (fun g' z0 z1 => I4 g' z0 z1 ∧ μ4 g' z0 z1 < μ4 g x1 x2) K g x1 x2)
def kX4_isWorks (P : Sk) (f : St) (a : Nat) (K : Int32 → St → Prop) : Prop := ∃ b, TextIs f a b ∧ Tok b ∧ (stB b b.length = 7 → K 1 f) ∧ (¬ stB b b.length = 7 → K 0 f)
theorem wX4_isWorks (P : Sk) (f : St) (a : Nat) (ha : IsText P a) (K : Int32 → St → Prop) (h : kX4_isWorks P f a K) : WX4_isWorks P f a K := by
  obtain ⟨b, hT, hb, hK1, hK0⟩ := h
  have hl := hb.1
  refine ⟨fun g x1 x2 => ∃ k, x1 = si (stB b k) ∧ x2 = nI k ∧ g = f ∧ k ≤ b.length, fun g x1 x2 => b.length - x2.toNatClampNeg, ?_, ?_⟩
  · unfold vX4_isWorks
    exact ⟨0, rfl, rfl, rfl, Nat.zero_le _⟩
  · rintro g x1 x2 ⟨k, rfl, rfl, rfl, hk⟩
    unfold bX4_isWorks_4
    rw [hT.1, nI_leI (by omega) (by omega), si_7 _ (stB_le b k)]
    refine ⟨fun q => ?_, fun q => ?_⟩
    · rw [show k = b.length by omega]
      exact ⟨hK0, hK1⟩
    · have hc := hb.at (i := k) (by omega)
      refine u4_signAt ha hT hb (by omega) ?_
      refine u4_stateBehind (stB_le b k) (by omega) ?_
      rw [nI_1]
      exact fun x e => ⟨⟨k + 1, rfl, e, rfl, by omega⟩, mu_up e (by omega) (by omega)⟩

theorem metX4_isWorks (l : Launch) (G : Gl) (P : Sk) (f : St) (sz : Nat) (a : Nat) (ha : IsText P a) (K : Int32 → St → Prop) (h : kX4_isWorks P f a K) : Met l yX4_isWorks (wU yX4_isWorks cX4_isWorks 3 (some .boolean)) rmX4_isWorks (PcW G P f sz [.ref a]) (QcI G P sz K) 0 0 (frA P sz) := by
  obtain ⟨I4, μ4, qh, qh4⟩ := wX4_isWorks P f a ha K h
  exact mX4_isWorks l G P f sz a ha K I4 μ4 qh qh4

def jX4_parts_28 (P : Sk) (a : Nat) (L4 : St → Int32 → Int32 → Prop) (K : Int32 → St → Prop) (x1 : Int32) (x2 : Int32) (y0 : Int32) (y1 : Int32) (f : St) : Prop :=
  ∀ x1_29 : Int32, x1_29 = y0 + y1 → ∀ x2_30 : Int32, x2_30 = x2 + 1 → L4 f x1_29 x2_30
def bX4_parts_4 (P : Sk) (a : Nat) (L4 : St → Int32 → Int32 → Prop) (K : Int32 → St → Prop) (f : St) (x1 : Int32) (x2 : Int32) : Prop :=
  (f a 1 ≤ x2 → K x1 f) ∧ (¬ f a 1 ≤ x2 → kX4_signAt P f a x2 (fun r15 g15 => (¬ r15 = 59 → jX4_parts_28 P a L4 K x1 x2 x1 0 g15) ∧ (r15 = 59 → jX4_parts_28 P a L4 K x1 x2 x1 1 g15)))
def vX4_parts (P : Sk) (f : St) (a : Nat) (L4 : St → Int32 → Int32 → Prop) (K : Int32 → St → Prop) : Prop :=
  L4 f 1 0
set_option maxRecDepth 20000 in
set_option maxHeartbeats 4000000 in
theorem mX4_parts (l : Launch) (G : Gl) (P : Sk) (f : St) (sz : Nat) (a : Nat) (ha : IsText P a) (K : Int32 → St → Prop) (I4 : St → Int32 → Int32 → Prop) (μ4 : St → Int32 → Int32 → Nat) 
  (h : vX4_parts P f a I4 K)
  (h4 : ∀ (g : St) (x1 : Int32) (x2 : Int32) , I4 g x1 x2 → bX4_parts_4 P a (fun g' z0 z1 => I4 g' z0 z1 ∧ μ4 g' z0 z1 < μ4 g x1 x2) K g x1 x2) :
  Met l yX4_parts (wU yX4_parts cX4_parts 3 (some .int)) rmX4_parts (PcW G P f sz [.ref a]) (QcI G P sz K) 0 0 (frA P sz) := by
  refine v_met (own := RX4) [.ref a] (by decide +kernel) rfl (Nat.le_of_ble_eq_true rfl) (fun p e s m args below meth c hsz o hr hnm => ?_)
  refine v_lv (lv2 := [(0, .ref a)]) rfl ?_
  have main : ∀ n : Nat, (∀ (g : St) (x1 : Int32) (x2 : Int32) , I4 g x1 x2 → μ4 g x1 x2 < n → V p l e rmX4_parts s m args below meth c 3 G (frA P sz) (MQ below (QcI G P sz K) args s 0 0 (frA P sz)) 0 0 P [(0, .ref a), (1, .int x1), (2, .int x2)] [] 4 g) := by
    intro n
    induction n with
    | zero => exact fun g x1 x2 hI hm => absurd hm (Nat.not_lt_zero _)
    | succ n ih =>
      intro g x1 x2 hI hm
      have h := h4 g x1 x2 hI
      clear hI
      have J28 : ∀ (x1_28 : Int32) (x2_28 : Int32) (y0_28 : Int32) (y1_28 : Int32) (g28 : St), jX4_parts_28 P a (fun g' z0 z1 => I4 g' z0 z1 ∧ μ4 g' z0 z1 < μ4 g x1 x2) K x1_28 x2_28 y0_28 y1_28 g28 → V p l e rmX4_parts s m args below meth c 3 G (frA P sz) (MQ below (QcI G P sz K) args s 0 0 (frA P sz)) 0 0 P [(0, .ref a), (1, .int x1_28), (2, .int x2_28)] [.int y1_28, .int y0_28] 28 g28 := by
        intro x1_28 x2_28 y0_28 y1_28 g28  h
        unfold jX4_parts_28 at h
        refine v_iadd o dX4_parts_28 ?_
        refine v_topi (fun x1_29 ex1_29 => ?_)
        replace h := h x1_29 ex1_29
        refine v_istore_n o (lv' := [(1, .int x1_29), (0, .ref a), (2, .int x2_28)]) dX4_parts_29 rfl (by decide) rfl ?_
        obtain ⟨x2_30, ex2_30⟩ : ∃ y : Int32, y = x2_28 + 1 := ⟨_, rfl⟩
        replace h := h x2_30 ex2_30
        refine v_iinc o (v := x2_30) (lv' := [(2, .int x2_30), (1, .int x1_29), (0, .ref a)]) 2 dX4_parts_30 rfl (by rw [ex2_30]; rfl) (by decide) rfl ?_
        refine v_goto o (tgt := 4) dX4_parts_33 (by decide) ?_
        refine v_sub [2, 1, 0] (lv2 := [(0, .ref a), (1, .int x1_29), (2, .int x2_30)]) rfl ?_
        exact ih g28 x1_29 x2_30  h.1 (by have := h.2; omega)
      unfold bX4_parts_4 at h
      refine v_iload_n o 2 dX4_parts_4 rfl ?_
      refine v_aload_n o 0 dX4_parts_5 rfl ?_
      refine v_gfI o lkX4_20 (by decide) (wfText_o ha) dX4_parts_6 ?_
      refine v_icmp_ge o (tgt := 36) dX4_parts_9 (by decide) (fun c9 => ?_) (fun c9 => ?_)
      · replace h := h.1 c9
        refine v_iload_n o 1 dX4_parts_36 rfl ?_
        exact v_iret o rfl hr dX4_parts_37 h
      · replace h := h.2 c9
        refine v_iload_n o 1 dX4_parts_12 rfl ?_
        refine v_aload_n o 0 dX4_parts_13 rfl ?_
        refine v_iload_n o 2 dX4_parts_14 rfl ?_
        refine v_cVi o [.int x2] [.int x1] (fun sz => metX4_signAt l G P g sz a ha x2 _ h) (cwX4_32 o.1.2.2.2.2 (by decide)) ⟨_, _, rfl⟩ (by decide) (wfText_o ha) rfl (Nat.le_of_ble_eq_true rfl) ⟨Nat.le_of_ble_eq_true rfl, Nat.le_of_ble_eq_true rfl⟩ dX4_parts_15 rfl (fun r15 g15 h => ?_)
        refine v_bipush o (v := 59) dX4_parts_18 (by decide) ?_
        refine v_icmp_ne o (tgt := 27) dX4_parts_20 (by decide) (fun c20 => ?_) (fun c20 => ?_)
        · replace h := h.1 c20
          refine v_iconst o (v := 0) dX4_parts_27 (by decide) ?_
          refine v_sub [0, 1, 2] (lv2 := [(0, .ref a), (1, .int x1), (2, .int x2)]) rfl ?_
          exact J28 x1 x2 x1 0 g15  h
        · replace h := h.2 c20
          refine v_iconst o (v := 1) dX4_parts_23 (by decide) ?_
          refine v_goto o (tgt := 28) dX4_parts_24 (by decide) ?_
          refine v_sub [0, 1, 2] (lv2 := [(0, .ref a), (1, .int x1), (2, .int x2)]) rfl ?_
          exact J28 x1 x2 x1 1 g15  h
  unfold vX4_parts at h
  refine v_iconst o (v := 1) dX4_parts_0 (by decide) ?_
  refine v_istore_n o (lv' := [(1, .int 1), (0, .ref a)]) dX4_parts_1 rfl (by decide) rfl ?_
  refine v_iconst o (v := 0) dX4_parts_2 (by decide) ?_
  refine v_istore_n o (lv' := [(2, .int 0), (1, .int 1), (0, .ref a)]) dX4_parts_3 rfl (by decide) rfl ?_
  refine v_sub [2, 1, 0] (lv2 := [(0, .ref a), (1, .int 1), (2, .int 0)]) rfl ?_
  exact (main (μ4 f 1 0 + 1)) f 1 0  h (Nat.lt_succ_self _)
def WX4_parts (P : Sk) (f : St) (a : Nat) (K : Int32 → St → Prop) : Prop := ∃ (I4 : St → Int32 → Int32 → Prop) (μ4 : St → Int32 → Int32 → Nat), (vX4_parts P f a I4 K) ∧ (∀ (g : St) (x1 : Int32) (x2 : Int32) , I4 g x1 x2 → bX4_parts_4 P a (fun g' z0 z1 => I4 g' z0 z1 ∧ μ4 g' z0 z1 < μ4 g x1 x2) K g x1 x2)
/-- how many parts begin up to a place: one more than the signs ";" before it -/
def pcF (b : List Nat) : Nat → Nat
  | 0 => 1
  | k + 1 => pcF b k + (if b.getD k 0 = 59 then 1 else 0)
theorem pcF_le (b : List Nat) : ∀ k, pcF b k ≤ k + 1
  | 0 => Nat.le_refl _
  | k + 1 => by
    have := pcF_le b k
    show pcF b k + (if b.getD k 0 = 59 then 1 else 0) ≤ _
    split <;> omega
theorem pcF_mono (b : List Nat) (k : Nat) : ∀ m, pcF b k ≤ pcF b (k + m)
  | 0 => Nat.le_refl _
  | m + 1 => by
    have := pcF_mono b k m
    show _ ≤ pcF b (k + m) + (if b.getD (k + m) 0 = 59 then 1 else 0)
    omega
def kX4_parts (P : Sk) (f : St) (a : Nat) (K : Int32 → St → Prop) : Prop := ∃ b, TextIs f a b ∧ Tok b ∧ K (nI (pcF b b.length)) f
theorem wX4_parts (P : Sk) (f : St) (a : Nat) (ha : IsText P a) (K : Int32 → St → Prop) (h : kX4_parts P f a K) : WX4_parts P f a K := by
  obtain ⟨b, hT, hb, hK⟩ := h
  have hl := hb.1
  refine ⟨fun g x1 x2 => ∃ k, x1 = nI (pcF b k) ∧ x2 = nI k ∧ g = f ∧ k ≤ b.length, fun g x1 x2 => b.length - x2.toNatClampNeg, ?_, ?_⟩
  · unfold vX4_parts
    exact ⟨0, rfl, rfl, rfl, Nat.zero_le _⟩
  · rintro g x1 x2 ⟨k, rfl, rfl, rfl, hk⟩
    unfold bX4_parts_4
    rw [hT.1, nI_leI (by omega) (by omega)]
    refine ⟨fun q => ?_, fun q => ?_⟩
    · rw [show k = b.length by omega]
      exact hK
    · have hc := hb.at (i := k) (by omega)
      refine u4_signAt ha hT hb (by omega) ?_
      change _ ∧ _
      have e : pcF b (k + 1) = pcF b k + (if b.getD k 0 = 59 then 1 else 0) := rfl
      rw [show (59 : Int32) = nI 59 from rfl, nI_eq (by omega) (by omega)]
      unfold jX4_parts_28
      refine ⟨fun q2 y ey x ex => ?_, fun q2 y ey x ex => ?_⟩
      · rw [nI_1] at ex
        rw [show (0 : Int32) = nI 0 from rfl, nI_add] at ey
        refine ⟨⟨k + 1, ?_, ex, rfl, by omega⟩, mu_up ex (by omega) (by omega)⟩
        rw [ey, e, if_neg q2]
      · rw [nI_1] at ex
        rw [nI_1] at ey
        refine ⟨⟨k + 1, ?_, ex, rfl, by omega⟩, mu_up ex (by omega) (by omega)⟩
        rw [ey, e, if_pos q2]

theorem metX4_parts (l : Launch) (G : Gl) (P : Sk) (f : St) (sz : Nat) (a : Nat) (ha : IsText P a) (K : Int32 → St → Prop) (h : kX4_parts P f a K) : Met l yX4_parts (wU yX4_parts cX4_parts 3 (some .int)) rmX4_parts (PcW G P f sz [.ref a]) (QcI G P sz K) 0 0 (frA P sz) := by
  obtain ⟨I4, μ4, qh, qh4⟩ := wX4_parts P f a ha K h
  exact mX4_parts l G P f sz a ha K I4 μ4 qh qh4

def vX4_partSize (P : Sk) (f : St) (a : Nat) (p1 : Int32) (K : Int32 → St → Prop) : Prop :=
  kX4_signAt P f a p1 (fun r2 g2 => (r2 = 120 → K 4 g2) ∧ (¬ r2 = 120 → (¬ r2 = 106 → K 2 g2) ∧ (r2 = 106 → K 4 g2)))
set_option maxRecDepth 20000 in
set_option maxHeartbeats 4000000 in
theorem mX4_partSize (l : Launch) (G : Gl) (P : Sk) (f : St) (sz : Nat) (a : Nat) (ha : IsText P a) (p1 : Int32) (K : Int32 → St → Prop) (h : vX4_partSize P f a p1 K)  :
  Met l yX4_partSize (wU yX4_partSize cX4_partSize 3 (some .int)) rmX4_partSize (PcW G P f sz [.ref a, .int p1]) (QcI G P sz K) 0 0 (frA P sz) := by
  refine v_met (own := RX4) [.ref a, .int p1] (by decide +kernel) rfl (Nat.le_of_ble_eq_true rfl) (fun p e s m args below meth c hsz o hr hnm => ?_)
  refine v_lv (lv2 := [(0, .ref a), (1, .int p1)]) rfl ?_
  unfold vX4_partSize at h
  refine v_aload_n o 0 dX4_partSize_0 rfl ?_
  refine v_iload_n o 1 dX4_partSize_1 rfl ?_
  refine v_cVi o [.int p1] [] (fun sz => metX4_signAt l G P f sz a ha p1 _ h) (cwX4_32 o.1.2.2.2.2 (by decide)) ⟨_, _, rfl⟩ (by decide) (wfText_o ha) rfl (Nat.le_of_ble_eq_true rfl) ⟨Nat.le_of_ble_eq_true rfl, Nat.le_of_ble_eq_true rfl⟩ dX4_partSize_2 rfl (fun r2 g2 h => ?_)
  refine v_istore_n o (lv' := [(2, .int r2), (0, .ref a), (1, .int p1)]) dX4_partSize_5 rfl (by decide) rfl ?_
  refine v_iload_n o 0 dX4_partSize_6 rfl ?_
  refine v_bipush o (v := 120) dX4_partSize_7 (by decide) ?_
  refine v_icmp_eq o (tgt := 18) dX4_partSize_9 (by decide) (fun c9 => ?_) (fun c9 => ?_)
  · replace h := h.1 c9
    refine v_iconst o (v := 4) dX4_partSize_18 (by decide) ?_
    refine v_goto o (tgt := 23) dX4_partSize_19 (by decide) ?_
    exact v_iret o rfl hr dX4_partSize_23 h
  · replace h := h.2 c9
    refine v_iload_n o 0 dX4_partSize_12 rfl ?_
    refine v_bipush o (v := 106) dX4_partSize_13 (by decide) ?_
    refine v_icmp_ne o (tgt := 22) dX4_partSize_15 (by decide) (fun c15 => ?_) (fun c15 => ?_)
    · replace h := h.1 c15
      refine v_iconst o (v := 2) dX4_partSize_22 (by decide) ?_
      exact v_iret o rfl hr dX4_partSize_23 h
    · replace h := h.2 c15
      refine v_iconst o (v := 4) dX4_partSize_18 (by decide) ?_
      refine v_goto o (tgt := 23) dX4_partSize_19 (by decide) ?_
      exact v_iret o rfl hr dX4_partSize_23 h
abbrev kX4_partSize := @vX4_partSize
abbrev metX4_partSize := @mX4_partSize
theorem u4_partSize {P : Sk} {f : St} {a i : Nat} {b : List Nat} {K : Int32 → St → Prop} (ha : IsText P a) (hT : TextIs f a b) (hb : Tok b) (hi : i < b.length) (hK : K (nI (psz (b.getD i 0))) f) : kX4_partSize P f a (nI i) K := by
  show vX4_partSize P f a (nI i) K
  unfold vX4_partSize
  have hc := hb.at hi
  refine u4_signAt ha hT hb hi ?_
  change _ ∧ _
  rw [show (120 : Int32) = nI 120 from rfl, show (106 : Int32) = nI 106 from rfl, nI_eq (by omega) (by omega), nI_eq (by omega) (by omega)]
  unfold psz at hK
  refine ⟨fun q => ?_, fun q => ⟨fun q2 => ?_, fun q2 => ?_⟩⟩
  · rw [if_pos (Or.inl q)] at hK
    exact hK
  · rw [if_neg (fun q3 => q3.elim q q2)] at hK
    exact hK
  · rw [if_pos (Or.inr q2)] at hK
    exact hK

def vX4_howAt (P : Sk) (f : St) (a : Nat) (p1 : Int32) (K : Int32 → St → Prop) : Prop :=
  kX4_signAt P f a p1 (fun r2 g2 => (r2 = 108 → K 3 g2) ∧ (¬ r2 = 108 → (r2 = 109 → K 0 g2) ∧ (¬ r2 = 109 → (r2 = 114 → K 2 g2) ∧ (¬ r2 = 114 → (r2 = 116 → K 1 g2) ∧ (¬ r2 = 116 → K (-1) g2)))))
set_option maxRecDepth 20000 in
set_option maxHeartbeats 4000000 in
theorem mX4_howAt (l : Launch) (G : Gl) (P : Sk) (f : St) (sz : Nat) (a : Nat) (ha : IsText P a) (p1 : Int32) (K : Int32 → St → Prop) (h : vX4_howAt P f a p1 K)  :
  Met l yX4_howAt (wU yX4_howAt cX4_howAt 2 (some .int)) rmX4_howAt (PcW G P f sz [.ref a, .int p1]) (QcI G P sz K) 0 0 (frA P sz) := by
  refine v_met (own := RX4) [.ref a, .int p1] (by decide +kernel) rfl (Nat.le_of_ble_eq_true rfl) (fun p e s m args below meth c hsz o hr hnm => ?_)
  refine v_lv (lv2 := [(0, .ref a), (1, .int p1)]) rfl ?_
  unfold vX4_howAt at h
  refine v_aload_n o 0 dX4_howAt_0 rfl ?_
  refine v_iload_n o 1 dX4_howAt_1 rfl ?_
  refine v_cVi o [.int p1] [] (fun sz => metX4_signAt l G P f sz a ha p1 _ h) (cwX4_32 o.1.2.2.2.2 (by decide)) ⟨_, _, rfl⟩ (by decide) (wfText_o ha) rfl (Nat.le_of_ble_eq_true rfl) ⟨Nat.le_of_ble_eq_true rfl, Nat.le_of_ble_eq_true rfl⟩ dX4_howAt_2 rfl (fun r2 g2 h => ?_)
  by_cases c5_108 : r2 = 108
  · replace h := h.1 c5_108
    refine v_tableIn o (off := 57) (tgt := 62) dX4_howAt_5 (by rw [c5_108]; decide) (by rw [c5_108]; decide) (by rw [c5_108]; decide) (by decide) ?_
    refine v_iconst o (v := 3) dX4_howAt_62 (by decide) ?_
    exact v_iret o rfl hr dX4_howAt_63 h
  · replace h := h.2 c5_108
    by_cases c5_109 : r2 = 109
    · replace h := h.1 c5_109
      refine v_tableIn o (off := 51) (tgt := 56) dX4_howAt_5 (by rw [c5_109]; decide) (by rw [c5_109]; decide) (by rw [c5_109]; decide) (by decide) ?_
      refine v_iconst o (v := 0) dX4_howAt_56 (by decide) ?_
      exact v_iret o rfl hr dX4_howAt_57 h
    · replace h := h.2 c5_109
      by_cases c5_114 : r2 = 114
      · replace h := h.1 c5_114
        refine v_tableIn o (off := 55) (tgt := 60) dX4_howAt_5 (by rw [c5_114]; decide) (by rw [c5_114]; decide) (by rw [c5_114]; decide) (by decide) ?_
        refine v_iconst o (v := 2) dX4_howAt_60 (by decide) ?_
        exact v_iret o rfl hr dX4_howAt_61 h
      · replace h := h.2 c5_114
        by_cases c5_116 : r2 = 116
        · replace h := h.1 c5_116
          refine v_tableIn o (off := 53) (tgt := 58) dX4_howAt_5 (by rw [c5_116]; decide) (by rw [c5_116]; decide) (by rw [c5_116]; decide) (by decide) ?_
          refine v_iconst o (v := 1) dX4_howAt_58 (by decide) ?_
          exact v_iret o rfl hr dX4_howAt_59 h
        · replace h := h.2 c5_116
          have D5 : V p l e rmX4_howAt s m args below meth c 2 G (frA P sz) (MQ below (QcI G P sz K) args s 0 0 (frA P sz)) 0 0 P [(0, .ref a), (1, .int p1)] [] 64 g2 := by
            refine v_iconst o (v := (-1)) dX4_howAt_64 (by decide) ?_
            exact v_iret o rfl hr dX4_howAt_65 h
          have E5 : (r2).toInt < 108 ∨ 116 < (r2).toInt ∨ (r2).toInt = 110 ∨ (r2).toInt = 111 ∨ (r2).toInt = 112 ∨ (r2).toInt = 113 ∨ (r2).toInt = 115 := by have q0 := lv_neT c5_108 (a := 108) (by decide); have q1 := lv_neT c5_109 (a := 109) (by decide); have q2 := lv_neT c5_114 (a := 114) (by decide); have q3 := lv_neT c5_116 (a := 116) (by decide); omega
          rcases E5 with E | E | E | E | E | E | E
          · exact v_tableOut o (tgt := 64) dX4_howAt_5 (Or.inl E) (by decide) D5
          · exact v_tableOut o (tgt := 64) dX4_howAt_5 (Or.inr E) (by decide) D5
          · exact v_tableIn o (off := 59) (tgt := 64) dX4_howAt_5 (by rw [E]; decide) (by rw [E]; decide) (by rw [E]; decide) (by decide) D5
          · exact v_tableIn o (off := 59) (tgt := 64) dX4_howAt_5 (by rw [E]; decide) (by rw [E]; decide) (by rw [E]; decide) (by decide) D5
          · exact v_tableIn o (off := 59) (tgt := 64) dX4_howAt_5 (by rw [E]; decide) (by rw [E]; decide) (by rw [E]; decide) (by decide) D5
          · exact v_tableIn o (off := 59) (tgt := 64) dX4_howAt_5 (by rw [E]; decide) (by rw [E]; decide) (by rw [E]; decide) (by decide) D5
          · exact v_tableIn o (off := 59) (tgt := 64) dX4_howAt_5 (by rw [E]; decide) (by rw [E]; decide) (by rw [E]; decide) (by decide) D5
abbrev kX4_howAt := @vX4_howAt
abbrev metX4_howAt := @mX4_howAt
theorem u4_howAt {P : Sk} {f : St} {a i : Nat} {b : List Nat} {K : Int32 → St → Prop} (ha : IsText P a) (hT : TextIs f a b) (hb : Tok b) (hi : i < b.length) (hK : K (hwI (b.getD i 0)) f) : kX4_howAt P f a (nI i) K := by
  show vX4_howAt P f a (nI i) K
  unfold vX4_howAt
  have hc := hb.at hi
  refine u4_signAt ha hT hb hi ?_
  change _ ∧ _
  have w : ∀ k, k < 2 ^ 31 → (nI (b.getD i 0) = nI k ↔ b.getD i 0 = k) := fun k hk => nI_eq (by omega) hk
  rw [show (108 : Int32) = nI 108 from rfl, show (109 : Int32) = nI 109 from rfl, show (114 : Int32) = nI 114 from rfl, show (116 : Int32) = nI 116 from rfl, w 108 (by decide), w 109 (by decide), w 114 (by decide), w 116 (by decide)]
  unfold hwI at hK
  refine ⟨fun q => ?_, fun q0 => ⟨fun q => ?_, fun q1 => ⟨fun q => ?_, fun q2 => ⟨fun q => ?_, fun q3 => ?_⟩⟩⟩⟩
  · rw [if_pos q] at hK
    exact hK
  · rw [if_neg q0, if_pos q] at hK
    exact hK
  · rw [if_neg q0, if_neg q1, if_pos q] at hK
    exact hK
  · rw [if_neg q0, if_neg q1, if_neg q2, if_pos q] at hK
    exact hK
  · rw [if_neg q0, if_neg q1, if_neg q2, if_neg q3] at hK
    exact hK

