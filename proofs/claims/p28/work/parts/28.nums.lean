def bX7_firstAlike_14 (P : Sk) (a : Nat) (p1 : Int32) (L14 : St → Nat → Int32 → Prop) (K : Int32 → St → Prop) (f : St) (x2 : Nat) (x3 : Int32) : Prop :=
  (p1 ≤ x3 → K p1 f) ∧ (¬ p1 ≤ x3 → kX6_isSame P f ((atB (a + 4) x3) + 4) x2 (fun r31 g31 => (r31 = 0 → ∀ x3_39 : Int32, x3_39 = x3 + 1 → L14 g31 x2 x3_39) ∧ (¬ r31 = 0 → K x3 g31)))
def vX7_firstAlike (P : Sk) (f : St) (a : Nat) (p1 : Int32) (L14 : St → Nat → Int32 → Prop) (K : Int32 → St → Prop) : Prop :=
  L14 f ((atB (a + 4) p1) + 4) 0
set_option maxRecDepth 20000 in
set_option maxHeartbeats 4000000 in
theorem mX7_firstAlike (l : Launch) (G : Gl) (P : Sk) (f : St) (sz : Nat) (a : Nat) (ha : IsComp P a) (p1 : Int32) (K : Int32 → St → Prop) (I14 : St → Nat → Int32 → Prop) (μ14 : St → Nat → Int32 → Nat) 
  (h : vX7_firstAlike P f a p1 I14 K)
  (h14 : ∀ (g : St) (x2 : Nat) (x3 : Int32) , I14 g x2 x3 → bX7_firstAlike_14 P a p1 (fun g' z0 z1 => I14 g' z0 z1 ∧ μ14 g' z0 z1 < μ14 g x2 x3) K g x2 x3) :
  Met l yX7_firstAlike (wU yX7_firstAlike cX7_firstAlike 4 (some .int)) rmX7_firstAlike (PcW G P f sz [.ref a, .int p1]) (QcI G P sz K) 0 0 (frA P sz) := by
  refine v_met (own := RX7) [.ref a, .int p1] (by decide +kernel) rfl (Nat.le_of_ble_eq_true rfl) (fun p e s m args below meth c hsz o hr hnm => ?_)
  refine v_lv (lv2 := [(0, .ref a), (1, .int p1)]) rfl ?_
  have main : ∀ n : Nat, (∀ (g : St) (x2 : Nat) (x3 : Int32) , IsWord P x2 → I14 g x2 x3 → μ14 g x2 x3 < n → V p l e rmX7_firstAlike s m args below meth c 4 G (frA P sz) (MQ below (QcI G P sz K) args s 0 0 (frA P sz)) 0 0 P [(0, .ref a), (1, .int p1), (2, .ref x2), (3, .int x3)] [] 14 g) := by
    intro n
    induction n with
    | zero => exact fun g x2 x3 hx2 hI hm => absurd hm (Nat.not_lt_zero _)
    | succ n ih =>
      intro g x2 x3 hx2 hI hm
      have h := h14 g x2 x3 hI
      clear hI
      unfold bX7_firstAlike_14 at h
      refine v_iload_n o 3 dX7_firstAlike_14 rfl ?_
      refine v_iload_n o 1 dX7_firstAlike_15 rfl ?_
      refine v_icmp_ge o (tgt := 45) dX7_firstAlike_16 (by decide) (fun c16 => ?_) (fun c16 => ?_)
      · replace h := h.1 c16
        refine v_iload_n o 1 dX7_firstAlike_45 rfl ?_
        exact v_iret o rfl hr dX7_firstAlike_46 h
      · replace h := h.2 c16
        refine v_aload_n o 0 dX7_firstAlike_19 rfl ?_
        refine v_gfR o lkX7_19 (by decide) (wfComp_o ha) (wfComp_r1 ha) dX7_firstAlike_20 ?_
        refine v_iload_n o 3 dX7_firstAlike_23 rfl ?_
        refine v_cVr o [.int x3] [] (fun sz => metX0_at l G P g sz (a + 4) (wfComp_t1 ha) x3) (cwX7_102 o.1.2.2.2.2 (by decide)) ⟨_, _, rfl⟩ (by decide) (wfBoard_o (wfComp_t1 ha)) rfl (Nat.le_of_ble_eq_true rfl) ⟨Nat.le_of_ble_eq_true rfl, Nat.le_of_ble_eq_true rfl⟩ dX7_firstAlike_24 rfl (fun r24 g24 h24 => ?_)
        obtain ⟨rfl, rfl⟩ := h24
        refine v_cVr o [] [] (fun sz => metX2_looseWord l G P g sz (atB (a + 4) x3) (is_atB (wfComp_t1 ha) x3)) (cwX7_209 o.1.2.2.2.2 (by decide)) ⟨_, _, rfl⟩ (by decide) (wfLoaf_o (is_atB (wfComp_t1 ha) x3)) rfl (Nat.le_of_ble_eq_true rfl) ⟨Nat.le_of_ble_eq_true rfl, Nat.le_of_ble_eq_true rfl⟩ dX7_firstAlike_27 rfl (fun r27 g27 h27 => ?_)
        obtain ⟨rfl, rfl⟩ := h27
        refine v_aload_n o 2 dX7_firstAlike_30 rfl ?_
        refine v_cVi o [.ref x2] [] (fun sz => metX6_isSame l G P g sz ((atB (a + 4) x3) + 4) (wfLoaf_t1 (is_atB (wfComp_t1 ha) x3)) x2 hx2 _ h) (cwX7_334 o.1.2.2.2.2 (by decide)) ⟨_, _, rfl⟩ (by decide) (wfWord_o (wfLoaf_t1 (is_atB (wfComp_t1 ha) x3))) rfl (Nat.le_of_ble_eq_true rfl) ⟨Nat.le_of_ble_eq_true rfl, Nat.le_of_ble_eq_true rfl⟩ dX7_firstAlike_31 rfl (fun r31 g31 h => ?_)
        refine v_if_eq o (tgt := 39) dX7_firstAlike_34 (by decide) (fun c34 => ?_) (fun c34 => ?_)
        · replace h := h.1 c34
          obtain ⟨x3_39, ex3_39⟩ : ∃ y : Int32, y = x3 + 1 := ⟨_, rfl⟩
          replace h := h x3_39 ex3_39
          refine v_iinc o (v := x3_39) (lv' := [(3, .int x3_39), (0, .ref a), (1, .int p1), (2, .ref x2)]) 3 dX7_firstAlike_39 rfl (by rw [ex3_39]; rfl) (by decide) rfl ?_
          refine v_goto o (tgt := 14) dX7_firstAlike_42 (by decide) ?_
          refine v_sub [1, 2, 3, 0] (lv2 := [(0, .ref a), (1, .int p1), (2, .ref x2), (3, .int x3_39)]) rfl ?_
          exact ih g31 x2 x3_39 hx2 h.1 (by have := h.2; omega)
        · replace h := h.2 c34
          refine v_iload_n o 3 dX7_firstAlike_37 rfl ?_
          exact v_iret o rfl hr dX7_firstAlike_38 h
  unfold vX7_firstAlike at h
  refine v_aload_n o 0 dX7_firstAlike_0 rfl ?_
  refine v_gfR o lkX7_19 (by decide) (wfComp_o ha) (wfComp_r1 ha) dX7_firstAlike_1 ?_
  refine v_iload_n o 1 dX7_firstAlike_4 rfl ?_
  refine v_cVr o [.int p1] [] (fun sz => metX0_at l G P f sz (a + 4) (wfComp_t1 ha) p1) (cwX7_102 o.1.2.2.2.2 (by decide)) ⟨_, _, rfl⟩ (by decide) (wfBoard_o (wfComp_t1 ha)) rfl (Nat.le_of_ble_eq_true rfl) ⟨Nat.le_of_ble_eq_true rfl, Nat.le_of_ble_eq_true rfl⟩ dX7_firstAlike_5 rfl (fun r5 g5 h5 => ?_)
  obtain ⟨rfl, rfl⟩ := h5
  refine v_cVr o [] [] (fun sz => metX2_looseWord l G P f sz (atB (a + 4) p1) (is_atB (wfComp_t1 ha) p1)) (cwX7_209 o.1.2.2.2.2 (by decide)) ⟨_, _, rfl⟩ (by decide) (wfLoaf_o (is_atB (wfComp_t1 ha) p1)) rfl (Nat.le_of_ble_eq_true rfl) ⟨Nat.le_of_ble_eq_true rfl, Nat.le_of_ble_eq_true rfl⟩ dX7_firstAlike_8 rfl (fun r8 g8 h8 => ?_)
  obtain ⟨rfl, rfl⟩ := h8
  refine v_astore_n o (lv' := [(2, .ref ((atB (a + 4) p1) + 4)), (0, .ref a), (1, .int p1)]) dX7_firstAlike_11 rfl (by decide) rfl ?_
  refine v_iconst o (v := 0) dX7_firstAlike_12 (by decide) ?_
  refine v_istore_n o (lv' := [(3, .int 0), (2, .ref ((atB (a + 4) p1) + 4)), (0, .ref a), (1, .int p1)]) dX7_firstAlike_13 rfl (by decide) rfl ?_
  refine v_sub [2, 3, 1, 0] (lv2 := [(0, .ref a), (1, .int p1), (2, .ref ((atB (a + 4) p1) + 4)), (3, .int 0)]) rfl ?_
  exact (main (μ14 f ((atB (a + 4) p1) + 4) 0 + 1)) f ((atB (a + 4) p1) + 4) 0 (wfLoaf_t1 (is_atB (wfComp_t1 ha) p1)) h (Nat.lt_succ_self _)
def WX7_firstAlike (P : Sk) (f : St) (a : Nat) (p1 : Int32) (K : Int32 → St → Prop) : Prop := ∃ (I14 : St → Nat → Int32 → Prop) (μ14 : St → Nat → Int32 → Nat), (vX7_firstAlike P f a p1 I14 K) ∧ (∀ (g : St) (x2 : Nat) (x3 : Int32) , I14 g x2 x3 → bX7_firstAlike_14 P a p1 (fun g' z0 z1 => I14 g' z0 z1 ∧ μ14 g' z0 z1 < μ14 g x2 x3) K g x2 x3)
/-- the first loaf that is alike -/
noncomputable def faF (ls : List Lf) (i : Nat) : Nat → Nat → Nat
  | 0, j => j
  | fu + 1, j => cif (sm (lfAt ls j) (lfAt ls i)) j (faF ls i fu (j + 1))
noncomputable def fa (ls : List Lf) (i : Nat) : Nat := faF ls i i 0
def kX7_firstAlike (P : Sk) (f : St) (a : Nat) (p1 : Int32) (K : Int32 → St → Prop) : Prop := ∃ A i, p1 = nI i ∧ i < A.1.1.length ∧ CompIs f a A ∧ K (nI (fa A.1.1 i)) f
theorem hasB_n {bd : Bd} {i : Nat} (hi : i < bd.1.length) (ho : Bok bd) : hasB bd (nI i) ∧ lfP bd (nI i) = lfAt bd.1 i := by
  have := ho.1
  unfold hasB lfP
  rw [nI_clamp (by omega)]
  exact ⟨⟨nI_nn (by omega), hi⟩, rfl⟩
theorem wX7_firstAlike (P : Sk) (f : St) (a : Nat) (ha : IsComp P a) (p1 : Int32) (K : Int32 → St → Prop) (h : kX7_firstAlike P f a p1 K) : WX7_firstAlike P f a p1 K := by
  obtain ⟨A, i, rfl, hi, hC, hK⟩ := h
  have h6 := hC.2.2.2.2.2.1
  have hl6 := h6.1
  obtain ⟨hb, hb2⟩ := hasB_n hi h6
  have hLi := hC.2.1.atP h6 hb
  rw [hb2] at hLi
  refine ⟨fun g x2 x3 => ∃ k, x2 = atB (a + 4) (nI i) + 4 ∧ x3 = nI k ∧ g = f ∧ k ≤ i ∧ fa A.1.1 i = faF A.1.1 i (i - k) k, fun g x2 x3 => i - x3.toNatClampNeg, ?_, ?_⟩
  · unfold vX7_firstAlike
    exact ⟨0, rfl, rfl, rfl, Nat.zero_le _, rfl⟩
  · rintro g x2 x3 ⟨k, rfl, rfl, rfl, hk, hR⟩
    unfold bX7_firstAlike_14
    rw [nI_leI (by omega) (by omega)]
    refine ⟨fun q => ?_, fun q => ?_⟩
    · rw [hR, show i - k = 0 by omega] at hK
      rw [show i = k by omega]
      exact hK
    · obtain ⟨hc, hc2⟩ := hasB_n (i := k) (show k < A.1.1.length by omega) h6
      have hLk := hC.2.1.atP h6 hc
      rw [hc2] at hLk
      refine ⟨_, _, _, _, hLk.2.1, hLi.2.1, (h6.at (by omega)).1.NF, (h6.at hi).1.NF, ?_⟩
      rw [show i - k = (i - k - 1) + 1 by omega, faF] at hR
      by_cases c : (lfAt A.1.1 k).1 = (lfAt A.1.1 i).1 ∧ NF (lfAt A.1.1 k).2 = NF (lfAt A.1.1 i).2
      · rw [if_pos c]
        rw [cif_pos (show sm _ _ from c)] at hR
        rw [hR] at hK
        exact ⟨fun q => absurd q (by decide), fun _ => hK⟩
      · rw [if_neg c]
        rw [cif_neg (show ¬ sm _ _ from c)] at hR
        rw [nI_1]
        exact ⟨fun _ x e => ⟨⟨k + 1, rfl, e, rfl, by omega, by rw [show i - (k + 1) = i - k - 1 by omega]; exact hR⟩, mu_up e (by omega) (by omega)⟩, fun q => absurd rfl q⟩
theorem faF_le (ls : List Lf) (i : Nat) : ∀ fu j, j ≤ faF ls i fu j ∧ faF ls i fu j ≤ j + fu
  | 0, j => ⟨Nat.le_refl _, Nat.le_refl _⟩
  | fu + 1, j => by
    have := faF_le ls i fu (j + 1)
    simp only [faF]
    by_cases c : sm (lfAt ls j) (lfAt ls i)
    · rw [cif_pos c]
      omega
    · rw [cif_neg c]
      omega
theorem fa_le (ls : List Lf) (i : Nat) : fa ls i ≤ i := by
  have := faF_le ls i i 0
  unfold fa
  omega

theorem metX7_firstAlike (l : Launch) (G : Gl) (P : Sk) (f : St) (sz : Nat) (a : Nat) (ha : IsComp P a) (p1 : Int32) (K : Int32 → St → Prop) (h : kX7_firstAlike P f a p1 K) : Met l yX7_firstAlike (wU yX7_firstAlike cX7_firstAlike 4 (some .int)) rmX7_firstAlike (PcW G P f sz [.ref a, .int p1]) (QcI G P sz K) 0 0 (frA P sz) := by
  obtain ⟨I14, μ14, qh, qh14⟩ := wX7_firstAlike P f a ha p1 K h
  exact mX7_firstAlike l G P f sz a ha p1 K I14 μ14 qh qh14

def vX7_numberOfLoaf (P : Sk) (f : St) (a : Nat) (p1 : Int32) (p2 : Int32) (K : Int32 → St → Prop) : Prop :=
  (p2 = 0 → kX6_strands P f ((atB (a + 4) p1) + 1) (fun r68 g68 => K r68 g68)) ∧ (¬ p2 = 0 → (p2 = 1 → kX6_size P f ((atB (a + 4) p1) + 1) (fun r76 g76 => K r76 g76)) ∧ (¬ p2 = 1 → (p2 = 2 → kX6_rightLessLeft P f ((atB (a + 4) p1) + 1) (fun r86 g86 => K (100 + r86) g86)) ∧ (¬ p2 = 2 → (p2 = 3 → kX5_ringsByGoingRound P f ((atB (a + 4) p1) + 7) (fun r95 g95 => K r95 g95)) ∧ (¬ p2 = 3 → (p2 = 4 → kX5_ringsByJoining P f ((atB (a + 4) p1) + 7) (fun r103 g103 => K r103 g103)) ∧ (¬ p2 = 4 → (p2 = 5 → kX6_makeShortAtOnce P f (a + 1435) ((atB (a + 4) p1) + 1) (fun g115 => kX6_size P g115 (a + 1435) (fun r122 g122 => K r122 g122))) ∧ (¬ p2 = 5 → (p2 = 6 → kX6_makeShortByLooking P f (a + 1435) ((atB (a + 4) p1) + 1) (fun g134 => kX6_size P g134 (a + 1435) (fun r141 g141 => K r141 g141))) ∧ (¬ p2 = 6 → (p2 = 7 → kX6_size P f ((atB (a + 4) p1) + 4) (fun r149 g149 => K r149 g149)) ∧ (¬ p2 = 7 → (p2 = 8 → kX5_areAllHome P f ((atB (a + 4) p1) + 7) (fun r157 g157 => (r157 = 0 → K 0 g157) ∧ (¬ r157 = 0 → K 1 g157))) ∧ (¬ p2 = 8 → (p2 = 9 → kX5_mostHidden P f ((atB (a + 4) p1) + 7) (fun r173 g173 => K r173 g173)) ∧ (¬ p2 = 9 → kX7_firstAlike P f a p1 (fun r179 g179 => K r179 g179)))))))))))
set_option maxRecDepth 20000 in
set_option maxHeartbeats 4000000 in
theorem mX7_numberOfLoaf (l : Launch) (G : Gl) (P : Sk) (f : St) (sz : Nat) (a : Nat) (ha : IsComp P a) (p1 : Int32) (p2 : Int32) (K : Int32 → St → Prop) (h : vX7_numberOfLoaf P f a p1 p2 K)  :
  Met l yX7_numberOfLoaf (wU yX7_numberOfLoaf cX7_numberOfLoaf 4 (some .int)) rmX7_numberOfLoaf (PcW G P f sz [.ref a, .int p1, .int p2]) (QcI G P sz K) 0 0 (frA P sz) := by
  refine v_met (own := RX7) [.ref a, .int p1, .int p2] (by decide +kernel) rfl (Nat.le_of_ble_eq_true rfl) (fun p e s m args below meth c hsz o hr hnm => ?_)
  refine v_lv (lv2 := [(0, .ref a), (1, .int p1), (2, .int p2)]) rfl ?_
  unfold vX7_numberOfLoaf at h
  refine v_aload_n o 0 dX7_numberOfLoaf_0 rfl ?_
  refine v_gfR o lkX7_19 (by decide) (wfComp_o ha) (wfComp_r1 ha) dX7_numberOfLoaf_1 ?_
  refine v_iload_n o 1 dX7_numberOfLoaf_4 rfl ?_
  refine v_cVr o [.int p1] [] (fun sz => metX0_at l G P f sz (a + 4) (wfComp_t1 ha) p1) (cwX7_102 o.1.2.2.2.2 (by decide)) ⟨_, _, rfl⟩ (by decide) (wfBoard_o (wfComp_t1 ha)) rfl (Nat.le_of_ble_eq_true rfl) ⟨Nat.le_of_ble_eq_true rfl, Nat.le_of_ble_eq_true rfl⟩ dX7_numberOfLoaf_5 rfl (fun r5 g5 h5 => ?_)
  obtain ⟨rfl, rfl⟩ := h5
  refine v_astore_n o (lv' := [(3, .ref (atB (a + 4) p1)), (0, .ref a), (1, .int p1), (2, .int p2)]) dX7_numberOfLoaf_8 rfl (by decide) rfl ?_
  refine v_iload_n o 3 dX7_numberOfLoaf_9 rfl ?_
  by_cases c10_0 : p2 = 0
  · replace h := h.1 c10_0
    refine v_tableIn o (off := 54) (tgt := 64) dX7_numberOfLoaf_10 (by rw [c10_0]; decide) (by rw [c10_0]; decide) (by rw [c10_0]; decide) (by decide) ?_
    refine v_aload_n o 0 dX7_numberOfLoaf_64 rfl ?_
    refine v_cVr o [] [] (fun sz => metX2_word l G P f sz (atB (a + 4) p1) (is_atB (wfComp_t1 ha) p1)) (cwX7_74 o.1.2.2.2.2 (by decide)) ⟨_, _, rfl⟩ (by decide) (wfLoaf_o (is_atB (wfComp_t1 ha) p1)) rfl (Nat.le_of_ble_eq_true rfl) ⟨Nat.le_of_ble_eq_true rfl, Nat.le_of_ble_eq_true rfl⟩ dX7_numberOfLoaf_65 rfl (fun r65 g65 h65 => ?_)
    obtain ⟨rfl, rfl⟩ := h65
    refine v_cVi o [] [] (fun sz => metX6_strands l G P f sz ((atB (a + 4) p1) + 1) (wfLoaf_t0 (is_atB (wfComp_t1 ha) p1)) _ h) (cwX7_283 o.1.2.2.2.2 (by decide)) ⟨_, _, rfl⟩ (by decide) (wfWord_o (wfLoaf_t0 (is_atB (wfComp_t1 ha) p1))) rfl (Nat.le_of_ble_eq_true rfl) ⟨Nat.le_of_ble_eq_true rfl, Nat.le_of_ble_eq_true rfl⟩ dX7_numberOfLoaf_68 rfl (fun r68 g68 h => ?_)
    exact v_iret o rfl hr dX7_numberOfLoaf_71 h
  · replace h := h.2 c10_0
    by_cases c10_1 : p2 = 1
    · replace h := h.1 c10_1
      refine v_tableIn o (off := 62) (tgt := 72) dX7_numberOfLoaf_10 (by rw [c10_1]; decide) (by rw [c10_1]; decide) (by rw [c10_1]; decide) (by decide) ?_
      refine v_aload_n o 0 dX7_numberOfLoaf_72 rfl ?_
      refine v_cVr o [] [] (fun sz => metX2_word l G P f sz (atB (a + 4) p1) (is_atB (wfComp_t1 ha) p1)) (cwX7_74 o.1.2.2.2.2 (by decide)) ⟨_, _, rfl⟩ (by decide) (wfLoaf_o (is_atB (wfComp_t1 ha) p1)) rfl (Nat.le_of_ble_eq_true rfl) ⟨Nat.le_of_ble_eq_true rfl, Nat.le_of_ble_eq_true rfl⟩ dX7_numberOfLoaf_73 rfl (fun r73 g73 h73 => ?_)
      obtain ⟨rfl, rfl⟩ := h73
      refine v_cVi o [] [] (fun sz => metX6_size l G P f sz ((atB (a + 4) p1) + 1) (wfLoaf_t0 (is_atB (wfComp_t1 ha) p1)) _ h) (cwX7_106 o.1.2.2.2.2 (by decide)) ⟨_, _, rfl⟩ (by decide) (wfWord_o (wfLoaf_t0 (is_atB (wfComp_t1 ha) p1))) rfl (Nat.le_of_ble_eq_true rfl) ⟨Nat.le_of_ble_eq_true rfl, Nat.le_of_ble_eq_true rfl⟩ dX7_numberOfLoaf_76 rfl (fun r76 g76 h => ?_)
      exact v_iret o rfl hr dX7_numberOfLoaf_79 h
    · replace h := h.2 c10_1
      by_cases c10_2 : p2 = 2
      · replace h := h.1 c10_2
        refine v_tableIn o (off := 70) (tgt := 80) dX7_numberOfLoaf_10 (by rw [c10_2]; decide) (by rw [c10_2]; decide) (by rw [c10_2]; decide) (by decide) ?_
        refine v_bipush o (v := 100) dX7_numberOfLoaf_80 (by decide) ?_
        refine v_aload_n o 0 dX7_numberOfLoaf_82 rfl ?_
        refine v_cVr o [] [.int 100] (fun sz => metX2_word l G P f sz (atB (a + 4) p1) (is_atB (wfComp_t1 ha) p1)) (cwX7_74 o.1.2.2.2.2 (by decide)) ⟨_, _, rfl⟩ (by decide) (wfLoaf_o (is_atB (wfComp_t1 ha) p1)) rfl (Nat.le_of_ble_eq_true rfl) ⟨Nat.le_of_ble_eq_true rfl, Nat.le_of_ble_eq_true rfl⟩ dX7_numberOfLoaf_83 rfl (fun r83 g83 h83 => ?_)
        obtain ⟨rfl, rfl⟩ := h83
        refine v_cVi o [] [.int 100] (fun sz => metX6_rightLessLeft l G P f sz ((atB (a + 4) p1) + 1) (wfLoaf_t0 (is_atB (wfComp_t1 ha) p1)) _ h) (cwX7_298 o.1.2.2.2.2 (by decide)) ⟨_, _, rfl⟩ (by decide) (wfWord_o (wfLoaf_t0 (is_atB (wfComp_t1 ha) p1))) rfl (Nat.le_of_ble_eq_true rfl) ⟨Nat.le_of_ble_eq_true rfl, Nat.le_of_ble_eq_true rfl⟩ dX7_numberOfLoaf_86 rfl (fun r86 g86 h => ?_)
        refine v_iadd o dX7_numberOfLoaf_89 ?_
        exact v_iret o rfl hr dX7_numberOfLoaf_90 h
      · replace h := h.2 c10_2
        by_cases c10_3 : p2 = 3
        · replace h := h.1 c10_3
          refine v_tableIn o (off := 81) (tgt := 91) dX7_numberOfLoaf_10 (by rw [c10_3]; decide) (by rw [c10_3]; decide) (by rw [c10_3]; decide) (by decide) ?_
          refine v_aload_n o 0 dX7_numberOfLoaf_91 rfl ?_
          refine v_cVr o [] [] (fun sz => metX2_trace l G P f sz (atB (a + 4) p1) (is_atB (wfComp_t1 ha) p1)) (cwX7_124 o.1.2.2.2.2 (by decide)) ⟨_, _, rfl⟩ (by decide) (wfLoaf_o (is_atB (wfComp_t1 ha) p1)) rfl (Nat.le_of_ble_eq_true rfl) ⟨Nat.le_of_ble_eq_true rfl, Nat.le_of_ble_eq_true rfl⟩ dX7_numberOfLoaf_92 rfl (fun r92 g92 h92 => ?_)
          obtain ⟨rfl, rfl⟩ := h92
          refine v_cVi o [] [] (fun sz => metX5_ringsByGoingRound l G P f sz ((atB (a + 4) p1) + 7) (wfLoaf_t2 (is_atB (wfComp_t1 ha) p1)) _ h) (cwX7_301 o.1.2.2.2.2 (by decide)) ⟨_, _, rfl⟩ (by decide) (wfTrace_o (wfLoaf_t2 (is_atB (wfComp_t1 ha) p1))) rfl (Nat.le_of_ble_eq_true rfl) ⟨Nat.le_of_ble_eq_true rfl, Nat.le_of_ble_eq_true rfl⟩ dX7_numberOfLoaf_95 rfl (fun r95 g95 h => ?_)
          exact v_iret o rfl hr dX7_numberOfLoaf_98 h
        · replace h := h.2 c10_3
          by_cases c10_4 : p2 = 4
          · replace h := h.1 c10_4
            refine v_tableIn o (off := 89) (tgt := 99) dX7_numberOfLoaf_10 (by rw [c10_4]; decide) (by rw [c10_4]; decide) (by rw [c10_4]; decide) (by decide) ?_
            refine v_aload_n o 0 dX7_numberOfLoaf_99 rfl ?_
            refine v_cVr o [] [] (fun sz => metX2_trace l G P f sz (atB (a + 4) p1) (is_atB (wfComp_t1 ha) p1)) (cwX7_124 o.1.2.2.2.2 (by decide)) ⟨_, _, rfl⟩ (by decide) (wfLoaf_o (is_atB (wfComp_t1 ha) p1)) rfl (Nat.le_of_ble_eq_true rfl) ⟨Nat.le_of_ble_eq_true rfl, Nat.le_of_ble_eq_true rfl⟩ dX7_numberOfLoaf_100 rfl (fun r100 g100 h100 => ?_)
            obtain ⟨rfl, rfl⟩ := h100
            refine v_cVi o [] [] (fun sz => metX5_ringsByJoining l G P f sz ((atB (a + 4) p1) + 7) (wfLoaf_t2 (is_atB (wfComp_t1 ha) p1)) _ h) (cwX7_304 o.1.2.2.2.2 (by decide)) ⟨_, _, rfl⟩ (by decide) (wfTrace_o (wfLoaf_t2 (is_atB (wfComp_t1 ha) p1))) rfl (Nat.le_of_ble_eq_true rfl) ⟨Nat.le_of_ble_eq_true rfl, Nat.le_of_ble_eq_true rfl⟩ dX7_numberOfLoaf_103 rfl (fun r103 g103 h => ?_)
            exact v_iret o rfl hr dX7_numberOfLoaf_106 h
          · replace h := h.2 c10_4
            by_cases c10_5 : p2 = 5
            · replace h := h.1 c10_5
              refine v_tableIn o (off := 97) (tgt := 107) dX7_numberOfLoaf_10 (by rw [c10_5]; decide) (by rw [c10_5]; decide) (by rw [c10_5]; decide) (by decide) ?_
              refine v_aload_n o 1 dX7_numberOfLoaf_107 rfl ?_
              refine v_gfR o lkX7_51 (by decide) (wfComp_o ha) (wfComp_r7 ha) dX7_numberOfLoaf_108 ?_
              refine v_aload_n o 0 dX7_numberOfLoaf_111 rfl ?_
              refine v_cVr o [] [.ref (a + 1435)] (fun sz => metX2_word l G P f sz (atB (a + 4) p1) (is_atB (wfComp_t1 ha) p1)) (cwX7_74 o.1.2.2.2.2 (by decide)) ⟨_, _, rfl⟩ (by decide) (wfLoaf_o (is_atB (wfComp_t1 ha) p1)) rfl (Nat.le_of_ble_eq_true rfl) ⟨Nat.le_of_ble_eq_true rfl, Nat.le_of_ble_eq_true rfl⟩ dX7_numberOfLoaf_112 rfl (fun r112 g112 h112 => ?_)
              obtain ⟨rfl, rfl⟩ := h112
              refine v_cVv o [.ref ((atB (a + 4) p1) + 1)] [] (fun sz => metX6_makeShortAtOnce l G P f sz (a + 1435) (wfComp_t7 ha) ((atB (a + 4) p1) + 1) (wfLoaf_t0 (is_atB (wfComp_t1 ha) p1)) _ h) (cwX7_307 o.1.2.2.2.2 (by decide)) ⟨_, _, rfl⟩ (by decide) (wfWord_o (wfComp_t7 ha)) rfl (Nat.le_of_ble_eq_true rfl) ⟨Nat.le_of_ble_eq_true rfl, Nat.le_of_ble_eq_true rfl⟩ dX7_numberOfLoaf_115 rfl (fun g115 h => ?_)
              refine v_aload_n o 1 dX7_numberOfLoaf_118 rfl ?_
              refine v_gfR o lkX7_51 (by decide) (wfComp_o ha) (wfComp_r7 ha) dX7_numberOfLoaf_119 ?_
              refine v_cVi o [] [] (fun sz => metX6_size l G P g115 sz (a + 1435) (wfComp_t7 ha) _ h) (cwX7_106 o.1.2.2.2.2 (by decide)) ⟨_, _, rfl⟩ (by decide) (wfWord_o (wfComp_t7 ha)) rfl (Nat.le_of_ble_eq_true rfl) ⟨Nat.le_of_ble_eq_true rfl, Nat.le_of_ble_eq_true rfl⟩ dX7_numberOfLoaf_122 rfl (fun r122 g122 h => ?_)
              exact v_iret o rfl hr dX7_numberOfLoaf_125 h
            · replace h := h.2 c10_5
              by_cases c10_6 : p2 = 6
              · replace h := h.1 c10_6
                refine v_tableIn o (off := 116) (tgt := 126) dX7_numberOfLoaf_10 (by rw [c10_6]; decide) (by rw [c10_6]; decide) (by rw [c10_6]; decide) (by decide) ?_
                refine v_aload_n o 1 dX7_numberOfLoaf_126 rfl ?_
                refine v_gfR o lkX7_51 (by decide) (wfComp_o ha) (wfComp_r7 ha) dX7_numberOfLoaf_127 ?_
                refine v_aload_n o 0 dX7_numberOfLoaf_130 rfl ?_
                refine v_cVr o [] [.ref (a + 1435)] (fun sz => metX2_word l G P f sz (atB (a + 4) p1) (is_atB (wfComp_t1 ha) p1)) (cwX7_74 o.1.2.2.2.2 (by decide)) ⟨_, _, rfl⟩ (by decide) (wfLoaf_o (is_atB (wfComp_t1 ha) p1)) rfl (Nat.le_of_ble_eq_true rfl) ⟨Nat.le_of_ble_eq_true rfl, Nat.le_of_ble_eq_true rfl⟩ dX7_numberOfLoaf_131 rfl (fun r131 g131 h131 => ?_)
                obtain ⟨rfl, rfl⟩ := h131
                refine v_cVv o [.ref ((atB (a + 4) p1) + 1)] [] (fun sz => metX6_makeShortByLooking l G P f sz (a + 1435) (wfComp_t7 ha) ((atB (a + 4) p1) + 1) (wfLoaf_t0 (is_atB (wfComp_t1 ha) p1)) _ h) (cwX7_310 o.1.2.2.2.2 (by decide)) ⟨_, _, rfl⟩ (by decide) (wfWord_o (wfComp_t7 ha)) rfl (Nat.le_of_ble_eq_true rfl) ⟨Nat.le_of_ble_eq_true rfl, Nat.le_of_ble_eq_true rfl⟩ dX7_numberOfLoaf_134 rfl (fun g134 h => ?_)
                refine v_aload_n o 1 dX7_numberOfLoaf_137 rfl ?_
                refine v_gfR o lkX7_51 (by decide) (wfComp_o ha) (wfComp_r7 ha) dX7_numberOfLoaf_138 ?_
                refine v_cVi o [] [] (fun sz => metX6_size l G P g134 sz (a + 1435) (wfComp_t7 ha) _ h) (cwX7_106 o.1.2.2.2.2 (by decide)) ⟨_, _, rfl⟩ (by decide) (wfWord_o (wfComp_t7 ha)) rfl (Nat.le_of_ble_eq_true rfl) ⟨Nat.le_of_ble_eq_true rfl, Nat.le_of_ble_eq_true rfl⟩ dX7_numberOfLoaf_141 rfl (fun r141 g141 h => ?_)
                exact v_iret o rfl hr dX7_numberOfLoaf_144 h
              · replace h := h.2 c10_6
                by_cases c10_7 : p2 = 7
                · replace h := h.1 c10_7
                  refine v_tableIn o (off := 135) (tgt := 145) dX7_numberOfLoaf_10 (by rw [c10_7]; decide) (by rw [c10_7]; decide) (by rw [c10_7]; decide) (by decide) ?_
                  refine v_aload_n o 0 dX7_numberOfLoaf_145 rfl ?_
                  refine v_cVr o [] [] (fun sz => metX2_looseWord l G P f sz (atB (a + 4) p1) (is_atB (wfComp_t1 ha) p1)) (cwX7_209 o.1.2.2.2.2 (by decide)) ⟨_, _, rfl⟩ (by decide) (wfLoaf_o (is_atB (wfComp_t1 ha) p1)) rfl (Nat.le_of_ble_eq_true rfl) ⟨Nat.le_of_ble_eq_true rfl, Nat.le_of_ble_eq_true rfl⟩ dX7_numberOfLoaf_146 rfl (fun r146 g146 h146 => ?_)
                  obtain ⟨rfl, rfl⟩ := h146
                  refine v_cVi o [] [] (fun sz => metX6_size l G P f sz ((atB (a + 4) p1) + 4) (wfLoaf_t1 (is_atB (wfComp_t1 ha) p1)) _ h) (cwX7_106 o.1.2.2.2.2 (by decide)) ⟨_, _, rfl⟩ (by decide) (wfWord_o (wfLoaf_t1 (is_atB (wfComp_t1 ha) p1))) rfl (Nat.le_of_ble_eq_true rfl) ⟨Nat.le_of_ble_eq_true rfl, Nat.le_of_ble_eq_true rfl⟩ dX7_numberOfLoaf_149 rfl (fun r149 g149 h => ?_)
                  exact v_iret o rfl hr dX7_numberOfLoaf_152 h
                · replace h := h.2 c10_7
                  by_cases c10_8 : p2 = 8
                  · replace h := h.1 c10_8
                    refine v_tableIn o (off := 143) (tgt := 153) dX7_numberOfLoaf_10 (by rw [c10_8]; decide) (by rw [c10_8]; decide) (by rw [c10_8]; decide) (by decide) ?_
                    refine v_aload_n o 0 dX7_numberOfLoaf_153 rfl ?_
                    refine v_cVr o [] [] (fun sz => metX2_trace l G P f sz (atB (a + 4) p1) (is_atB (wfComp_t1 ha) p1)) (cwX7_124 o.1.2.2.2.2 (by decide)) ⟨_, _, rfl⟩ (by decide) (wfLoaf_o (is_atB (wfComp_t1 ha) p1)) rfl (Nat.le_of_ble_eq_true rfl) ⟨Nat.le_of_ble_eq_true rfl, Nat.le_of_ble_eq_true rfl⟩ dX7_numberOfLoaf_154 rfl (fun r154 g154 h154 => ?_)
                    obtain ⟨rfl, rfl⟩ := h154
                    refine v_cVi o [] [] (fun sz => metX5_areAllHome l G P f sz ((atB (a + 4) p1) + 7) (wfLoaf_t2 (is_atB (wfComp_t1 ha) p1)) _ h) (cwX7_313 o.1.2.2.2.2 (by decide)) ⟨_, _, rfl⟩ (by decide) (wfTrace_o (wfLoaf_t2 (is_atB (wfComp_t1 ha) p1))) rfl (Nat.le_of_ble_eq_true rfl) ⟨Nat.le_of_ble_eq_true rfl, Nat.le_of_ble_eq_true rfl⟩ dX7_numberOfLoaf_157 rfl (fun r157 g157 h => ?_)
                    refine v_if_eq o (tgt := 167) dX7_numberOfLoaf_160 (by decide) (fun c160 => ?_) (fun c160 => ?_)
                    · replace h := h.1 c160
                      refine v_iconst o (v := 0) dX7_numberOfLoaf_167 (by decide) ?_
                      exact v_iret o rfl hr dX7_numberOfLoaf_168 h
                    · replace h := h.2 c160
                      refine v_iconst o (v := 1) dX7_numberOfLoaf_163 (by decide) ?_
                      refine v_goto o (tgt := 168) dX7_numberOfLoaf_164 (by decide) ?_
                      exact v_iret o rfl hr dX7_numberOfLoaf_168 h
                  · replace h := h.2 c10_8
                    by_cases c10_9 : p2 = 9
                    · replace h := h.1 c10_9
                      refine v_tableIn o (off := 159) (tgt := 169) dX7_numberOfLoaf_10 (by rw [c10_9]; decide) (by rw [c10_9]; decide) (by rw [c10_9]; decide) (by decide) ?_
                      refine v_aload_n o 0 dX7_numberOfLoaf_169 rfl ?_
                      refine v_cVr o [] [] (fun sz => metX2_trace l G P f sz (atB (a + 4) p1) (is_atB (wfComp_t1 ha) p1)) (cwX7_124 o.1.2.2.2.2 (by decide)) ⟨_, _, rfl⟩ (by decide) (wfLoaf_o (is_atB (wfComp_t1 ha) p1)) rfl (Nat.le_of_ble_eq_true rfl) ⟨Nat.le_of_ble_eq_true rfl, Nat.le_of_ble_eq_true rfl⟩ dX7_numberOfLoaf_170 rfl (fun r170 g170 h170 => ?_)
                      obtain ⟨rfl, rfl⟩ := h170
                      refine v_cVi o [] [] (fun sz => metX5_mostHidden l G P f sz ((atB (a + 4) p1) + 7) (wfLoaf_t2 (is_atB (wfComp_t1 ha) p1)) _ h) (cwX7_316 o.1.2.2.2.2 (by decide)) ⟨_, _, rfl⟩ (by decide) (wfTrace_o (wfLoaf_t2 (is_atB (wfComp_t1 ha) p1))) rfl (Nat.le_of_ble_eq_true rfl) ⟨Nat.le_of_ble_eq_true rfl, Nat.le_of_ble_eq_true rfl⟩ dX7_numberOfLoaf_173 rfl (fun r173 g173 h => ?_)
                      exact v_iret o rfl hr dX7_numberOfLoaf_176 h
                    · replace h := h.2 c10_9
                      refine v_tableOut o (tgt := 177) dX7_numberOfLoaf_10 (by have q0 := lv_neT c10_0 (a := 0) (by decide); have q1 := lv_neT c10_1 (a := 1) (by decide); have q2 := lv_neT c10_2 (a := 2) (by decide); have q3 := lv_neT c10_3 (a := 3) (by decide); have q4 := lv_neT c10_4 (a := 4) (by decide); have q5 := lv_neT c10_5 (a := 5) (by decide); have q6 := lv_neT c10_6 (a := 6) (by decide); have q7 := lv_neT c10_7 (a := 7) (by decide); have q8 := lv_neT c10_8 (a := 8) (by decide); have q9 := lv_neT c10_9 (a := 9) (by decide); omega) (by decide) ?_
                      refine v_aload_n o 1 dX7_numberOfLoaf_177 rfl ?_
                      refine v_iload_n o 2 dX7_numberOfLoaf_178 rfl ?_
                      refine v_cVi o [.int p1] [] (fun sz => metX7_firstAlike l G P f sz a ha p1 _ h) (cwX7_319 o.1.2.2.2.2 (by decide)) ⟨_, _, rfl⟩ (by decide) (wfComp_o ha) rfl (Nat.le_of_ble_eq_true rfl) ⟨Nat.le_of_ble_eq_true rfl, Nat.le_of_ble_eq_true rfl⟩ dX7_numberOfLoaf_179 rfl (fun r179 g179 h => ?_)
                      exact v_iret o rfl hr dX7_numberOfLoaf_182 h
abbrev kX7_numberOfLoaf := @vX7_numberOfLoaf
abbrev metX7_numberOfLoaf := @mX7_numberOfLoaf
/-- rings of a loaf -/
def rgV (y : Lf) : Nat := rgO (cd (wH y.2 y.2.length) y.1) 128 y.1 0 0 0
noncomputable def nL (ls : List Lf) (i what : Nat) : Int32 := if what = 0 then nI (lfAt ls i).1 else if what = 1 then nI (lfAt ls i).2.length else if what = 2 then 100 + rll (lfAt ls i).2 (lfAt ls i).2.length else if what = 3 then nI (rgV (lfAt ls i)) else if what = 4 then nI (rgV (lfAt ls i)) else if what = 5 then nI (SF (lfAt ls i).2).length else if what = 6 then nI (SF (lfAt ls i).2).length else if what = 7 then nI (NF (lfAt ls i).2).length else if what = 8 then (if rgV (lfAt ls i) = (lfAt ls i).1 then 1 else 0) else if what = 9 then nI (mhF (tU (lfAt ls i).2 (lfAt ls i).2.length) (lfAt ls i).1) else nI (fa ls i)
theorem rings_w {y : Lf} (h : Wok y.1 y.2) : rgO (cd (wE y.2 y.2.length) y.1) y.1 y.1 0 0 0 = rgV y ∧ rjO (cd (wE y.2 y.2.length) y.1) y.1 y.1 0 (cd (fun i => i) y.1) y.1 = rgV y ∧ ((alB y.1 fun s => Nat.beq (dg (cd (wE y.2 y.2.length) y.1) s) s) = true ↔ rgV y = y.1) ∧ perV y = perM (cd (wH y.2 y.2.length) y.1) y.1 y.1 0 1 ∧ ∀ k, k < y.1 → rt (cd (wH y.2 y.2.length) y.1) k y.1 (dg (cd (wH y.2 y.2.length) y.1) k) = true :=
  rings_all h.1 h.2.1 (fun i hi => wE_lt h _ i (Nat.le_refl _) hi) (fun i hi => wH_lt h _ i (Nat.le_refl _) hi) (fun i _ => wEH _ _ i) (fun i _ => wHE _ _ i)
theorem u7_numberOfLoaf {P : Sk} {f : St} {x i what : Nat} {A : Ab} {K : Int32 → St → Prop} (hx : IsComp P x) (hC : CompIs f x A) (hi : i < A.1.1.length) (hw : what < 11) (hK : Look f x A (nL A.1.1 i what) K) : kX7_numberOfLoaf P f x (nI i) (nI what) K := by
  show vX7_numberOfLoaf P f x (nI i) (nI what) K
  unfold vX7_numberOfLoaf
  have h6 := hC.2.2.2.2.2.1
  obtain ⟨hb, hb2⟩ := hasB_n hi h6
  have hL := hC.2.1.atP h6 hb
  have hin := atB_in (b := x + 4) h6 hb
  rw [hb2] at hL
  have hk := h6.at hi
  have hl := hk.1.2.2.1
  have hT := hL.2.2.ends hk.1
  have hW := rings_w hk.1
  have w : ∀ k, k < 2 ^ 31 → (nI what = nI k ↔ what = k) := fun k hk => nI_eq (by omega) hk
  have hK0 := hK f (Fr.refl _ _ _) hC
  unfold nL at hK0
  rw [show (0 : Int32) = nI 0 from rfl, show (1 : Int32) = nI 1 from rfl, show (2 : Int32) = nI 2 from rfl, show (3 : Int32) = nI 3 from rfl, show (4 : Int32) = nI 4 from rfl, show (5 : Int32) = nI 5 from rfl, show (6 : Int32) = nI 6 from rfl, show (7 : Int32) = nI 7 from rfl, show (8 : Int32) = nI 8 from rfl, show (9 : Int32) = nI 9 from rfl, w 0 (by decide), w 1 (by decide), w 2 (by decide), w 3 (by decide), w 4 (by decide), w 5 (by decide), w 6 (by decide), w 7 (by decide), w 8 (by decide), w 9 (by decide)]
  refine ⟨fun q => ?_, fun q0 => ⟨fun q => ?_, fun q1 => ⟨fun q => ?_, fun q2 => ⟨fun q => ?_, fun q3 => ⟨fun q => ?_, fun q4 => ⟨fun q => ?_, fun q5 => ⟨fun q => ?_, fun q6 => ⟨fun q => ?_, fun q7 => ⟨fun q => ?_, fun q8 => ⟨fun q => ?_, fun q9 => ?_⟩⟩⟩⟩⟩⟩⟩⟩⟩⟩
  · rw [if_pos q] at hK0
    exact u6_strands hL.1.1 hK0
  · rw [if_neg q0, if_pos q] at hK0
    exact u6_size hL.1.2.1 hK0
  · rw [if_neg q0, if_neg q1, if_pos q] at hK0
    exact ⟨_, _, hL.1, hk.1, hK0⟩
  · rw [if_neg q0, if_neg q1, if_neg q2, if_pos q, ← hW.1] at hK0
    exact ⟨_, _, hT, hK0⟩
  · refine ⟨_, _, hT, fun g hg => ?_⟩
    have hCg := hC.rings hb hg
    have r : Fr f g x (x + 1438) := fun q hq => hg q (by omega)
    have hK1 := hK g r hCg
    unfold nL at hK1
    rw [if_neg q0, if_neg q1, if_neg q2, if_neg q3, if_pos q, ← hW.2.1] at hK1
    exact hK1
  · refine ⟨_, _, hL.1, hk.1, by omega, fun g r w1 => ?_⟩
    refine u6_size w1.2.1 ?_
    have hK1 := hK g (r.mono (by omega) (by omega)) (hC.out r (by omega))
    unfold nL at hK1
    rw [if_neg q0, if_neg q1, if_neg q2, if_neg q3, if_neg q4, if_pos q] at hK1
    exact hK1
  · refine ⟨_, _, hL.1, hk.1, by omega, fun g r w1 => ?_⟩
    refine u6_size w1.2.1 ?_
    have hK1 := hK g (r.mono (by omega) (by omega)) (hC.out r (by omega))
    unfold nL at hK1
    rw [if_neg q0, if_neg q1, if_neg q2, if_neg q3, if_neg q4, if_neg q5, if_pos q] at hK1
    exact hK1
  · rw [if_neg q0, if_neg q1, if_neg q2, if_neg q3, if_neg q4, if_neg q5, if_neg q6, if_pos q] at hK0
    exact u6_size hL.2.1.2.1 hK0
  · rw [if_neg q0, if_neg q1, if_neg q2, if_neg q3, if_neg q4, if_neg q5, if_neg q6, if_neg q7, if_pos q] at hK0
    refine ⟨_, _, hT, fun c => ⟨fun q => absurd q (by decide), fun _ => ?_⟩, fun c => ⟨fun _ => ?_, fun q => absurd rfl q⟩⟩
    · rw [if_pos (hW.2.2.1.mp c)] at hK0
      exact hK0
    · rw [if_neg (fun q5 => c (hW.2.2.1.mpr q5))] at hK0
      exact hK0
  · rw [if_neg q0, if_neg q1, if_neg q2, if_neg q3, if_neg q4, if_neg q5, if_neg q6, if_neg q7, if_neg q8, if_pos q] at hK0
    exact ⟨_, _, hL.2.2, hk.1, hK0⟩
  · rw [if_neg q0, if_neg q1, if_neg q2, if_neg q3, if_neg q4, if_neg q5, if_neg q6, if_neg q7, if_neg q8, if_neg q9] at hK0
    exact ⟨A, i, rfl, hi, hC, hK0⟩

def vX7_loaf (P : Sk) (f : St) (a : Nat) (p1 : Int32) (p2 : Int32) (K : Int32 → St → Prop) (X : String → St → Prop) : Prop :=
  kX7_needLoaf P f a p1 (fun g2 => kX7_needUpTo P g2 p2 10 (fun g8 => kX7_numberOfLoaf P g8 a p1 p2 (fun r14 g14 => K r14 g14)) X) X
set_option maxRecDepth 20000 in
set_option maxHeartbeats 4000000 in
theorem mX7_loaf (l : Launch) (G : Gl) (P : Sk) (f : St) (sz : Nat) (a : Nat) (ha : IsComp P a) (p1 : Int32) (p2 : Int32) (K : Int32 → St → Prop) (h : vX7_loaf P f a p1 p2 K XF)  :
  Met l yX7_loaf (wU yX7_loaf cX7_loaf 3 (some .int)) rmX7_loaf (PcW G P f sz [.ref a, .int p1, .int p2]) (QcI G P sz K) 0 0 (frA P sz) := by
  refine v_met (own := RX7) [.ref a, .int p1, .int p2] (by decide +kernel) rfl (Nat.le_of_ble_eq_true rfl) (fun p e s m args below meth c hsz o hr hnm => ?_)
  refine v_lv (lv2 := [(0, .ref a), (1, .int p1), (2, .int p2)]) rfl ?_
  unfold vX7_loaf at h
  refine v_aload_n o 0 dX7_loaf_0 rfl ?_
  refine v_iload_n o 1 dX7_loaf_1 rfl ?_
  refine v_cVv o [.int p1] [] (fun sz => metX7_needLoaf l G P f sz a ha p1 _ h) (cwX7_98 o.1.2.2.2.2 (by decide)) ⟨_, _, rfl⟩ (by decide) (wfComp_o ha) rfl (Nat.le_of_ble_eq_true rfl) ⟨Nat.le_of_ble_eq_true rfl, Nat.le_of_ble_eq_true rfl⟩ dX7_loaf_2 rfl (fun g2 h => ?_)
  refine v_iload_n o 2 dX7_loaf_5 rfl ?_
  refine v_bipush o (v := 10) dX7_loaf_6 (by decide) ?_
  refine v_cSv o [.int p2, .int 10] [] (fun sz => metX7_needUpTo l G P g2 sz p2 10 _ h) (cwX7_137 o.1.2.2.2.2 (by decide)) rfl (Nat.le_of_ble_eq_true rfl) ⟨Nat.le_of_ble_eq_true rfl, Nat.le_of_ble_eq_true rfl⟩ dX7_loaf_8 rfl (fun g8 h => ?_)
  refine v_aload_n o 0 dX7_loaf_11 rfl ?_
  refine v_iload_n o 1 dX7_loaf_12 rfl ?_
  refine v_iload_n o 2 dX7_loaf_13 rfl ?_
  refine v_cVi o [.int p1, .int p2] [] (fun sz => metX7_numberOfLoaf l G P g8 sz a ha p1 p2 _ h) (cwX7_206 o.1.2.2.2.2 (by decide)) ⟨_, _, rfl⟩ (by decide) (wfComp_o ha) rfl (Nat.le_of_ble_eq_true rfl) ⟨Nat.le_of_ble_eq_true rfl, Nat.le_of_ble_eq_true rfl⟩ dX7_loaf_14 rfl (fun r14 g14 h => ?_)
  exact v_iret o rfl hr dX7_loaf_17 h
abbrev kX7_loaf := @vX7_loaf
abbrev metX7_loaf := @mX7_loaf
noncomputable def opLoaf (A : Ab) (p q : Int32) : Re := cif (hasB A.1 p) (cif (¬ q < 0 ∧ q.toNatClampNeg < 11) (0, nL A.1.1 p.toNatClampNeg q.toNatClampNeg, A) (2, 0, A)) (1, 0, A)
theorem u7_loaf {P : Sk} {f : St} {x : Nat} {A : Ab} {p q : Int32} {K : Int32 → St → Prop} {X : String → St → Prop} (hx : IsComp P x) (hC : CompIs f x A) (hK : Fin f x (opLoaf A p q) K X "java/lang/IndexOutOfBoundsException" "java/lang/IllegalArgumentException" "") : kX7_loaf P f x p q K X := by
  show vX7_loaf P f x p q K X
  unfold vX7_loaf
  unfold opLoaf at hK
  refine u7_needLoaf hC (fun h => ?_) (fun h => ?_)
  · rw [cif_pos h] at hK
    refine u7_upTo (m := 10) (by decide) (fun c1 c2 => ?_) (fun c => ?_)
    · rw [cif_pos ⟨c1, c2⟩] at hK
      rw [nI_cl c1, nI_cl h.1]
      exact u7_numberOfLoaf hx hC h.2 c2 (fun g r hC2 => (hK g r hC2).1 rfl)
    · rw [cif_neg (show ¬ (¬ q < 0 ∧ q.toNatClampNeg < 11) from c)] at hK
      exact (hK f (Fr.refl _ _ _) hC).2.2.1 rfl
  · rw [cif_neg h] at hK
    exact (hK f (Fr.refl _ _ _) hC).2.1 rfl

def bX7_crossingsOfAll_4 (P : Sk) (a : Nat) (L4 : St → Int32 → Int32 → Prop) (K : Int32 → St → Prop) (f : St) (x1 : Int32) (x2 : Int32) : Prop :=
  kX0_size P f (a + 4) (fun r9 g9 => (r9 ≤ x2 → K x1 g9) ∧ (¬ r9 ≤ x2 → kX6_size P g9 ((atB (a + 4) x2) + 1) (fun r27 g27 => ∀ x1_31 : Int32, x1_31 = x1 + r27 → ∀ x2_32 : Int32, x2_32 = x2 + 1 → L4 g27 x1_31 x2_32)))
def vX7_crossingsOfAll (P : Sk) (f : St) (a : Nat) (L4 : St → Int32 → Int32 → Prop) (K : Int32 → St → Prop) : Prop :=
  L4 f 0 0
set_option maxRecDepth 20000 in
set_option maxHeartbeats 4000000 in
theorem mX7_crossingsOfAll (l : Launch) (G : Gl) (P : Sk) (f : St) (sz : Nat) (a : Nat) (ha : IsComp P a) (K : Int32 → St → Prop) (I4 : St → Int32 → Int32 → Prop) (μ4 : St → Int32 → Int32 → Nat) 
  (h : vX7_crossingsOfAll P f a I4 K)
  (h4 : ∀ (g : St) (x1 : Int32) (x2 : Int32) , I4 g x1 x2 → bX7_crossingsOfAll_4 P a (fun g' z0 z1 => I4 g' z0 z1 ∧ μ4 g' z0 z1 < μ4 g x1 x2) K g x1 x2) :
  Met l yX7_crossingsOfAll (wU yX7_crossingsOfAll cX7_crossingsOfAll 3 (some .int)) rmX7_crossingsOfAll (PcW G P f sz [.ref a]) (QcI G P sz K) 0 0 (frA P sz) := by
  refine v_met (own := RX7) [.ref a] (by decide +kernel) rfl (Nat.le_of_ble_eq_true rfl) (fun p e s m args below meth c hsz o hr hnm => ?_)
  refine v_lv (lv2 := [(0, .ref a)]) rfl ?_
  have main : ∀ n : Nat, (∀ (g : St) (x1 : Int32) (x2 : Int32) , I4 g x1 x2 → μ4 g x1 x2 < n → V p l e rmX7_crossingsOfAll s m args below meth c 3 G (frA P sz) (MQ below (QcI G P sz K) args s 0 0 (frA P sz)) 0 0 P [(0, .ref a), (1, .int x1), (2, .int x2)] [] 4 g) := by
    intro n
    induction n with
    | zero => exact fun g x1 x2 hI hm => absurd hm (Nat.not_lt_zero _)
    | succ n ih =>
      intro g x1 x2 hI hm
      have h := h4 g x1 x2 hI
      clear hI
      unfold bX7_crossingsOfAll_4 at h
      refine v_iload_n o 2 dX7_crossingsOfAll_4 rfl ?_
      refine v_aload_n o 0 dX7_crossingsOfAll_5 rfl ?_
      refine v_gfR o lkX7_19 (by decide) (wfComp_o ha) (wfComp_r1 ha) dX7_crossingsOfAll_6 ?_
      refine v_cVi o [] [.int x2] (fun sz => metX0_size l G P g sz (a + 4) (wfComp_t1 ha) _ h) (cwX7_65 o.1.2.2.2.2 (by decide)) ⟨_, _, rfl⟩ (by decide) (wfBoard_o (wfComp_t1 ha)) rfl (Nat.le_of_ble_eq_true rfl) ⟨Nat.le_of_ble_eq_true rfl, Nat.le_of_ble_eq_true rfl⟩ dX7_crossingsOfAll_9 rfl (fun r9 g9 h => ?_)
      refine v_icmp_ge o (tgt := 38) dX7_crossingsOfAll_12 (by decide) (fun c12 => ?_) (fun c12 => ?_)
      · replace h := h.1 c12
        refine v_iload_n o 1 dX7_crossingsOfAll_38 rfl ?_
        exact v_iret o rfl hr dX7_crossingsOfAll_39 h
      · replace h := h.2 c12
        refine v_iload_n o 1 dX7_crossingsOfAll_15 rfl ?_
        refine v_aload_n o 0 dX7_crossingsOfAll_16 rfl ?_
        refine v_gfR o lkX7_19 (by decide) (wfComp_o ha) (wfComp_r1 ha) dX7_crossingsOfAll_17 ?_
        refine v_iload_n o 2 dX7_crossingsOfAll_20 rfl ?_
        refine v_cVr o [.int x2] [.int x1] (fun sz => metX0_at l G P g9 sz (a + 4) (wfComp_t1 ha) x2) (cwX7_102 o.1.2.2.2.2 (by decide)) ⟨_, _, rfl⟩ (by decide) (wfBoard_o (wfComp_t1 ha)) rfl (Nat.le_of_ble_eq_true rfl) ⟨Nat.le_of_ble_eq_true rfl, Nat.le_of_ble_eq_true rfl⟩ dX7_crossingsOfAll_21 rfl (fun r21 g21 h21 => ?_)
        obtain ⟨rfl, rfl⟩ := h21
        refine v_cVr o [] [.int x1] (fun sz => metX2_word l G P g9 sz (atB (a + 4) x2) (is_atB (wfComp_t1 ha) x2)) (cwX7_74 o.1.2.2.2.2 (by decide)) ⟨_, _, rfl⟩ (by decide) (wfLoaf_o (is_atB (wfComp_t1 ha) x2)) rfl (Nat.le_of_ble_eq_true rfl) ⟨Nat.le_of_ble_eq_true rfl, Nat.le_of_ble_eq_true rfl⟩ dX7_crossingsOfAll_24 rfl (fun r24 g24 h24 => ?_)
        obtain ⟨rfl, rfl⟩ := h24
        refine v_cVi o [] [.int x1] (fun sz => metX6_size l G P g9 sz ((atB (a + 4) x2) + 1) (wfLoaf_t0 (is_atB (wfComp_t1 ha) x2)) _ h) (cwX7_106 o.1.2.2.2.2 (by decide)) ⟨_, _, rfl⟩ (by decide) (wfWord_o (wfLoaf_t0 (is_atB (wfComp_t1 ha) x2))) rfl (Nat.le_of_ble_eq_true rfl) ⟨Nat.le_of_ble_eq_true rfl, Nat.le_of_ble_eq_true rfl⟩ dX7_crossingsOfAll_27 rfl (fun r27 g27 h => ?_)
        refine v_iadd o dX7_crossingsOfAll_30 ?_
        refine v_topi (fun x1_31 ex1_31 => ?_)
        replace h := h x1_31 ex1_31
        refine v_istore_n o (lv' := [(1, .int x1_31), (0, .ref a), (2, .int x2)]) dX7_crossingsOfAll_31 rfl (by decide) rfl ?_
        obtain ⟨x2_32, ex2_32⟩ : ∃ y : Int32, y = x2 + 1 := ⟨_, rfl⟩
        replace h := h x2_32 ex2_32
        refine v_iinc o (v := x2_32) (lv' := [(2, .int x2_32), (1, .int x1_31), (0, .ref a)]) 2 dX7_crossingsOfAll_32 rfl (by rw [ex2_32]; rfl) (by decide) rfl ?_
        refine v_goto o (tgt := 4) dX7_crossingsOfAll_35 (by decide) ?_
        refine v_sub [2, 1, 0] (lv2 := [(0, .ref a), (1, .int x1_31), (2, .int x2_32)]) rfl ?_
        exact ih g27 x1_31 x2_32  h.1 (by have := h.2; omega)
  unfold vX7_crossingsOfAll at h
  refine v_iconst o (v := 0) dX7_crossingsOfAll_0 (by decide) ?_
  refine v_istore_n o (lv' := [(1, .int 0), (0, .ref a)]) dX7_crossingsOfAll_1 rfl (by decide) rfl ?_
  refine v_iconst o (v := 0) dX7_crossingsOfAll_2 (by decide) ?_
  refine v_istore_n o (lv' := [(2, .int 0), (1, .int 0), (0, .ref a)]) dX7_crossingsOfAll_3 rfl (by decide) rfl ?_
  refine v_sub [2, 1, 0] (lv2 := [(0, .ref a), (1, .int 0), (2, .int 0)]) rfl ?_
  exact (main (μ4 f 0 0 + 1)) f 0 0  h (Nat.lt_succ_self _)
def WX7_crossingsOfAll (P : Sk) (f : St) (a : Nat) (K : Int32 → St → Prop) : Prop := ∃ (I4 : St → Int32 → Int32 → Prop) (μ4 : St → Int32 → Int32 → Nat), (vX7_crossingsOfAll P f a I4 K) ∧ (∀ (g : St) (x1 : Int32) (x2 : Int32) , I4 g x1 x2 → bX7_crossingsOfAll_4 P a (fun g' z0 z1 => I4 g' z0 z1 ∧ μ4 g' z0 z1 < μ4 g x1 x2) K g x1 x2)
def smL (φ : Lf → Nat) (ls : List Lf) : Nat → Nat
  | 0 => 0
  | k + 1 => smL φ ls k + φ (lfAt ls k)
theorem smL_le {φ : Lf → Nat} {ls : List Lf} {m : Nat} (h : ∀ i, i < ls.length → φ (lfAt ls i) ≤ m) : ∀ k, k ≤ ls.length → smL φ ls k ≤ m * k
  | 0, _ => Nat.zero_le _
  | k + 1, hk => by
    have h1 := smL_le h k (by omega)
    have h2 := h k (by omega)
    simp only [smL]
    rw [Nat.mul_succ]
    omega
def lnW (y : Lf) : Nat := y.2.length
def kX7_crossingsOfAll (P : Sk) (f : St) (a : Nat) (K : Int32 → St → Prop) : Prop := ∃ A, CompIs f a A ∧ K (nI (smL lnW A.1.1 A.1.1.length)) f
theorem wX7_crossingsOfAll (P : Sk) (f : St) (a : Nat) (ha : IsComp P a) (K : Int32 → St → Prop) (h : kX7_crossingsOfAll P f a K) : WX7_crossingsOfAll P f a K := by
  obtain ⟨A, hC, hK⟩ := h
  have h6 := hC.2.2.2.2.2.1
  have hl6 := h6.1
  refine ⟨fun g x1 x2 => ∃ k, x2 = nI k ∧ g = f ∧ k ≤ A.1.1.length ∧ x1 = nI (smL lnW A.1.1 k), fun g x1 x2 => A.1.1.length - x2.toNatClampNeg, ?_, ?_⟩
  · unfold vX7_crossingsOfAll
    exact ⟨0, rfl, rfl, Nat.zero_le _, rfl⟩
  · rintro g x1 x2 ⟨k, rfl, rfl, hk, rfl⟩
    unfold bX7_crossingsOfAll_4
    refine u0_size hC.2.1.1 ?_
    rw [nI_leI (by omega) (by omega)]
    refine ⟨fun q => ?_, fun q => ?_⟩
    · rw [show k = A.1.1.length by omega]
      exact hK
    · obtain ⟨hb, hb2⟩ := hasB_n (i := k) (show k < A.1.1.length by omega) h6
      have hL := hC.2.1.atP h6 hb
      rw [hb2] at hL
      refine u6_size hL.1.2.1 ?_
      rw [nI_add, nI_1]
      exact fun x e y e2 => ⟨⟨k + 1, e2, rfl, by omega, e⟩, mu_up e2 (by omega) (by omega)⟩

theorem metX7_crossingsOfAll (l : Launch) (G : Gl) (P : Sk) (f : St) (sz : Nat) (a : Nat) (ha : IsComp P a) (K : Int32 → St → Prop) (h : kX7_crossingsOfAll P f a K) : Met l yX7_crossingsOfAll (wU yX7_crossingsOfAll cX7_crossingsOfAll 3 (some .int)) rmX7_crossingsOfAll (PcW G P f sz [.ref a]) (QcI G P sz K) 0 0 (frA P sz) := by
  obtain ⟨I4, μ4, qh, qh4⟩ := wX7_crossingsOfAll P f a ha K h
  exact mX7_crossingsOfAll l G P f sz a ha K I4 μ4 qh qh4

def bX7_doughUsedByStrands_4 (P : Sk) (a : Nat) (L4 : St → Int32 → Int32 → Prop) (K : Int32 → St → Prop) (f : St) (x1 : Int32) (x2 : Int32) : Prop :=
  kX0_size P f (a + 4) (fun r9 g9 => (r9 ≤ x2 → K x1 g9) ∧ (¬ r9 ≤ x2 → kX5_doughUsedByAll P g9 ((atB (a + 4) x2) + 7) (fun r27 g27 => ∀ x1_31 : Int32, x1_31 = x1 + r27 → ∀ x2_32 : Int32, x2_32 = x2 + 1 → L4 g27 x1_31 x2_32)))
def vX7_doughUsedByStrands (P : Sk) (f : St) (a : Nat) (L4 : St → Int32 → Int32 → Prop) (K : Int32 → St → Prop) : Prop :=
  L4 f 0 0
set_option maxRecDepth 20000 in
set_option maxHeartbeats 4000000 in
theorem mX7_doughUsedByStrands (l : Launch) (G : Gl) (P : Sk) (f : St) (sz : Nat) (a : Nat) (ha : IsComp P a) (K : Int32 → St → Prop) (I4 : St → Int32 → Int32 → Prop) (μ4 : St → Int32 → Int32 → Nat) 
  (h : vX7_doughUsedByStrands P f a I4 K)
  (h4 : ∀ (g : St) (x1 : Int32) (x2 : Int32) , I4 g x1 x2 → bX7_doughUsedByStrands_4 P a (fun g' z0 z1 => I4 g' z0 z1 ∧ μ4 g' z0 z1 < μ4 g x1 x2) K g x1 x2) :
  Met l yX7_doughUsedByStrands (wU yX7_doughUsedByStrands cX7_doughUsedByStrands 3 (some .int)) rmX7_doughUsedByStrands (PcW G P f sz [.ref a]) (QcI G P sz K) 0 0 (frA P sz) := by
  refine v_met (own := RX7) [.ref a] (by decide +kernel) rfl (Nat.le_of_ble_eq_true rfl) (fun p e s m args below meth c hsz o hr hnm => ?_)
  refine v_lv (lv2 := [(0, .ref a)]) rfl ?_
  have main : ∀ n : Nat, (∀ (g : St) (x1 : Int32) (x2 : Int32) , I4 g x1 x2 → μ4 g x1 x2 < n → V p l e rmX7_doughUsedByStrands s m args below meth c 3 G (frA P sz) (MQ below (QcI G P sz K) args s 0 0 (frA P sz)) 0 0 P [(0, .ref a), (1, .int x1), (2, .int x2)] [] 4 g) := by
    intro n
    induction n with
    | zero => exact fun g x1 x2 hI hm => absurd hm (Nat.not_lt_zero _)
    | succ n ih =>
      intro g x1 x2 hI hm
      have h := h4 g x1 x2 hI
      clear hI
      unfold bX7_doughUsedByStrands_4 at h
      refine v_iload_n o 2 dX7_doughUsedByStrands_4 rfl ?_
      refine v_aload_n o 0 dX7_doughUsedByStrands_5 rfl ?_
      refine v_gfR o lkX7_19 (by decide) (wfComp_o ha) (wfComp_r1 ha) dX7_doughUsedByStrands_6 ?_
      refine v_cVi o [] [.int x2] (fun sz => metX0_size l G P g sz (a + 4) (wfComp_t1 ha) _ h) (cwX7_65 o.1.2.2.2.2 (by decide)) ⟨_, _, rfl⟩ (by decide) (wfBoard_o (wfComp_t1 ha)) rfl (Nat.le_of_ble_eq_true rfl) ⟨Nat.le_of_ble_eq_true rfl, Nat.le_of_ble_eq_true rfl⟩ dX7_doughUsedByStrands_9 rfl (fun r9 g9 h => ?_)
      refine v_icmp_ge o (tgt := 38) dX7_doughUsedByStrands_12 (by decide) (fun c12 => ?_) (fun c12 => ?_)
      · replace h := h.1 c12
        refine v_iload_n o 1 dX7_doughUsedByStrands_38 rfl ?_
        exact v_iret o rfl hr dX7_doughUsedByStrands_39 h
      · replace h := h.2 c12
        refine v_iload_n o 1 dX7_doughUsedByStrands_15 rfl ?_
        refine v_aload_n o 0 dX7_doughUsedByStrands_16 rfl ?_
        refine v_gfR o lkX7_19 (by decide) (wfComp_o ha) (wfComp_r1 ha) dX7_doughUsedByStrands_17 ?_
        refine v_iload_n o 2 dX7_doughUsedByStrands_20 rfl ?_
        refine v_cVr o [.int x2] [.int x1] (fun sz => metX0_at l G P g9 sz (a + 4) (wfComp_t1 ha) x2) (cwX7_102 o.1.2.2.2.2 (by decide)) ⟨_, _, rfl⟩ (by decide) (wfBoard_o (wfComp_t1 ha)) rfl (Nat.le_of_ble_eq_true rfl) ⟨Nat.le_of_ble_eq_true rfl, Nat.le_of_ble_eq_true rfl⟩ dX7_doughUsedByStrands_21 rfl (fun r21 g21 h21 => ?_)
        obtain ⟨rfl, rfl⟩ := h21
        refine v_cVr o [] [.int x1] (fun sz => metX2_trace l G P g9 sz (atB (a + 4) x2) (is_atB (wfComp_t1 ha) x2)) (cwX7_124 o.1.2.2.2.2 (by decide)) ⟨_, _, rfl⟩ (by decide) (wfLoaf_o (is_atB (wfComp_t1 ha) x2)) rfl (Nat.le_of_ble_eq_true rfl) ⟨Nat.le_of_ble_eq_true rfl, Nat.le_of_ble_eq_true rfl⟩ dX7_doughUsedByStrands_24 rfl (fun r24 g24 h24 => ?_)
        obtain ⟨rfl, rfl⟩ := h24
        refine v_cVi o [] [.int x1] (fun sz => metX5_doughUsedByAll l G P g9 sz ((atB (a + 4) x2) + 7) (wfLoaf_t2 (is_atB (wfComp_t1 ha) x2)) _ h) (cwX7_331 o.1.2.2.2.2 (by decide)) ⟨_, _, rfl⟩ (by decide) (wfTrace_o (wfLoaf_t2 (is_atB (wfComp_t1 ha) x2))) rfl (Nat.le_of_ble_eq_true rfl) ⟨Nat.le_of_ble_eq_true rfl, Nat.le_of_ble_eq_true rfl⟩ dX7_doughUsedByStrands_27 rfl (fun r27 g27 h => ?_)
        refine v_iadd o dX7_doughUsedByStrands_30 ?_
        refine v_topi (fun x1_31 ex1_31 => ?_)
        replace h := h x1_31 ex1_31
        refine v_istore_n o (lv' := [(1, .int x1_31), (0, .ref a), (2, .int x2)]) dX7_doughUsedByStrands_31 rfl (by decide) rfl ?_
        obtain ⟨x2_32, ex2_32⟩ : ∃ y : Int32, y = x2 + 1 := ⟨_, rfl⟩
        replace h := h x2_32 ex2_32
        refine v_iinc o (v := x2_32) (lv' := [(2, .int x2_32), (1, .int x1_31), (0, .ref a)]) 2 dX7_doughUsedByStrands_32 rfl (by rw [ex2_32]; rfl) (by decide) rfl ?_
        refine v_goto o (tgt := 4) dX7_doughUsedByStrands_35 (by decide) ?_
        refine v_sub [2, 1, 0] (lv2 := [(0, .ref a), (1, .int x1_31), (2, .int x2_32)]) rfl ?_
        exact ih g27 x1_31 x2_32  h.1 (by have := h.2; omega)
  unfold vX7_doughUsedByStrands at h
  refine v_iconst o (v := 0) dX7_doughUsedByStrands_0 (by decide) ?_
  refine v_istore_n o (lv' := [(1, .int 0), (0, .ref a)]) dX7_doughUsedByStrands_1 rfl (by decide) rfl ?_
  refine v_iconst o (v := 0) dX7_doughUsedByStrands_2 (by decide) ?_
  refine v_istore_n o (lv' := [(2, .int 0), (1, .int 0), (0, .ref a)]) dX7_doughUsedByStrands_3 rfl (by decide) rfl ?_
  refine v_sub [2, 1, 0] (lv2 := [(0, .ref a), (1, .int 0), (2, .int 0)]) rfl ?_
  exact (main (μ4 f 0 0 + 1)) f 0 0  h (Nat.lt_succ_self _)
def WX7_doughUsedByStrands (P : Sk) (f : St) (a : Nat) (K : Int32 → St → Prop) : Prop := ∃ (I4 : St → Int32 → Int32 → Prop) (μ4 : St → Int32 → Int32 → Nat), (vX7_doughUsedByStrands P f a I4 K) ∧ (∀ (g : St) (x1 : Int32) (x2 : Int32) , I4 g x1 x2 → bX7_doughUsedByStrands_4 P a (fun g' z0 z1 => I4 g' z0 z1 ∧ μ4 g' z0 z1 < μ4 g x1 x2) K g x1 x2)
theorem smL_3 (ls : List Lf) : ∀ k, smL (fun y => 3 * lnW y) ls k = 3 * smL lnW ls k
  | 0 => rfl
  | k + 1 => by
    simp only [smL, smL_3 ls k]
    omega
def kX7_doughUsedByStrands (P : Sk) (f : St) (a : Nat) (K : Int32 → St → Prop) : Prop := ∃ A, CompIs f a A ∧ K (nI (3 * smL lnW A.1.1 A.1.1.length)) f
theorem wX7_doughUsedByStrands (P : Sk) (f : St) (a : Nat) (ha : IsComp P a) (K : Int32 → St → Prop) (h : kX7_doughUsedByStrands P f a K) : WX7_doughUsedByStrands P f a K := by
  obtain ⟨A, hC, hK⟩ := h
  have h6 := hC.2.2.2.2.2.1
  have hl6 := h6.1
  refine ⟨fun g x1 x2 => ∃ k, x2 = nI k ∧ g = f ∧ k ≤ A.1.1.length ∧ x1 = nI (smL (fun y => 3 * lnW y) A.1.1 k), fun g x1 x2 => A.1.1.length - x2.toNatClampNeg, ?_, ?_⟩
  · unfold vX7_doughUsedByStrands
    exact ⟨0, rfl, rfl, Nat.zero_le _, rfl⟩
  · rintro g x1 x2 ⟨k, rfl, rfl, hk, rfl⟩
    unfold bX7_doughUsedByStrands_4
    refine u0_size hC.2.1.1 ?_
    rw [nI_leI (by omega) (by omega)]
    refine ⟨fun q => ?_, fun q => ?_⟩
    · rw [show k = A.1.1.length by omega, smL_3]
      exact hK
    · obtain ⟨hb, hb2⟩ := hasB_n (i := k) (show k < A.1.1.length by omega) h6
      have hL := hC.2.1.atP h6 hb
      rw [hb2] at hL
      refine ⟨_, _, hL.2.2, (h6.at (by omega)).1, ?_⟩
      intro x e y e2
      rw [nI_add] at e
      rw [nI_1] at e2
      exact ⟨⟨k + 1, e2, rfl, by omega, e⟩, mu_up e2 (by omega) (by omega)⟩

theorem metX7_doughUsedByStrands (l : Launch) (G : Gl) (P : Sk) (f : St) (sz : Nat) (a : Nat) (ha : IsComp P a) (K : Int32 → St → Prop) (h : kX7_doughUsedByStrands P f a K) : Met l yX7_doughUsedByStrands (wU yX7_doughUsedByStrands cX7_doughUsedByStrands 3 (some .int)) rmX7_doughUsedByStrands (PcW G P f sz [.ref a]) (QcI G P sz K) 0 0 (frA P sz) := by
  obtain ⟨I4, μ4, qh, qh4⟩ := wX7_doughUsedByStrands P f a ha K h
  exact mX7_doughUsedByStrands l G P f sz a ha K I4 μ4 qh qh4

def jX7_kinds_27 (P : Sk) (a : Nat) (L4 : St → Int32 → Int32 → Prop) (K : Int32 → St → Prop) (x1 : Int32) (x2 : Int32) (f : St) : Prop :=
  ∀ x2_27 : Int32, x2_27 = x2 + 1 → L4 f x1 x2_27
def bX7_kinds_4 (P : Sk) (a : Nat) (L4 : St → Int32 → Int32 → Prop) (K : Int32 → St → Prop) (f : St) (x1 : Int32) (x2 : Int32) : Prop :=
  kX0_size P f (a + 4) (fun r9 g9 => (r9 ≤ x2 → K x1 g9) ∧ (¬ r9 ≤ x2 → kX7_firstAlike P g9 a x2 (fun r17 g17 => (¬ r17 = x2 → jX7_kinds_27 P a L4 K x1 x2 g17) ∧ (r17 = x2 → ∀ x1_24 : Int32, x1_24 = x1 + 1 → jX7_kinds_27 P a L4 K x1_24 x2 g17))))
def vX7_kinds (P : Sk) (f : St) (a : Nat) (L4 : St → Int32 → Int32 → Prop) (K : Int32 → St → Prop) : Prop :=
  L4 f 0 0
set_option maxRecDepth 20000 in
set_option maxHeartbeats 4000000 in
theorem mX7_kinds (l : Launch) (G : Gl) (P : Sk) (f : St) (sz : Nat) (a : Nat) (ha : IsComp P a) (K : Int32 → St → Prop) (I4 : St → Int32 → Int32 → Prop) (μ4 : St → Int32 → Int32 → Nat) 
  (h : vX7_kinds P f a I4 K)
  (h4 : ∀ (g : St) (x1 : Int32) (x2 : Int32) , I4 g x1 x2 → bX7_kinds_4 P a (fun g' z0 z1 => I4 g' z0 z1 ∧ μ4 g' z0 z1 < μ4 g x1 x2) K g x1 x2) :
  Met l yX7_kinds (wU yX7_kinds cX7_kinds 3 (some .int)) rmX7_kinds (PcW G P f sz [.ref a]) (QcI G P sz K) 0 0 (frA P sz) := by
  refine v_met (own := RX7) [.ref a] (by decide +kernel) rfl (Nat.le_of_ble_eq_true rfl) (fun p e s m args below meth c hsz o hr hnm => ?_)
  refine v_lv (lv2 := [(0, .ref a)]) rfl ?_
  have main : ∀ n : Nat, (∀ (g : St) (x1 : Int32) (x2 : Int32) , I4 g x1 x2 → μ4 g x1 x2 < n → V p l e rmX7_kinds s m args below meth c 3 G (frA P sz) (MQ below (QcI G P sz K) args s 0 0 (frA P sz)) 0 0 P [(0, .ref a), (1, .int x1), (2, .int x2)] [] 4 g) := by
    intro n
    induction n with
    | zero => exact fun g x1 x2 hI hm => absurd hm (Nat.not_lt_zero _)
    | succ n ih =>
      intro g x1 x2 hI hm
      have h := h4 g x1 x2 hI
      clear hI
      have J27 : ∀ (x1_27 : Int32) (x2_27 : Int32) (g27 : St), jX7_kinds_27 P a (fun g' z0 z1 => I4 g' z0 z1 ∧ μ4 g' z0 z1 < μ4 g x1 x2) K x1_27 x2_27 g27 → V p l e rmX7_kinds s m args below meth c 3 G (frA P sz) (MQ below (QcI G P sz K) args s 0 0 (frA P sz)) 0 0 P [(0, .ref a), (1, .int x1_27), (2, .int x2_27)] [] 27 g27 := by
        intro x1_27 x2_27 g27  h
        unfold jX7_kinds_27 at h
        obtain ⟨x2_27, ex2_27⟩ : ∃ y : Int32, y = x2_27 + 1 := ⟨_, rfl⟩
        replace h := h x2_27 ex2_27
        refine v_iinc o (v := x2_27) (lv' := [(2, .int x2_27), (0, .ref a), (1, .int x1_27)]) 2 dX7_kinds_27 rfl (by rw [ex2_27]; rfl) (by decide) rfl ?_
        refine v_goto o (tgt := 4) dX7_kinds_30 (by decide) ?_
        refine v_sub [1, 2, 0] (lv2 := [(0, .ref a), (1, .int x1_27), (2, .int x2_27)]) rfl ?_
        exact ih g27 x1_27 x2_27  h.1 (by have := h.2; omega)
      unfold bX7_kinds_4 at h
      refine v_iload_n o 2 dX7_kinds_4 rfl ?_
      refine v_aload_n o 0 dX7_kinds_5 rfl ?_
      refine v_gfR o lkX7_19 (by decide) (wfComp_o ha) (wfComp_r1 ha) dX7_kinds_6 ?_
      refine v_cVi o [] [.int x2] (fun sz => metX0_size l G P g sz (a + 4) (wfComp_t1 ha) _ h) (cwX7_65 o.1.2.2.2.2 (by decide)) ⟨_, _, rfl⟩ (by decide) (wfBoard_o (wfComp_t1 ha)) rfl (Nat.le_of_ble_eq_true rfl) ⟨Nat.le_of_ble_eq_true rfl, Nat.le_of_ble_eq_true rfl⟩ dX7_kinds_9 rfl (fun r9 g9 h => ?_)
      refine v_icmp_ge o (tgt := 33) dX7_kinds_12 (by decide) (fun c12 => ?_) (fun c12 => ?_)
      · replace h := h.1 c12
        refine v_iload_n o 1 dX7_kinds_33 rfl ?_
        exact v_iret o rfl hr dX7_kinds_34 h
      · replace h := h.2 c12
        refine v_aload_n o 0 dX7_kinds_15 rfl ?_
        refine v_iload_n o 2 dX7_kinds_16 rfl ?_
        refine v_cVi o [.int x2] [] (fun sz => metX7_firstAlike l G P g9 sz a ha x2 _ h) (cwX7_319 o.1.2.2.2.2 (by decide)) ⟨_, _, rfl⟩ (by decide) (wfComp_o ha) rfl (Nat.le_of_ble_eq_true rfl) ⟨Nat.le_of_ble_eq_true rfl, Nat.le_of_ble_eq_true rfl⟩ dX7_kinds_17 rfl (fun r17 g17 h => ?_)
        refine v_iload_n o 2 dX7_kinds_20 rfl ?_
        refine v_icmp_ne o (tgt := 27) dX7_kinds_21 (by decide) (fun c21 => ?_) (fun c21 => ?_)
        · replace h := h.1 c21
          refine v_sub [0, 1, 2] (lv2 := [(0, .ref a), (1, .int x1), (2, .int x2)]) rfl ?_
          exact J27 x1 x2 g17  h
        · replace h := h.2 c21
          obtain ⟨x1_24, ex1_24⟩ : ∃ y : Int32, y = x1 + 1 := ⟨_, rfl⟩
          replace h := h x1_24 ex1_24
          refine v_iinc o (v := x1_24) (lv' := [(1, .int x1_24), (0, .ref a), (2, .int x2)]) 1 dX7_kinds_24 rfl (by rw [ex1_24]; rfl) (by decide) rfl ?_
          refine v_sub [1, 0, 2] (lv2 := [(0, .ref a), (1, .int x1_24), (2, .int x2)]) rfl ?_
          exact J27 x1_24 x2 g17  h
  unfold vX7_kinds at h
  refine v_iconst o (v := 0) dX7_kinds_0 (by decide) ?_
  refine v_istore_n o (lv' := [(1, .int 0), (0, .ref a)]) dX7_kinds_1 rfl (by decide) rfl ?_
  refine v_iconst o (v := 0) dX7_kinds_2 (by decide) ?_
  refine v_istore_n o (lv' := [(2, .int 0), (1, .int 0), (0, .ref a)]) dX7_kinds_3 rfl (by decide) rfl ?_
  refine v_sub [2, 1, 0] (lv2 := [(0, .ref a), (1, .int 0), (2, .int 0)]) rfl ?_
  exact (main (μ4 f 0 0 + 1)) f 0 0  h (Nat.lt_succ_self _)
def WX7_kinds (P : Sk) (f : St) (a : Nat) (K : Int32 → St → Prop) : Prop := ∃ (I4 : St → Int32 → Int32 → Prop) (μ4 : St → Int32 → Int32 → Nat), (vX7_kinds P f a I4 K) ∧ (∀ (g : St) (x1 : Int32) (x2 : Int32) , I4 g x1 x2 → bX7_kinds_4 P a (fun g' z0 z1 => I4 g' z0 z1 ∧ μ4 g' z0 z1 < μ4 g x1 x2) K g x1 x2)
noncomputable def kdN (ls : List Lf) : Nat → Nat
  | 0 => 0
  | k + 1 => if fa ls k = k then kdN ls k + 1 else kdN ls k
theorem kdN_le (ls : List Lf) : ∀ k, kdN ls k ≤ k
  | 0 => Nat.le_refl _
  | k + 1 => by
    have := kdN_le ls k
    simp only [kdN]
    split <;> omega
def kX7_kinds (P : Sk) (f : St) (a : Nat) (K : Int32 → St → Prop) : Prop := ∃ A, CompIs f a A ∧ K (nI (kdN A.1.1 A.1.1.length)) f
theorem wX7_kinds (P : Sk) (f : St) (a : Nat) (ha : IsComp P a) (K : Int32 → St → Prop) (h : kX7_kinds P f a K) : WX7_kinds P f a K := by
  obtain ⟨A, hC, hK⟩ := h
  have h6 := hC.2.2.2.2.2.1
  have hl6 := h6.1
  refine ⟨fun g x1 x2 => ∃ k, x2 = nI k ∧ g = f ∧ k ≤ A.1.1.length ∧ x1 = nI (kdN A.1.1 k), fun g x1 x2 => A.1.1.length - x2.toNatClampNeg, ?_, ?_⟩
  · unfold vX7_kinds
    exact ⟨0, rfl, rfl, Nat.zero_le _, rfl⟩
  · rintro g x1 x2 ⟨k, rfl, rfl, hk, rfl⟩
    unfold bX7_kinds_4
    refine u0_size hC.2.1.1 ?_
    rw [nI_leI (by omega) (by omega)]
    refine ⟨fun q => ?_, fun q => ?_⟩
    · rw [show k = A.1.1.length by omega]
      exact hK
    · refine ⟨A, k, rfl, by omega, hC, ?_⟩
      have := fa_le A.1.1 k
      change _ ∧ _
      rw [nI_eq (by omega) (by omega), nI_1]
      unfold jX7_kinds_27
      rw [nI_1]
      refine ⟨fun q2 y e2 => ⟨⟨k + 1, e2, rfl, by omega, ?_⟩, mu_up e2 (by omega) (by omega)⟩, fun q2 x e y e2 => ⟨⟨k + 1, e2, rfl, by omega, ?_⟩, mu_up e2 (by omega) (by omega)⟩⟩
      · rw [kdN, if_neg q2]
      · rw [kdN, if_pos q2]
        exact e

theorem metX7_kinds (l : Launch) (G : Gl) (P : Sk) (f : St) (sz : Nat) (a : Nat) (ha : IsComp P a) (K : Int32 → St → Prop) (h : kX7_kinds P f a K) : Met l yX7_kinds (wU yX7_kinds cX7_kinds 3 (some .int)) rmX7_kinds (PcW G P f sz [.ref a]) (QcI G P sz K) 0 0 (frA P sz) := by
  obtain ⟨I4, μ4, qh, qh4⟩ := wX7_kinds P f a ha K h
  exact mX7_kinds l G P f sz a ha K I4 μ4 qh qh4

def vX7_numberOfBoard (P : Sk) (f : St) (a : Nat) (p1 : Int32) (K : Int32 → St → Prop) : Prop :=
  (p1 = 0 → kX0_size P f (a + 4) (fun r44 g44 => K r44 g44)) ∧ (¬ p1 = 0 → (p1 = 1 → kX7_crossingsOfAll P f a (fun r49 g49 => K r49 g49)) ∧ (¬ p1 = 1 → (p1 = 2 → kX7_doughUsedByStrands P f a (fun r54 g54 => K r54 g54)) ∧ (¬ p1 = 2 → (p1 = 3 → kX7_crossingsOfAll P f a (fun r60 g60 => K (3 * r60) g60)) ∧ (¬ p1 = 3 → (p1 = 4 → kX7_kinds P f a (fun r66 g66 => K r66 g66)) ∧ (¬ p1 = 4 → (p1 = 5 → kX0_changes P f (a + 4) (fun r74 g74 => K r74 g74)) ∧ (¬ p1 = 5 → kX1_size P f (a + 160) (fun r82 g82 => K r82 g82)))))))
set_option maxRecDepth 20000 in
set_option maxHeartbeats 4000000 in
theorem mX7_numberOfBoard (l : Launch) (G : Gl) (P : Sk) (f : St) (sz : Nat) (a : Nat) (ha : IsComp P a) (p1 : Int32) (K : Int32 → St → Prop) (h : vX7_numberOfBoard P f a p1 K)  :
  Met l yX7_numberOfBoard (wU yX7_numberOfBoard cX7_numberOfBoard 2 (some .int)) rmX7_numberOfBoard (PcW G P f sz [.ref a, .int p1]) (QcI G P sz K) 0 0 (frA P sz) := by
  refine v_met (own := RX7) [.ref a, .int p1] (by decide +kernel) rfl (Nat.le_of_ble_eq_true rfl) (fun p e s m args below meth c hsz o hr hnm => ?_)
  refine v_lv (lv2 := [(0, .ref a), (1, .int p1)]) rfl ?_
  unfold vX7_numberOfBoard at h
  refine v_iload_n o 1 dX7_numberOfBoard_0 rfl ?_
  by_cases c1_0 : p1 = 0
  · replace h := h.1 c1_0
    refine v_tableIn o (off := 39) (tgt := 40) dX7_numberOfBoard_1 (by rw [c1_0]; decide) (by rw [c1_0]; decide) (by rw [c1_0]; decide) (by decide) ?_
    refine v_aload_n o 0 dX7_numberOfBoard_40 rfl ?_
    refine v_gfR o lkX7_19 (by decide) (wfComp_o ha) (wfComp_r1 ha) dX7_numberOfBoard_41 ?_
    refine v_cVi o [] [] (fun sz => metX0_size l G P f sz (a + 4) (wfComp_t1 ha) _ h) (cwX7_65 o.1.2.2.2.2 (by decide)) ⟨_, _, rfl⟩ (by decide) (wfBoard_o (wfComp_t1 ha)) rfl (Nat.le_of_ble_eq_true rfl) ⟨Nat.le_of_ble_eq_true rfl, Nat.le_of_ble_eq_true rfl⟩ dX7_numberOfBoard_44 rfl (fun r44 g44 h => ?_)
    exact v_iret o rfl hr dX7_numberOfBoard_47 h
  · replace h := h.2 c1_0
    by_cases c1_1 : p1 = 1
    · replace h := h.1 c1_1
      refine v_tableIn o (off := 47) (tgt := 48) dX7_numberOfBoard_1 (by rw [c1_1]; decide) (by rw [c1_1]; decide) (by rw [c1_1]; decide) (by decide) ?_
      refine v_aload_n o 0 dX7_numberOfBoard_48 rfl ?_
      refine v_cVi o [] [] (fun sz => metX7_crossingsOfAll l G P f sz a ha _ h) (cwX7_227 o.1.2.2.2.2 (by decide)) ⟨_, _, rfl⟩ (by decide) (wfComp_o ha) rfl (Nat.le_of_ble_eq_true rfl) ⟨Nat.le_of_ble_eq_true rfl, Nat.le_of_ble_eq_true rfl⟩ dX7_numberOfBoard_49 rfl (fun r49 g49 h => ?_)
      exact v_iret o rfl hr dX7_numberOfBoard_52 h
    · replace h := h.2 c1_1
      by_cases c1_2 : p1 = 2
      · replace h := h.1 c1_2
        refine v_tableIn o (off := 52) (tgt := 53) dX7_numberOfBoard_1 (by rw [c1_2]; decide) (by rw [c1_2]; decide) (by rw [c1_2]; decide) (by decide) ?_
        refine v_aload_n o 0 dX7_numberOfBoard_53 rfl ?_
        refine v_cVi o [] [] (fun sz => metX7_doughUsedByStrands l G P f sz a ha _ h) (cwX7_322 o.1.2.2.2.2 (by decide)) ⟨_, _, rfl⟩ (by decide) (wfComp_o ha) rfl (Nat.le_of_ble_eq_true rfl) ⟨Nat.le_of_ble_eq_true rfl, Nat.le_of_ble_eq_true rfl⟩ dX7_numberOfBoard_54 rfl (fun r54 g54 h => ?_)
        exact v_iret o rfl hr dX7_numberOfBoard_57 h
      · replace h := h.2 c1_2
        by_cases c1_3 : p1 = 3
        · replace h := h.1 c1_3
          refine v_tableIn o (off := 57) (tgt := 58) dX7_numberOfBoard_1 (by rw [c1_3]; decide) (by rw [c1_3]; decide) (by rw [c1_3]; decide) (by decide) ?_
          refine v_iconst o (v := 3) dX7_numberOfBoard_58 (by decide) ?_
          refine v_aload_n o 0 dX7_numberOfBoard_59 rfl ?_
          refine v_cVi o [] [.int 3] (fun sz => metX7_crossingsOfAll l G P f sz a ha _ h) (cwX7_227 o.1.2.2.2.2 (by decide)) ⟨_, _, rfl⟩ (by decide) (wfComp_o ha) rfl (Nat.le_of_ble_eq_true rfl) ⟨Nat.le_of_ble_eq_true rfl, Nat.le_of_ble_eq_true rfl⟩ dX7_numberOfBoard_60 rfl (fun r60 g60 h => ?_)
          refine v_imul o dX7_numberOfBoard_63 ?_
          exact v_iret o rfl hr dX7_numberOfBoard_64 h
        · replace h := h.2 c1_3
          by_cases c1_4 : p1 = 4
          · replace h := h.1 c1_4
            refine v_tableIn o (off := 64) (tgt := 65) dX7_numberOfBoard_1 (by rw [c1_4]; decide) (by rw [c1_4]; decide) (by rw [c1_4]; decide) (by decide) ?_
            refine v_aload_n o 0 dX7_numberOfBoard_65 rfl ?_
            refine v_cVi o [] [] (fun sz => metX7_kinds l G P f sz a ha _ h) (cwX7_325 o.1.2.2.2.2 (by decide)) ⟨_, _, rfl⟩ (by decide) (wfComp_o ha) rfl (Nat.le_of_ble_eq_true rfl) ⟨Nat.le_of_ble_eq_true rfl, Nat.le_of_ble_eq_true rfl⟩ dX7_numberOfBoard_66 rfl (fun r66 g66 h => ?_)
            exact v_iret o rfl hr dX7_numberOfBoard_69 h
          · replace h := h.2 c1_4
            by_cases c1_5 : p1 = 5
            · replace h := h.1 c1_5
              refine v_tableIn o (off := 69) (tgt := 70) dX7_numberOfBoard_1 (by rw [c1_5]; decide) (by rw [c1_5]; decide) (by rw [c1_5]; decide) (by decide) ?_
              refine v_aload_n o 0 dX7_numberOfBoard_70 rfl ?_
              refine v_gfR o lkX7_19 (by decide) (wfComp_o ha) (wfComp_r1 ha) dX7_numberOfBoard_71 ?_
              refine v_cVi o [] [] (fun sz => metX0_changes l G P f sz (a + 4) (wfComp_t1 ha) _ h) (cwX7_328 o.1.2.2.2.2 (by decide)) ⟨_, _, rfl⟩ (by decide) (wfBoard_o (wfComp_t1 ha)) rfl (Nat.le_of_ble_eq_true rfl) ⟨Nat.le_of_ble_eq_true rfl, Nat.le_of_ble_eq_true rfl⟩ dX7_numberOfBoard_74 rfl (fun r74 g74 h => ?_)
              exact v_iret o rfl hr dX7_numberOfBoard_77 h
            · replace h := h.2 c1_5
              refine v_tableOut o (tgt := 78) dX7_numberOfBoard_1 (by have q0 := lv_neT c1_0 (a := 0) (by decide); have q1 := lv_neT c1_1 (a := 1) (by decide); have q2 := lv_neT c1_2 (a := 2) (by decide); have q3 := lv_neT c1_3 (a := 3) (by decide); have q4 := lv_neT c1_4 (a := 4) (by decide); have q5 := lv_neT c1_5 (a := 5) (by decide); omega) (by decide) ?_
              refine v_aload_n o 0 dX7_numberOfBoard_78 rfl ?_
              refine v_gfR o lkX7_26 (by decide) (wfComp_o ha) (wfComp_r2 ha) dX7_numberOfBoard_79 ?_
              refine v_cVi o [] [] (fun sz => metX1_size l G P f sz (a + 160) (wfComp_t2 ha) _ h) (cwX7_190 o.1.2.2.2.2 (by decide)) ⟨_, _, rfl⟩ (by decide) (wfHist_o (wfComp_t2 ha)) rfl (Nat.le_of_ble_eq_true rfl) ⟨Nat.le_of_ble_eq_true rfl, Nat.le_of_ble_eq_true rfl⟩ dX7_numberOfBoard_82 rfl (fun r82 g82 h => ?_)
              exact v_iret o rfl hr dX7_numberOfBoard_85 h
abbrev kX7_numberOfBoard := @vX7_numberOfBoard
abbrev metX7_numberOfBoard := @mX7_numberOfBoard
noncomputable def nB (A : Ab) (what : Nat) : Int32 := if what = 0 then nI A.1.1.length else if what = 1 then nI (smL lnW A.1.1 A.1.1.length) else if what = 2 then nI (3 * smL lnW A.1.1 A.1.1.length) else if what = 3 then nI (3 * smL lnW A.1.1 A.1.1.length) else if what = 4 then nI (kdN A.1.1 A.1.1.length) else if what = 5 then A.1.2.1 else nI A.2.1.length
theorem u7_numberOfBoard {P : Sk} {f : St} {x what : Nat} {A : Ab} {K : Int32 → St → Prop} (hC : CompIs f x A) (hw : what < 7) (hK : K (nB A what) f) : kX7_numberOfBoard P f x (nI what) K := by
  show vX7_numberOfBoard P f x (nI what) K
  unfold vX7_numberOfBoard
  unfold nB at hK
  have w : ∀ k, k < 2 ^ 31 → (nI what = nI k ↔ what = k) := fun k hk => nI_eq (by omega) hk
  rw [show (0 : Int32) = nI 0 from rfl, show (1 : Int32) = nI 1 from rfl, show (2 : Int32) = nI 2 from rfl, show (3 : Int32) = nI 3 from rfl, show (4 : Int32) = nI 4 from rfl, show (5 : Int32) = nI 5 from rfl, w 0 (by decide), w 1 (by decide), w 2 (by decide), w 3 (by decide), w 4 (by decide), w 5 (by decide)]
  refine ⟨fun q => ?_, fun q0 => ⟨fun q => ?_, fun q1 => ⟨fun q => ?_, fun q2 => ⟨fun q => ?_, fun q3 => ⟨fun q => ?_, fun q4 => ⟨fun q => ?_, fun q5 => ?_⟩⟩⟩⟩⟩⟩
  · rw [if_pos q] at hK
    exact u0_size hC.2.1.1 hK
  · rw [if_neg q0, if_pos q] at hK
    exact ⟨A, hC, hK⟩
  · rw [if_neg q0, if_neg q1, if_pos q] at hK
    exact ⟨A, hC, hK⟩
  · rw [if_neg q0, if_neg q1, if_neg q2, if_pos q] at hK
    refine ⟨A, hC, ?_⟩
    change K (nI 3 * nI (smL lnW A.1.1 A.1.1.length)) f
    rw [nI_mul]
    exact hK
  · rw [if_neg q0, if_neg q1, if_neg q2, if_neg q3, if_pos q] at hK
    exact ⟨A, hC, hK⟩
  · rw [if_neg q0, if_neg q1, if_neg q2, if_neg q3, if_neg q4, if_pos q] at hK
    show vX0_changes P f (x + 4) _
    unfold vX0_changes
    rw [hC.2.1.2.1]
    exact hK
  · rw [if_neg q0, if_neg q1, if_neg q2, if_neg q3, if_neg q4, if_neg q5] at hK
    exact u1_size hC.2.2.1.len hK

def vX7_count (P : Sk) (f : St) (a : Nat) (p1 : Int32) (K : Int32 → St → Prop) (X : String → St → Prop) : Prop :=
  kX7_needUpTo P f p1 6 (fun g3 => kX7_numberOfBoard P g3 a p1 (fun r8 g8 => K r8 g8)) X
set_option maxRecDepth 20000 in
set_option maxHeartbeats 4000000 in
theorem mX7_count (l : Launch) (G : Gl) (P : Sk) (f : St) (sz : Nat) (a : Nat) (ha : IsComp P a) (p1 : Int32) (K : Int32 → St → Prop) (h : vX7_count P f a p1 K XF)  :
  Met l yX7_count (wU yX7_count cX7_count 2 (some .int)) rmX7_count (PcW G P f sz [.ref a, .int p1]) (QcI G P sz K) 0 0 (frA P sz) := by
  refine v_met (own := RX7) [.ref a, .int p1] (by decide +kernel) rfl (Nat.le_of_ble_eq_true rfl) (fun p e s m args below meth c hsz o hr hnm => ?_)
  refine v_lv (lv2 := [(0, .ref a), (1, .int p1)]) rfl ?_
  unfold vX7_count at h
  refine v_iload_n o 1 dX7_count_0 rfl ?_
  refine v_bipush o (v := 6) dX7_count_1 (by decide) ?_
  refine v_cSv o [.int p1, .int 6] [] (fun sz => metX7_needUpTo l G P f sz p1 6 _ h) (cwX7_137 o.1.2.2.2.2 (by decide)) rfl (Nat.le_of_ble_eq_true rfl) ⟨Nat.le_of_ble_eq_true rfl, Nat.le_of_ble_eq_true rfl⟩ dX7_count_3 rfl (fun g3 h => ?_)
  refine v_aload_n o 0 dX7_count_6 rfl ?_
  refine v_iload_n o 1 dX7_count_7 rfl ?_
  refine v_cVi o [.int p1] [] (fun sz => metX7_numberOfBoard l G P g3 sz a ha p1 _ h) (cwX7_215 o.1.2.2.2.2 (by decide)) ⟨_, _, rfl⟩ (by decide) (wfComp_o ha) rfl (Nat.le_of_ble_eq_true rfl) ⟨Nat.le_of_ble_eq_true rfl, Nat.le_of_ble_eq_true rfl⟩ dX7_count_8 rfl (fun r8 g8 h => ?_)
  exact v_iret o rfl hr dX7_count_11 h
abbrev kX7_count := @vX7_count
abbrev metX7_count := @mX7_count
noncomputable def opCount (A : Ab) (p : Int32) : Re := cif (¬ p < 0 ∧ p.toNatClampNeg < 7) (0, nB A p.toNatClampNeg, A) (1, 0, A)
theorem u7_count {P : Sk} {f : St} {x : Nat} {A : Ab} {p : Int32} {K : Int32 → St → Prop} {X : String → St → Prop} (hC : CompIs f x A) (hK : Fin f x (opCount A p) K X "java/lang/IllegalArgumentException" "" "") : kX7_count P f x p K X := by
  show vX7_count P f x p K X
  unfold vX7_count
  unfold opCount at hK
  refine u7_upTo (m := 6) (by decide) (fun h1 h2 => ?_) (fun h => ?_)
  · rw [cif_pos ⟨h1, h2⟩] at hK
    rw [nI_cl h1]
    exact u7_numberOfBoard hC h2 ((hK f (Fr.refl _ _ _) hC).1 rfl)
  · rw [cif_neg (show ¬ (¬ p < 0 ∧ p.toNatClampNeg < 7) from h)] at hK
    exact (hK f (Fr.refl _ _ _) hC).2.1 rfl

