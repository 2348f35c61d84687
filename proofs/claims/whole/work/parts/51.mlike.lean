def bX8_likeness_29 (P : Sk) (a : Nat) (p1 : Int32) (p2 : Int32) (L29 : St → Int32 → Prop) (K : Int32 → St → Prop) (f : St) (x3 : Int32) : Prop :=
  (4 ≤ x3 → K 0 f) ∧ (¬ 4 ≤ x3 → kX8_takes P f a p1 (fun g36 => kX8_changes P g36 a (x3 - 1) (fun g43 => kX8_loosens P g43 a (fun g47 => kX8_isLikeOther P g47 a (fun r51 g51 => (r51 = 0 → ∀ x3_61 : Int32, x3_61 = x3 + 1 → L29 g51 x3_61) ∧ (¬ r51 = 0 → K (x3 + 1) g51))))))
def vX8_likeness (P : Sk) (f : St) (a : Nat) (p1 : Int32) (p2 : Int32) (L29 : St → Int32 → Prop) (K : Int32 → St → Prop) : Prop :=
  kX8_of P f a p1 0 (fun r3 g3 => kX8_of P g3 a p2 0 (fun r9 g9 => (r3 = r9 → kX8_looseLength P g9 a p2 (fun r19 g19 => kX8_keepsOther P g19 a (fun g24 => L29 g24 0))) ∧ (¬ r3 = r9 → K 0 g9)))
set_option maxRecDepth 20000 in
set_option maxHeartbeats 4000000 in
theorem mX8_likeness (l : Launch) (G : Gl) (P : Sk) (f : St) (sz : Nat) (a : Nat) (ha : IsModel P a) (p1 : Int32) (p2 : Int32) (K : Int32 → St → Prop) (I29 : St → Int32 → Prop) (μ29 : St → Int32 → Nat) 
  (h : vX8_likeness P f a p1 p2 I29 K)
  (h29 : ∀ (g : St) (x3 : Int32) , I29 g x3 → bX8_likeness_29 P a p1 p2 (fun g' z0 => I29 g' z0 ∧ μ29 g' z0 < μ29 g x3) K g x3) :
  Met l yX8_likeness (wU yX8_likeness cX8_likeness 4 (some .int)) rmX8_likeness (PcW G P f sz [.ref a, .int p1, .int p2]) (QcI G P sz K) 0 0 (frA P sz) := by
  refine v_met (own := RX8) [.ref a, .int p1, .int p2] (by decide +kernel) rfl (Nat.le_of_ble_eq_true rfl) (fun p e s m args below meth c hsz o hr hnm => ?_)
  refine v_lv (lv2 := [(0, .ref a), (1, .int p1), (2, .int p2)]) rfl ?_
  have main : ∀ n : Nat, (∀ (g : St) (x3 : Int32) , I29 g x3 → μ29 g x3 < n → V p l e rmX8_likeness s m args below meth c 4 G (frA P sz) (MQ below (QcI G P sz K) args s 0 0 (frA P sz)) 0 0 P [(0, .ref a), (1, .int p1), (2, .int p2), (3, .int x3)] [] 29 g) := by
    intro n
    induction n with
    | zero => exact fun g x3 hI hm => absurd hm (Nat.not_lt_zero _)
    | succ n ih =>
      intro g x3 hI hm
      have h := h29 g x3 hI
      clear hI
      unfold bX8_likeness_29 at h
      refine v_iload_n o 3 dX8_likeness_29 rfl ?_
      refine v_iconst o (v := 4) dX8_likeness_30 (by decide) ?_
      refine v_icmp_ge o (tgt := 67) dX8_likeness_31 (by decide) (fun c31 => ?_) (fun c31 => ?_)
      · replace h := h.1 c31
        refine v_iconst o (v := 0) dX8_likeness_67 (by decide) ?_
        exact v_iret o rfl hr dX8_likeness_68 h
      · replace h := h.2 c31
        refine v_aload_n o 0 dX8_likeness_34 rfl ?_
        refine v_iload_n o 1 dX8_likeness_35 rfl ?_
        refine v_cVv o [.int p1] [] (fun sz => metX8_takes l G P g sz a ha p1 _ h) (cwX8_107 o.1.2.2.2.2 (by decide)) ⟨_, _, rfl⟩ (by decide) (wfModel_o ha) rfl (Nat.le_of_ble_eq_true rfl) ⟨Nat.le_of_ble_eq_true rfl, Nat.le_of_ble_eq_true rfl⟩ dX8_likeness_36 rfl (fun g36 h => ?_)
        refine v_aload_n o 0 dX8_likeness_39 rfl ?_
        refine v_iload_n o 3 dX8_likeness_40 rfl ?_
        refine v_iconst o (v := 1) dX8_likeness_41 (by decide) ?_
        refine v_isub o dX8_likeness_42 ?_
        refine v_cVv o [.int (x3 - 1)] [] (fun sz => metX8_changes l G P g36 sz a ha (x3 - 1) _ h) (cwX8_113 o.1.2.2.2.2 (by decide)) ⟨_, _, rfl⟩ (by decide) (wfModel_o ha) rfl (Nat.le_of_ble_eq_true rfl) ⟨Nat.le_of_ble_eq_true rfl, Nat.le_of_ble_eq_true rfl⟩ dX8_likeness_43 rfl (fun g43 h => ?_)
        refine v_aload_n o 0 dX8_likeness_46 rfl ?_
        refine v_cVv o [] [] (fun sz => metX8_loosens l G P g43 sz a ha _ h) (cwX8_101 o.1.2.2.2.2 (by decide)) ⟨_, _, rfl⟩ (by decide) (wfModel_o ha) rfl (Nat.le_of_ble_eq_true rfl) ⟨Nat.le_of_ble_eq_true rfl, Nat.le_of_ble_eq_true rfl⟩ dX8_likeness_47 rfl (fun g47 h => ?_)
        refine v_aload_n o 0 dX8_likeness_50 rfl ?_
        refine v_cVi o [] [] (fun sz => metX8_isLikeOther l G P g47 sz a ha _ h) (cwX8_198 o.1.2.2.2.2 (by decide)) ⟨_, _, rfl⟩ (by decide) (wfModel_o ha) rfl (Nat.le_of_ble_eq_true rfl) ⟨Nat.le_of_ble_eq_true rfl, Nat.le_of_ble_eq_true rfl⟩ dX8_likeness_51 rfl (fun r51 g51 h => ?_)
        refine v_if_eq o (tgt := 61) dX8_likeness_54 (by decide) (fun c54 => ?_) (fun c54 => ?_)
        · replace h := h.1 c54
          obtain ⟨x3_61, ex3_61⟩ : ∃ y : Int32, y = x3 + 1 := ⟨_, rfl⟩
          replace h := h x3_61 ex3_61
          refine v_iinc o (v := x3_61) (lv' := [(3, .int x3_61), (0, .ref a), (1, .int p1), (2, .int p2)]) 3 dX8_likeness_61 rfl (by rw [ex3_61]; rfl) (by decide) rfl ?_
          refine v_goto o (tgt := 29) dX8_likeness_64 (by decide) ?_
          refine v_sub [1, 2, 3, 0] (lv2 := [(0, .ref a), (1, .int p1), (2, .int p2), (3, .int x3_61)]) rfl ?_
          exact ih g51 x3_61  h.1 (by have := h.2; omega)
        · replace h := h.2 c54
          refine v_iload_n o 3 dX8_likeness_57 rfl ?_
          refine v_iconst o (v := 1) dX8_likeness_58 (by decide) ?_
          refine v_iadd o dX8_likeness_59 ?_
          exact v_iret o rfl hr dX8_likeness_60 h
  unfold vX8_likeness at h
  refine v_aload_n o 0 dX8_likeness_0 rfl ?_
  refine v_iload_n o 1 dX8_likeness_1 rfl ?_
  refine v_iconst o (v := 0) dX8_likeness_2 (by decide) ?_
  refine v_cVi o [.int p1, .int 0] [] (fun sz => metX8_of l G P f sz a ha p1 0 _ h) (cwX8_51 o.1.2.2.2.2 (by decide)) ⟨_, _, rfl⟩ (by decide) (wfModel_o ha) rfl (Nat.le_of_ble_eq_true rfl) ⟨Nat.le_of_ble_eq_true rfl, Nat.le_of_ble_eq_true rfl⟩ dX8_likeness_3 rfl (fun r3 g3 h => ?_)
  refine v_aload_n o 0 dX8_likeness_6 rfl ?_
  refine v_iload_n o 2 dX8_likeness_7 rfl ?_
  refine v_iconst o (v := 0) dX8_likeness_8 (by decide) ?_
  refine v_cVi o [.int p2, .int 0] [.int r3] (fun sz => metX8_of l G P g3 sz a ha p2 0 _ h) (cwX8_51 o.1.2.2.2.2 (by decide)) ⟨_, _, rfl⟩ (by decide) (wfModel_o ha) rfl (Nat.le_of_ble_eq_true rfl) ⟨Nat.le_of_ble_eq_true rfl, Nat.le_of_ble_eq_true rfl⟩ dX8_likeness_9 rfl (fun r9 g9 h => ?_)
  refine v_icmp_eq o (tgt := 17) dX8_likeness_12 (by decide) (fun c12 => ?_) (fun c12 => ?_)
  · replace h := h.1 c12
    refine v_aload_n o 0 dX8_likeness_17 rfl ?_
    refine v_iload_n o 2 dX8_likeness_18 rfl ?_
    refine v_cVi o [.int p2] [] (fun sz => metX8_looseLength l G P g9 sz a ha p2 _ h) (cwX8_217 o.1.2.2.2.2 (by decide)) ⟨_, _, rfl⟩ (by decide) (wfModel_o ha) rfl (Nat.le_of_ble_eq_true rfl) ⟨Nat.le_of_ble_eq_true rfl, Nat.le_of_ble_eq_true rfl⟩ dX8_likeness_19 rfl (fun r19 g19 h => ?_)
    refine v_pop o dX8_likeness_22 rfl ?_
    refine v_aload_n o 0 dX8_likeness_23 rfl ?_
    refine v_cVv o [] [] (fun sz => metX8_keepsOther l G P g19 sz a ha _ h) (cwX8_195 o.1.2.2.2.2 (by decide)) ⟨_, _, rfl⟩ (by decide) (wfModel_o ha) rfl (Nat.le_of_ble_eq_true rfl) ⟨Nat.le_of_ble_eq_true rfl, Nat.le_of_ble_eq_true rfl⟩ dX8_likeness_24 rfl (fun g24 h => ?_)
    refine v_iconst o (v := 0) dX8_likeness_27 (by decide) ?_
    refine v_istore_n o (lv' := [(3, .int 0), (0, .ref a), (1, .int p1), (2, .int p2)]) dX8_likeness_28 rfl (by decide) rfl ?_
    refine v_sub [1, 2, 3, 0] (lv2 := [(0, .ref a), (1, .int p1), (2, .int p2), (3, .int 0)]) rfl ?_
    exact (main (μ29 g24 0 + 1)) g24 0  h (Nat.lt_succ_self _)
  · replace h := h.2 c12
    refine v_iconst o (v := 0) dX8_likeness_15 (by decide) ?_
    exact v_iret o rfl hr dX8_likeness_16 h
def WX8_likeness (P : Sk) (f : St) (a : Nat) (p1 : Int32) (p2 : Int32) (K : Int32 → St → Prop) : Prop := ∃ (I29 : St → Int32 → Prop) (μ29 : St → Int32 → Nat), (vX8_likeness P f a p1 p2 I29 K) ∧ (∀ (g : St) (x3 : Int32) , I29 g x3 → bX8_likeness_29 P a p1 p2 (fun g' z0 => I29 g' z0 ∧ μ29 g' z0 < μ29 g x3) K g x3)
noncomputable def lkG (y z : Lf) (k : Nat) : Nat := if k = 0 then lk y z else lkF y z (4 - k) (k - 1)
theorem lkF_ne {y z : Lf} (h : y.1 ≠ z.1) : ∀ fu how, lkF y z fu how = 0
  | 0, _ => rfl
  | fu + 1, how => by
    rw [lkF, cif_neg (fun q => h q.1), lkF_ne h fu]
theorem lk_ne {y z : Lf} (h : y.1 ≠ z.1) : lk y z = 0 := by
  unfold lk
  rw [cif_neg (fun q => h q.1), lkF_ne h]
def kX8_likeness (P : Sk) (f : St) (a : Nat) (p1 : Int32) (p2 : Int32) (K : Int32 → St → Prop) : Prop := ∃ bd, StM f (a + 1) 0 bd ∧ Bok bd ∧ hasB bd p1 ∧ hasB bd p2 ∧ LkM f a (nI (lk (lfP bd p1) (lfP bd p2))) K
theorem wX8_likeness (P : Sk) (f : St) (a : Nat) (ha : IsModel P a) (p1 : Int32) (p2 : Int32) (K : Int32 → St → Prop) (h : kX8_likeness P f a p1 p2 K) : WX8_likeness P f a p1 p2 K := by
  obtain ⟨bd, hS, hb, hp, hq, hK⟩ := h
  have ho := (hb.has hp).1
  have hq1 := (hb.has hq).1
  have h7 := ho.2.1
  have k7 := hq1.2.1
  refine ⟨fun g x3 => Sc9 f g a ∧ MO g a (NF (lfP bd p2).2) ∧ (lfP bd p1).1 = (lfP bd p2).1 ∧ ∃ k, x3 = nI k ∧ k ≤ 4 ∧ lk (lfP bd p1) (lfP bd p2) = lkG (lfP bd p1) (lfP bd p2) k, fun g x3 => 4 - x3.toNatClampNeg, ?_, ?_⟩
  · unfold vX8_likeness
    refine u8_ofP (w := 0) hb hp (by decide) (hS.has hp).1 ?_
    refine u8_ofP (w := 0) hb hq (by decide) (hS.has hq).1 ?_
    change _ ∧ _
    rw [nI_eq (by omega) (by omega)]
    refine ⟨fun c => ?_, fun c => ?_⟩
    · refine u8_looseLength hS hb hq (fun g1 r1 m1 => ?_)
      refine ⟨_, m1, cok_of hq1.NF, fun g r o => ?_⟩
      exact ⟨r1.tr (r.mono (fun i hi => by omega) (fun j hj => by omega)), o, c, 0, rfl, by decide, rfl⟩
    · rw [lk_ne c] at hK
      exact hK f (Sc9.refl _ _)
  · rintro g x3 ⟨s, o, hn, k, rfl, hk, hR⟩
    unfold bX8_likeness_29
    rw [show (4 : Int32) = nI 4 from rfl, nI_leI (by omega) (by omega)]
    refine ⟨fun q => ?_, fun q => ?_⟩
    · have e : lk (lfP bd p1) (lfP bd p2) = 0 := by
        rw [hR, show k = 4 by omega]
        rfl
      rw [e] at hK
      exact hK g s
    · refine u8_take (hS.sc9 s) hb hp (fun g1 r1 m1 n1 => ?_)
      have main : ∀ (w : List Nat) (g2 : St), MF g1 g2 a (fun i => i = 5) (fun j => j = 9) → MW g2 a w → Wok (lfP bd p1).1 w → (lkG (lfP bd p1) (lfP bd p2) k = cif (NF w = NF (lfP bd p2).2) (k + 1) (lkG (lfP bd p1) (lfP bd p2) (k + 1))) → kX8_loosens P g2 a (fun g47 => kX8_isLikeOther P g47 a (fun r51 g51 => (r51 = 0 → ∀ x3_61 : Int32, x3_61 = nI k + 1 → (Sc9 f g51 a ∧ MO g51 a (NF (lfP bd p2).2) ∧ (lfP bd p1).1 = (lfP bd p2).1 ∧ ∃ k, x3_61 = nI k ∧ k ≤ 4 ∧ lk (lfP bd p1) (lfP bd p2) = lkG (lfP bd p1) (lfP bd p2) k) ∧ 4 - x3_61.toNatClampNeg < 4 - (nI k).toNatClampNeg) ∧ (¬ r51 = 0 → K (nI k + 1) g51))) := by
        intro w g2 r2 m2 hw he
        refine ⟨w, m2, cok_of hw, fun g3 r3 m3 => ?_⟩
        have s3 : Sc9 f g3 a := s.tr ((sc_w r1 (fun j h => h)).tr ((sc_w r2 (fun j h => Or.inl h)).tr (sc_w r3 (fun j h => Or.inl h))))
        have o3 := ((o.keep r1 (fun i hi => by omega) (by omega)).keep r2 (fun i hi => by omega) (by omega)).keep r3 (fun i hi => by omega) (by omega)
        refine ⟨_, _, m3, cok_of hw.NF, o3, cok_of hq1.NF, fun e => ⟨fun q2 => absurd q2 (by decide), fun _ => ?_⟩, fun e => ⟨fun _ y ey => ?_, fun q2 => absurd rfl q2⟩⟩
        · rw [hR, he, cif_pos e] at hK
          rw [nI_1]
          exact hK g3 s3
        · rw [nI_1] at ey
          refine ⟨⟨s3, o3, hn, k + 1, ey, by omega, ?_⟩, mu_up ey (by omega) (by omega)⟩
          rw [hR, he, cif_neg e]
      match k, q, main with
      | 0, q, main =>
        have e : nI 0 - 1 = (-1 : Int32) := by decide
        rw [e]
        refine u8_changesM (main (lfP bd p1).2 g1 (MF.refl _ _ _ _) m1 ho ?_)
        show lk (lfP bd p1) (lfP bd p2) = _
        unfold lk
        by_cases c : NF (lfP bd p1).2 = NF (lfP bd p2).2
        · rw [cif_pos c, cif_pos ⟨hn, c⟩]
        · rw [cif_neg c, cif_neg (fun h => c h.2)]
          rfl
      | j + 1, q, main =>
        rw [nI_m1]
        refine u8_changes m1 ho n1 (how := j) (by omega) (fun g2 r2 m2 => ?_)
        refine main _ g2 r2 m2 (wok_chg ho j) ?_
        show lkF (lfP bd p1) (lfP bd p2) (4 - (j + 1)) j = cif _ (j + 1 + 1) (lkF (lfP bd p1) (lfP bd p2) (4 - (j + 1 + 1)) (j + 1))
        rw [show 4 - (j + 1) = (4 - (j + 1 + 1)) + 1 by omega, lkF]
        by_cases c : NF (chg (lfP bd p1).1 (lfP bd p1).2 j) = NF (lfP bd p2).2
        · rw [cif_pos c, cif_pos (show sm (lkC _ _) _ from ⟨hn, c⟩)]
          omega
        · rw [cif_neg c, cif_neg (fun h => c h.2)]

theorem metX8_likeness (l : Launch) (G : Gl) (P : Sk) (f : St) (sz : Nat) (a : Nat) (ha : IsModel P a) (p1 : Int32) (p2 : Int32) (K : Int32 → St → Prop) (h : kX8_likeness P f a p1 p2 K) : Met l yX8_likeness (wU yX8_likeness cX8_likeness 4 (some .int)) rmX8_likeness (PcW G P f sz [.ref a, .int p1, .int p2]) (QcI G P sz K) 0 0 (frA P sz) := by
  obtain ⟨I29, μ29, qh, qh29⟩ := wX8_likeness P f a ha p1 p2 K h
  exact mX8_likeness l G P f sz a ha p1 p2 K I29 μ29 qh qh29

def jX8_alike_30 (P : Sk) (a : Nat) (p1 : Int32) (p2 : Int32) (K : Int32 → St → Prop) (f : St) : Prop :=
  kX8_fails P f a 1 (fun r32 g32 => K r32 g32)
def vX8_alike (P : Sk) (f : St) (a : Nat) (p1 : Int32) (p2 : Int32) (K : Int32 → St → Prop) : Prop :=
  ∀ g2 : St, g2 = setf f a 0 0 → kX8_isLoaf P g2 a p1 (fun r7 g7 => (r7 = 0 → jX8_alike_30 P a p1 p2 K  g7) ∧ (¬ r7 = 0 → kX8_isLoaf P g7 a p2 (fun r15 g15 => (r15 = 0 → jX8_alike_30 P a p1 p2 K  g15) ∧ (¬ r15 = 0 → kX8_likeness P g15 a p1 p2 (fun r24 g24 => K r24 g24)))))
set_option maxRecDepth 20000 in
set_option maxHeartbeats 4000000 in
theorem mX8_alike (l : Launch) (G : Gl) (P : Sk) (f : St) (sz : Nat) (a : Nat) (ha : IsModel P a) (p1 : Int32) (p2 : Int32) (K : Int32 → St → Prop) (h : vX8_alike P f a p1 p2 K)  :
  Met l yX8_alike (wU yX8_alike cX8_alike 3 (some .int)) rmX8_alike (PcW G P f sz [.ref a, .int p1, .int p2]) (QcI G P sz K) 0 0 (frA P sz) := by
  refine v_met (own := RX8) [.ref a, .int p1, .int p2] (by decide +kernel) rfl (Nat.le_of_ble_eq_true rfl) (fun p e s m args below meth c hsz o hr hnm => ?_)
  refine v_lv (lv2 := [(0, .ref a), (1, .int p1), (2, .int p2)]) rfl ?_
  have J30 : ∀ (g30 : St), jX8_alike_30 P a p1 p2 K  g30 → V p l e rmX8_alike s m args below meth c 3 G (frA P sz) (MQ below (QcI G P sz K) args s 0 0 (frA P sz)) 0 0 P [(0, .ref a), (1, .int p1), (2, .int p2)] [] 30 g30 := by
    intro  g30  h
    unfold jX8_alike_30 at h
    refine v_aload_n o 0 dX8_alike_30 rfl ?_
    refine v_iconst o (v := 1) dX8_alike_31 (by decide) ?_
    refine v_cVi o [.int 1] [] (fun sz => metX8_fails l G P g30 sz a ha 1 _ h) (cwX8_123 o.1.2.2.2.2 (by decide)) ⟨_, _, rfl⟩ (by decide) (wfModel_o ha) rfl (Nat.le_of_ble_eq_true rfl) ⟨Nat.le_of_ble_eq_true rfl, Nat.le_of_ble_eq_true rfl⟩ dX8_alike_32 rfl (fun r32 g32 h => ?_)
    exact v_iret o rfl hr dX8_alike_35 h
  unfold vX8_alike at h
  refine v_aload_n o 0 dX8_alike_0 rfl ?_
  refine v_iconst o (v := 0) dX8_alike_1 (by decide) ?_
  refine v_pf o lpX8_40 (wfModel_o ha) ⟨rfl, rfl⟩ dX8_alike_2 ?_
  refine v_nmf (fun g2 eg2 => ?_)
  replace h := h g2 eg2
  refine v_aload_n o 0 dX8_alike_5 rfl ?_
  refine v_iload_n o 1 dX8_alike_6 rfl ?_
  refine v_cVi o [.int p1] [] (fun sz => metX8_isLoaf l G P g2 sz a ha p1 _ h) (cwX8_104 o.1.2.2.2.2 (by decide)) ⟨_, _, rfl⟩ (by decide) (wfModel_o ha) rfl (Nat.le_of_ble_eq_true rfl) ⟨Nat.le_of_ble_eq_true rfl, Nat.le_of_ble_eq_true rfl⟩ dX8_alike_7 rfl (fun r7 g7 h => ?_)
  refine v_if_eq o (tgt := 30) dX8_alike_10 (by decide) (fun c10 => ?_) (fun c10 => ?_)
  · replace h := h.1 c10
    refine v_sub [0, 1, 2] (lv2 := [(0, .ref a), (1, .int p1), (2, .int p2)]) rfl ?_
    exact J30  g7  h
  · replace h := h.2 c10
    refine v_aload_n o 0 dX8_alike_13 rfl ?_
    refine v_iload_n o 2 dX8_alike_14 rfl ?_
    refine v_cVi o [.int p2] [] (fun sz => metX8_isLoaf l G P g7 sz a ha p2 _ h) (cwX8_104 o.1.2.2.2.2 (by decide)) ⟨_, _, rfl⟩ (by decide) (wfModel_o ha) rfl (Nat.le_of_ble_eq_true rfl) ⟨Nat.le_of_ble_eq_true rfl, Nat.le_of_ble_eq_true rfl⟩ dX8_alike_15 rfl (fun r15 g15 h => ?_)
    refine v_if_eq o (tgt := 30) dX8_alike_18 (by decide) (fun c18 => ?_) (fun c18 => ?_)
    · replace h := h.1 c18
      refine v_sub [0, 1, 2] (lv2 := [(0, .ref a), (1, .int p1), (2, .int p2)]) rfl ?_
      exact J30  g15  h
    · replace h := h.2 c18
      refine v_aload_n o 0 dX8_alike_21 rfl ?_
      refine v_iload_n o 1 dX8_alike_22 rfl ?_
      refine v_iload_n o 2 dX8_alike_23 rfl ?_
      refine v_cVi o [.int p1, .int p2] [] (fun sz => metX8_likeness l G P g15 sz a ha p1 p2 _ h) (cwX8_244 o.1.2.2.2.2 (by decide)) ⟨_, _, rfl⟩ (by decide) (wfModel_o ha) rfl (Nat.le_of_ble_eq_true rfl) ⟨Nat.le_of_ble_eq_true rfl, Nat.le_of_ble_eq_true rfl⟩ dX8_alike_24 rfl (fun r24 g24 h => ?_)
      refine v_goto o (tgt := 35) dX8_alike_27 (by decide) ?_
      exact v_iret o rfl hr dX8_alike_35 h
abbrev kX8_alike := @vX8_alike
abbrev metX8_alike := @mX8_alike
theorem u8_alike {P : Sk} {f : St} {a : Nat} {p q : Int32} {A : Ab} {K : Int32 → St → Prop} (hM : MIs f a A) (hF : FinM f a (opAlike A p q) K) : kX8_alike P f a p q K := by
  show vX8_alike P f a p q K
  unfold vX8_alike jX8_alike_30
  intro g2 e2
  obtain ⟨M, z, r0⟩ := mi_start hM e2
  unfold opAlike at hF
  refine u8_isLoaf M.1 M.bok (fun c1 => ?_) (fun c1 => ?_)
  · refine ⟨fun q => absurd q (by decide), fun _ => ?_⟩
    refine u8_isLoaf M.1 M.bok (fun c2 => ?_) (fun c2 => ?_)
    · refine ⟨fun q => absurd q (by decide), fun _ => ?_⟩
      rw [cif_pos ⟨c1, c2⟩] at hF
      exact ⟨A.1, M.1, M.bok, c1, c2, hF.lk M z r0⟩
    · refine ⟨fun _ => ?_, fun q => absurd rfl q⟩
      rw [cif_neg (fun h => c2 h.2)] at hF
      exact u8_fails (hF.no M r0)
  · refine ⟨fun _ => ?_, fun q => absurd rfl q⟩
    rw [cif_neg (fun h => c1 h.1)] at hF
    exact u8_fails (hF.no M r0)

def bX8_common_4 (P : Sk) (p0 : Int32) (p1 : Int32) (L4 : St → Int32 → Int32 → Prop) (K : Int32 → St → Prop) (f : St) (x2 : Int32) (x3 : Int32) : Prop :=
  (x3 = 0 → (¬ x2 = 0) ∧ (K ((p0 / x2) * p1) f)) ∧ (¬ x3 = 0 → (¬ x3 = 0) ∧ (∀ x4_11 : Int32, x4_11 = x2 - x2 / x3 * x3 → L4 f x3 x4_11))
def vX8_common (P : Sk) (f : St) (p0 : Int32) (p1 : Int32) (L4 : St → Int32 → Int32 → Prop) (K : Int32 → St → Prop) : Prop :=
  L4 f p0 p1
set_option maxRecDepth 20000 in
set_option maxHeartbeats 4000000 in
theorem mX8_common (l : Launch) (G : Gl) (P : Sk) (f : St) (sz : Nat) (p0 : Int32) (p1 : Int32) (K : Int32 → St → Prop) (I4 : St → Int32 → Int32 → Prop) (μ4 : St → Int32 → Int32 → Nat) 
  (h : vX8_common P f p0 p1 I4 K)
  (h4 : ∀ (g : St) (x2 : Int32) (x3 : Int32) , I4 g x2 x3 → bX8_common_4 P p0 p1 (fun g' z0 z1 => I4 g' z0 z1 ∧ μ4 g' z0 z1 < μ4 g x2 x3) K g x2 x3) :
  Met l yX8_common (wU yX8_common cX8_common 5 (some .int)) rmX8_common (PcW G P f sz [.int p0, .int p1]) (QcI G P sz K) 0 0 (frA P sz) := by
  refine v_met (own := RX8) [.int p0, .int p1] (by decide +kernel) rfl (Nat.le_of_ble_eq_true rfl) (fun p e s m args below meth c hsz o hr hnm => ?_)
  refine v_lv (lv2 := [(0, .int p0), (1, .int p1)]) rfl ?_
  have main : ∀ n : Nat, (∀ (g : St) (x2 : Int32) (x3 : Int32) , I4 g x2 x3 → μ4 g x2 x3 < n → V p l e rmX8_common s m args below meth c 5 G (frA P sz) (MQ below (QcI G P sz K) args s 0 0 (frA P sz)) 0 0 P [(0, .int p0), (1, .int p1), (2, .int x2), (3, .int x3)] [] 4 g) := by
    intro n
    induction n with
    | zero => exact fun g x2 x3 hI hm => absurd hm (Nat.not_lt_zero _)
    | succ n ih =>
      intro g x2 x3 hI hm
      have h := h4 g x2 x3 hI
      clear hI
      unfold bX8_common_4 at h
      refine v_iload_n o 3 dX8_common_4 rfl ?_
      refine v_if_eq o (tgt := 21) dX8_common_5 (by decide) (fun c5 => ?_) (fun c5 => ?_)
      · replace h := h.1 c5
        refine v_iload_n o 0 dX8_common_21 rfl ?_
        refine v_iload_n o 2 dX8_common_22 rfl ?_
        refine v_idiv o dX8_common_23 h.1 ?_
        replace h := h.2
        refine v_iload_n o 1 dX8_common_24 rfl ?_
        refine v_imul o dX8_common_25 ?_
        exact v_iret o rfl hr dX8_common_26 h
      · replace h := h.2 c5
        refine v_iload_n o 2 dX8_common_8 rfl ?_
        refine v_iload_n o 3 dX8_common_9 rfl ?_
        refine v_irem o dX8_common_10 h.1 ?_
        replace h := h.2
        refine v_topi (fun x4_11 ex4_11 => ?_)
        replace h := h x4_11 ex4_11
        refine v_istore o (lv' := [(4, .int x4_11), (0, .int p0), (1, .int p1), (2, .int x2), (3, .int x3)]) dX8_common_11 (by decide) rfl ?_
        refine v_iload_n o 4 dX8_common_13 rfl ?_
        refine v_istore_n o (lv' := [(2, .int x3), (4, .int x4_11), (0, .int p0), (1, .int p1), (3, .int x3)]) dX8_common_14 rfl (by decide) rfl ?_
        refine v_iload o 1 dX8_common_15 rfl ?_
        refine v_istore_n o (lv' := [(3, .int x4_11), (2, .int x3), (4, .int x4_11), (0, .int p0), (1, .int p1)]) dX8_common_17 rfl (by decide) rfl ?_
        refine v_goto o (tgt := 4) dX8_common_18 (by decide) ?_
        refine v_sub [3, 4, 1, 0] (lv2 := [(0, .int p0), (1, .int p1), (2, .int x3), (3, .int x4_11)]) rfl ?_
        exact ih g x3 x4_11  h.1 (by have := h.2; omega)
  unfold vX8_common at h
  refine v_iload_n o 0 dX8_common_0 rfl ?_
  refine v_istore_n o (lv' := [(2, .int p0), (0, .int p0), (1, .int p1)]) dX8_common_1 rfl (by decide) rfl ?_
  refine v_iload_n o 2 dX8_common_2 rfl ?_
  refine v_istore_n o (lv' := [(3, .int p1), (2, .int p0), (0, .int p0), (1, .int p1)]) dX8_common_3 rfl (by decide) rfl ?_
  refine v_sub [2, 3, 1, 0] (lv2 := [(0, .int p0), (1, .int p1), (2, .int p0), (3, .int p1)]) rfl ?_
  exact (main (μ4 f p0 p1 + 1)) f p0 p1  h (Nat.lt_succ_self _)
def WX8_common (P : Sk) (f : St) (p0 : Int32) (p1 : Int32) (K : Int32 → St → Prop) : Prop := ∃ (I4 : St → Int32 → Int32 → Prop) (μ4 : St → Int32 → Int32 → Nat), (vX8_common P f p0 p1 I4 K) ∧ (∀ (g : St) (x2 : Int32) (x3 : Int32) , I4 g x2 x3 → bX8_common_4 P p0 p1 (fun g' z0 z1 => I4 g' z0 z1 ∧ μ4 g' z0 z1 < μ4 g x2 x3) K g x2 x3)
def kX8_common (P : Sk) (f : St) (p0 : Int32) (p1 : Int32) (K : Int32 → St → Prop) : Prop := ∃ x y, p0 = nI x ∧ p1 = nI y ∧ 1 ≤ x ∧ 1 ≤ y ∧ x < 2 ^ 31 ∧ y < 2 ^ 31 ∧ K (nI (x / Nat.gcd x y * y)) f
theorem wX8_common (P : Sk) (f : St) (p0 : Int32) (p1 : Int32) (K : Int32 → St → Prop) (h : kX8_common P f p0 p1 K) : WX8_common P f p0 p1 K := by
  obtain ⟨x, y, rfl, rfl, hx, hy, hx2, hy2, hK⟩ := h
  refine ⟨fun g x2 x3 => g = f ∧ ∃ s t, x2 = nI s ∧ x3 = nI t ∧ s < 2 ^ 31 ∧ t < 2 ^ 31 ∧ Nat.gcd s t = Nat.gcd x y, fun g x2 x3 => x3.toNatClampNeg, ?_, ?_⟩
  · unfold vX8_common
    exact ⟨rfl, x, y, rfl, rfl, hx2, hy2, rfl⟩
  · rintro g x2 x3 ⟨rfl, s, t, rfl, rfl, hs, ht, hg⟩
    unfold bX8_common_4
    have gp : 0 < Nat.gcd x y := Nat.gcd_pos_of_pos_left _ hx
    rw [show (0 : Int32) = nI 0 from rfl, nI_eq ht (by decide), nI_eq hs (by decide)]
    refine ⟨fun c => ?_, fun c => ⟨c, fun z ez => ?_⟩⟩
    · rw [c, Nat.gcd_zero_right] at hg
      refine ⟨by omega, ?_⟩
      rw [pk_div (by omega) (by omega) (by omega), nI_mul, hg]
      exact hK
    · rw [pk_rem (by omega) (by omega) (by omega)] at ez
      have hm := Nat.mod_lt s (show 0 < t by omega)
      refine ⟨⟨rfl, t, s % t, rfl, ez, ht, by omega, ?_⟩, ?_⟩
      · rw [← hg, Nat.gcd_comm t, ← Nat.gcd_rec, Nat.gcd_comm]
      · rw [ez]
        show (nI (s % t)).toNatClampNeg < (nI t).toNatClampNeg
        rw [nI_clamp (show s % t < 2 ^ 31 by omega), nI_clamp ht]
        exact hm

theorem metX8_common (l : Launch) (G : Gl) (P : Sk) (f : St) (sz : Nat) (p0 : Int32) (p1 : Int32) (K : Int32 → St → Prop) (h : kX8_common P f p0 p1 K) : Met l yX8_common (wU yX8_common cX8_common 5 (some .int)) rmX8_common (PcW G P f sz [.int p0, .int p1]) (QcI G P sz K) 0 0 (frA P sz) := by
  obtain ⟨I4, μ4, qh, qh4⟩ := wX8_common P f p0 p1 K h
  exact mX8_common l G P f sz p0 p1 K I4 μ4 qh qh4

def bX8_periodOf_17 (P : Sk) (a : Nat) (p1 : Int32) (L17 : St → Int32 → Int32 → Prop) (L36 : St → Int32 → Int32 → Int32 → Int32 → Prop) (K : Int32 → St → Prop) (f : St) (x2 : Int32) (x3 : Int32) : Prop :=
  (f a 10 ≤ x3 → K x2 f) ∧ (¬ f a 10 ≤ x3 → vp_in x3 7 ∧ (∀ x5_34 : Int32, x5_34 = f (a + 6) x3.toNatClampNeg → L36 f x2 x3 1 x5_34))
def bX8_periodOf_36 (P : Sk) (a : Nat) (p1 : Int32) (L17 : St → Int32 → Int32 → Prop) (L36 : St → Int32 → Int32 → Int32 → Int32 → Prop) (K : Int32 → St → Prop) (f : St) (x2 : Int32) (x3 : Int32) (x4 : Int32) (x5 : Int32) : Prop :=
  (x5 = x3 → kX8_common P f x2 x4 (fun r60 g60 => ∀ x3_64 : Int32, x3_64 = x3 + 1 → L17 g60 r60 x3_64)) ∧ (¬ x5 = x3 → ∀ x4_42 : Int32, x4_42 = x4 + 1 → vp_in x5 7 ∧ (∀ x5_52 : Int32, x5_52 = f (a + 6) x5.toNatClampNeg → L36 f x2 x3 x4_42 x5_52))
def vX8_periodOf (P : Sk) (f : St) (a : Nat) (p1 : Int32) (L17 : St → Int32 → Int32 → Prop) (L36 : St → Int32 → Int32 → Int32 → Int32 → Prop) (K : Int32 → St → Prop) : Prop :=
  kX8_takes P f a p1 (fun g2 => kX8_walks P g2 a (g2 a 9) (fun g10 => L17 g10 1 0))
set_option maxRecDepth 20000 in
set_option maxHeartbeats 4000000 in
theorem mX8_periodOf (l : Launch) (G : Gl) (P : Sk) (f : St) (sz : Nat) (a : Nat) (ha : IsModel P a) (p1 : Int32) (K : Int32 → St → Prop) (I17 : St → Int32 → Int32 → Prop) (μ17 : St → Int32 → Int32 → Nat) (I36 : St → Int32 → Int32 → Int32 → Int32 → Prop) (μ36 : St → Int32 → Int32 → Int32 → Int32 → Nat) 
  (h : vX8_periodOf P f a p1 I17 I36 K)
  (h17 : ∀ (g : St) (x2 : Int32) (x3 : Int32) , I17 g x2 x3 → bX8_periodOf_17 P a p1 (fun g' z0 z1 => I17 g' z0 z1 ∧ μ17 g' z0 z1 < μ17 g x2 x3) (fun g' z0 z1 z2 z3 => I36 g' z0 z1 z2 z3 ∧ μ36 g' z0 z1 z2 z3 < μ17 g x2 x3) K g x2 x3)
  (h36 : ∀ (g : St) (x2 : Int32) (x3 : Int32) (x4 : Int32) (x5 : Int32) , I36 g x2 x3 x4 x5 → bX8_periodOf_36 P a p1 (fun g' z0 z1 => I17 g' z0 z1 ∧ μ17 g' z0 z1 < μ36 g x2 x3 x4 x5) (fun g' z0 z1 z2 z3 => I36 g' z0 z1 z2 z3 ∧ μ36 g' z0 z1 z2 z3 < μ36 g x2 x3 x4 x5) K g x2 x3 x4 x5) :
  Met l yX8_periodOf (wU yX8_periodOf cX8_periodOf 6 (some .int)) rmX8_periodOf (PcW G P f sz [.ref a, .int p1]) (QcI G P sz K) 0 0 (frA P sz) := by
  refine v_met (own := RX8) [.ref a, .int p1] (by decide +kernel) rfl (Nat.le_of_ble_eq_true rfl) (fun p e s m args below meth c hsz o hr hnm => ?_)
  refine v_lv (lv2 := [(0, .ref a), (1, .int p1)]) rfl ?_
  have main : ∀ n : Nat, (∀ (g : St) (x2 : Int32) (x3 : Int32) , I17 g x2 x3 → μ17 g x2 x3 < n → V p l e rmX8_periodOf s m args below meth c 6 G (frA P sz) (MQ below (QcI G P sz K) args s 0 0 (frA P sz)) 0 0 P [(0, .ref a), (1, .int p1), (2, .int x2), (3, .int x3)] [] 17 g) ∧ (∀ (g : St) (x2 : Int32) (x3 : Int32) (x4 : Int32) (x5 : Int32) , I36 g x2 x3 x4 x5 → μ36 g x2 x3 x4 x5 < n → V p l e rmX8_periodOf s m args below meth c 6 G (frA P sz) (MQ below (QcI G P sz K) args s 0 0 (frA P sz)) 0 0 P [(0, .ref a), (1, .int p1), (2, .int x2), (3, .int x3), (4, .int x4), (5, .int x5)] [] 36 g) := by
    intro n
    induction n with
    | zero => exact ⟨fun g x2 x3 hI hm => absurd hm (Nat.not_lt_zero _), fun g x2 x3 x4 x5 hI hm => absurd hm (Nat.not_lt_zero _)⟩
    | succ n ih =>
      refine ⟨?_, ?_⟩
      · intro g x2 x3 hI hm
        have h := h17 g x2 x3 hI
        clear hI
        unfold bX8_periodOf_17 at h
        refine v_iload_n o 3 dX8_periodOf_17 rfl ?_
        refine v_aload_n o 0 dX8_periodOf_18 rfl ?_
        refine v_gfI o lkX8_55 (by decide) (wfModel_o ha) dX8_periodOf_19 ?_
        refine v_icmp_ge o (tgt := 70) dX8_periodOf_22 (by decide) (fun c22 => ?_) (fun c22 => ?_)
        · replace h := h.1 c22
          refine v_iload_n o 2 dX8_periodOf_70 rfl ?_
          exact v_iret o rfl hr dX8_periodOf_71 h
        · replace h := h.2 c22
          refine v_iconst o (v := 1) dX8_periodOf_25 (by decide) ?_
          refine v_istore o (lv' := [(4, .int 1), (0, .ref a), (1, .int p1), (2, .int x2), (3, .int x3)]) dX8_periodOf_26 (by decide) rfl ?_
          refine v_aload_n o 1 dX8_periodOf_28 rfl ?_
          refine v_gfR o lkX8_25 (by decide) (wfModel_o ha) (wfModel_r11 ha) dX8_periodOf_29 ?_
          refine v_iload_n o 4 dX8_periodOf_32 rfl ?_
          refine v_iald o (wfModel_t11 ha) (wfModel_n11 ha) h.1 dX8_periodOf_33 ?_
          replace h := h.2
          refine v_topi (fun x5_34 ex5_34 => ?_)
          replace h := h x5_34 ex5_34
          refine v_istore o (lv' := [(5, .int x5_34), (4, .int 1), (0, .ref a), (1, .int p1), (2, .int x2), (3, .int x3)]) dX8_periodOf_34 (by decide) rfl ?_
          refine v_sub [2, 3, 4, 5, 1, 0] (lv2 := [(0, .ref a), (1, .int p1), (2, .int x2), (3, .int x3), (4, .int 1), (5, .int x5_34)]) rfl ?_
          exact ih.2 g x2 x3 1 x5_34  h.1 (by have := h.2; omega)
      · intro g x2 x3 x4 x5 hI hm
        have h := h36 g x2 x3 x4 x5 hI
        clear hI
        unfold bX8_periodOf_36 at h
        refine v_iload o 5 dX8_periodOf_36 rfl ?_
        refine v_iload_n o 3 dX8_periodOf_38 rfl ?_
        refine v_icmp_eq o (tgt := 57) dX8_periodOf_39 (by decide) (fun c39 => ?_) (fun c39 => ?_)
        · replace h := h.1 c39
          refine v_iload_n o 2 dX8_periodOf_57 rfl ?_
          refine v_iload o 4 dX8_periodOf_58 rfl ?_
          refine v_cSi o [.int x2, .int x4] [] (fun sz => metX8_common l G P g sz x2 x4 _ h) (cwX8_247 o.1.2.2.2.2 (by decide)) rfl (Nat.le_of_ble_eq_true rfl) ⟨Nat.le_of_ble_eq_true rfl, Nat.le_of_ble_eq_true rfl⟩ dX8_periodOf_60 rfl (fun r60 g60 h => ?_)
          refine v_istore_n o (lv' := [(2, .int r60), (0, .ref a), (1, .int p1), (3, .int x3), (4, .int x4), (5, .int x5)]) dX8_periodOf_63 rfl (by decide) rfl ?_
          obtain ⟨x3_64, ex3_64⟩ : ∃ y : Int32, y = x3 + 1 := ⟨_, rfl⟩
          replace h := h x3_64 ex3_64
          refine v_iinc o (v := x3_64) (lv' := [(3, .int x3_64), (2, .int r60), (0, .ref a), (1, .int p1), (4, .int x4), (5, .int x5)]) 3 dX8_periodOf_64 rfl (by rw [ex3_64]; rfl) (by decide) rfl ?_
          refine v_goto o (tgt := 17) dX8_periodOf_67 (by decide) ?_
          refine v_sub [2, 3, 1, 0] (lv2 := [(0, .ref a), (1, .int p1), (2, .int r60), (3, .int x3_64)]) rfl ?_
          exact ih.1 g60 r60 x3_64  h.1 (by have := h.2; omega)
        · replace h := h.2 c39
          obtain ⟨x4_42, ex4_42⟩ : ∃ y : Int32, y = x4 + 1 := ⟨_, rfl⟩
          replace h := h x4_42 ex4_42
          refine v_iinc o (v := x4_42) (lv' := [(4, .int x4_42), (0, .ref a), (1, .int p1), (2, .int x2), (3, .int x3), (5, .int x5)]) 4 dX8_periodOf_42 rfl (by rw [ex4_42]; rfl) (by decide) rfl ?_
          refine v_aload_n o 1 dX8_periodOf_45 rfl ?_
          refine v_gfR o lkX8_25 (by decide) (wfModel_o ha) (wfModel_r11 ha) dX8_periodOf_46 ?_
          refine v_iload o 5 dX8_periodOf_49 rfl ?_
          refine v_iald o (wfModel_t11 ha) (wfModel_n11 ha) h.1 dX8_periodOf_51 ?_
          replace h := h.2
          refine v_topi (fun x5_52 ex5_52 => ?_)
          replace h := h x5_52 ex5_52
          refine v_istore o (lv' := [(5, .int x5_52), (4, .int x4_42), (0, .ref a), (1, .int p1), (2, .int x2), (3, .int x3)]) dX8_periodOf_52 (by decide) rfl ?_
          refine v_goto o (tgt := 36) dX8_periodOf_54 (by decide) ?_
          refine v_sub [2, 3, 4, 5, 1, 0] (lv2 := [(0, .ref a), (1, .int p1), (2, .int x2), (3, .int x3), (4, .int x4_42), (5, .int x5_52)]) rfl ?_
          exact ih.2 g x2 x3 x4_42 x5_52  h.1 (by have := h.2; omega)
  unfold vX8_periodOf at h
  refine v_aload_n o 0 dX8_periodOf_0 rfl ?_
  refine v_iload_n o 1 dX8_periodOf_1 rfl ?_
  refine v_cVv o [.int p1] [] (fun sz => metX8_takes l G P f sz a ha p1 _ h) (cwX8_107 o.1.2.2.2.2 (by decide)) ⟨_, _, rfl⟩ (by decide) (wfModel_o ha) rfl (Nat.le_of_ble_eq_true rfl) ⟨Nat.le_of_ble_eq_true rfl, Nat.le_of_ble_eq_true rfl⟩ dX8_periodOf_2 rfl (fun g2 h => ?_)
  refine v_aload_n o 0 dX8_periodOf_5 rfl ?_
  refine v_aload_n o 0 dX8_periodOf_6 rfl ?_
  refine v_gfI o lkX8_58 (by decide) (wfModel_o ha) dX8_periodOf_7 ?_
  refine v_cVv o [.int (g2 a 9)] [] (fun sz => metX8_walks l G P g2 sz a ha (g2 a 9) _ h) (cwX8_89 o.1.2.2.2.2 (by decide)) ⟨_, _, rfl⟩ (by decide) (wfModel_o ha) rfl (Nat.le_of_ble_eq_true rfl) ⟨Nat.le_of_ble_eq_true rfl, Nat.le_of_ble_eq_true rfl⟩ dX8_periodOf_10 rfl (fun g10 h => ?_)
  refine v_iconst o (v := 1) dX8_periodOf_13 (by decide) ?_
  refine v_istore_n o (lv' := [(2, .int 1), (0, .ref a), (1, .int p1)]) dX8_periodOf_14 rfl (by decide) rfl ?_
  refine v_iconst o (v := 0) dX8_periodOf_15 (by decide) ?_
  refine v_istore_n o (lv' := [(3, .int 0), (2, .int 1), (0, .ref a), (1, .int p1)]) dX8_periodOf_16 rfl (by decide) rfl ?_
  refine v_sub [2, 3, 1, 0] (lv2 := [(0, .ref a), (1, .int p1), (2, .int 1), (3, .int 0)]) rfl ?_
  exact (main (μ17 g10 1 0 + 1)).1 g10 1 0  h (Nat.lt_succ_self _)
def WX8_periodOf (P : Sk) (f : St) (a : Nat) (p1 : Int32) (K : Int32 → St → Prop) : Prop := ∃ (I17 : St → Int32 → Int32 → Prop) (I36 : St → Int32 → Int32 → Int32 → Int32 → Prop) (μ17 : St → Int32 → Int32 → Nat) (μ36 : St → Int32 → Int32 → Int32 → Int32 → Nat), (vX8_periodOf P f a p1 I17 I36 K) ∧ (∀ (g : St) (x2 : Int32) (x3 : Int32) , I17 g x2 x3 → bX8_periodOf_17 P a p1 (fun g' z0 z1 => I17 g' z0 z1 ∧ μ17 g' z0 z1 < μ17 g x2 x3) (fun g' z0 z1 z2 z3 => I36 g' z0 z1 z2 z3 ∧ μ36 g' z0 z1 z2 z3 < μ17 g x2 x3) K g x2 x3) ∧ (∀ (g : St) (x2 : Int32) (x3 : Int32) (x4 : Int32) (x5 : Int32) , I36 g x2 x3 x4 x5 → bX8_periodOf_36 P a p1 (fun g' z0 z1 => I17 g' z0 z1 ∧ μ17 g' z0 z1 < μ36 g x2 x3 x4 x5) (fun g' z0 z1 z2 z3 => I36 g' z0 z1 z2 z3 ∧ μ36 g' z0 z1 z2 z3 < μ36 g x2 x3 x4 x5) K g x2 x3 x4 x5)
def kX8_periodOf (P : Sk) (f : St) (a : Nat) (p1 : Int32) (K : Int32 → St → Prop) : Prop := ∃ bd, StM f (a + 1) 0 bd ∧ Bok bd ∧ hasB bd p1 ∧ LkM f a (nI (perV (lfP bd p1))) K
theorem wX8_periodOf (P : Sk) (f : St) (a : Nat) (ha : IsModel P a) (p1 : Int32) (K : Int32 → St → Prop) (h : kX8_periodOf P f a p1 K) : WX8_periodOf P f a p1 K := by
  obtain ⟨bd, hS, hb, hp, hK⟩ := h
  have ho := (hb.has hp).1
  have h7 := ho.2.1
  generalize ey : lfP bd p1 = y at *
  have hlt : ∀ i, i < y.1 → wH y.2 y.2.length i < y.1 := fun i hi => wH_lt ho _ i (Nat.le_refl _) hi
  have hdg : ∀ i, i < y.1 → dg (cd (wH y.2 y.2.length) y.1) i = wH y.2 y.2.length i := fun i hi => dg_cd _ y.1 (fun j hj => by have := hlt j hj; omega) i hi
  obtain ⟨-, -, -, eP, eT⟩ := rings_w ho
  generalize eH : cd (wH y.2 y.2.length) y.1 = H at hdg eP eT
  refine ⟨fun g x2 x3 => Sc9 f g a ∧ g a 10 = nI y.1 ∧ WkM g a y.2 y.2.length ∧ ∃ k all, x2 = nI all ∧ x3 = nI k ∧ k ≤ y.1 ∧ 1 ≤ all ∧ all ≤ 8 ^ k ∧ perV y = perM H y.1 (y.1 - k) k all,
    fun g x2 x3 x4 x5 => Sc9 f g a ∧ g a 10 = nI y.1 ∧ WkM g a y.2 y.2.length ∧ ∃ k all st place fu, x2 = nI all ∧ x3 = nI k ∧ x4 = nI st ∧ x5 = nI place ∧ k < y.1 ∧ 1 ≤ all ∧ all ≤ 8 ^ k ∧ place < y.1 ∧ 1 ≤ st ∧ st + fu = y.1 + 1 ∧ roF H k y.1 (dg H k) 1 = roF H k fu place st ∧ rt H k fu place = true ∧ perV y = perM H y.1 (y.1 - k) k all,
    fun g x2 x3 => 100 * (8 - x3.toNatClampNeg) + 50, fun g x2 x3 x4 x5 => 100 * (7 - x3.toNatClampNeg) + 60 + (20 - x4.toNatClampNeg), ?_, ?_, ?_⟩
  · unfold vX8_periodOf
    refine u8_walked hS hb hp (fun g r m n W => ?_)
    rw [ey] at n W
    exact ⟨r, n, W, 0, 1, rfl, rfl, Nat.zero_le _, by decide, by decide, eP⟩
  · rintro g x2 x3 ⟨s, n, W, k, all, rfl, rfl, hk, h1, h8, hR⟩
    unfold bX8_periodOf_17
    rw [n, nI_leI (by omega) (by omega)]
    refine ⟨fun q => ?_, fun q => ⟨vp_nI (by omega) (by decide), fun z ez => ?_⟩⟩
    · rw [show y.1 - k = 0 by omega] at hR
      rw [hR] at hK
      exact hK g s
    · rw [nI_clamp (by omega), (W k (by omega)).1] at ez
      refine ⟨⟨s, n, W, k, all, 1, wH y.2 y.2.length k, y.1, rfl, rfl, rfl, ez, by omega, h1, h8, hlt k (by omega), by decide, by omega, ?_, ?_, hR⟩, ?_⟩
      · rw [hdg k (by omega)]
      · have := eT k (by omega)
        rw [hdg k (by omega)] at this
        exact this
      · show 100 * (7 - (nI k).toNatClampNeg) + 60 + (20 - (1 : Int32).toNatClampNeg) < 100 * (8 - (nI k).toNatClampNeg) + 50
        rw [nI_clamp (by omega), tn1]
        omega
  · rintro g x2 x3 x4 x5 ⟨s, n, W, k, all, st, place, fu, rfl, rfl, rfl, rfl, hk, h1, h8, hpl, hst, hfu, hro, hrt, hR⟩
    unfold bX8_periodOf_36
    have p8 : 8 ^ k ≤ 8 ^ 7 := Nat.pow_le_pow_right (by decide) (by omega)
    rw [nI_eq (by omega) (by omega)]
    refine ⟨fun c => ?_, fun c z ez => ?_⟩
    · have er : roF H k y.1 (dg H k) 1 = st := by
        rw [hro, c]
        cases fu with
        | zero => rfl
        | succ fu => rw [roF_s, if_pos rfl]
      refine ⟨all, st, rfl, rfl, h1, hst, by omega, by omega, ?_⟩
      intro z ez
      rw [nI_1] at ez
      rw [show y.1 - k = (y.1 - (k + 1)) + 1 by omega, perM_s, er] at hR
      have gd : Nat.gcd all st ∣ all := Nat.gcd_dvd_left _ _
      have gp : 0 < Nat.gcd all st := Nat.gcd_pos_of_pos_left _ h1
      have q1 : 1 ≤ all / Nat.gcd all st := Nat.div_pos (Nat.le_of_dvd h1 gd) gp
      have q2 : all / Nat.gcd all st ≤ all := Nat.div_le_self _ _
      have q3 : 1 * 1 ≤ all / Nat.gcd all st * st := Nat.mul_le_mul q1 hst
      have q4 : all / Nat.gcd all st * st ≤ 8 ^ k * 8 := Nat.mul_le_mul (Nat.le_trans q2 h8) (by omega)
      refine ⟨⟨s, n, W, k + 1, _, rfl, ez, by omega, by omega, by rw [Nat.pow_succ]; exact q4, hR⟩, ?_⟩
      rw [ez]
      show 100 * (8 - (nI (k + 1)).toNatClampNeg) + 50 < 100 * (7 - (nI k).toNatClampNeg) + 60 + (20 - (nI st).toNatClampNeg)
      rw [nI_clamp (by omega), nI_clamp (by omega)]
      omega
    · refine ⟨vp_nI (by omega) (by decide), fun u eu => ?_⟩
      rw [nI_clamp (by omega), (W place (by omega)).1] at eu
      rw [nI_1] at ez
      cases fu with
      | zero =>
        exact absurd (Nat.eq_of_beq_eq_true hrt) c
      | succ fu =>
        rw [roF_s, if_neg c, hdg place hpl] at hro
        rw [rt_s, if_neg c, hdg place hpl] at hrt
        refine ⟨⟨s, n, W, k, all, st + 1, wH y.2 y.2.length place, fu, rfl, rfl, ez, eu, hk, h1, h8, hlt place hpl, by omega, by omega, hro, hrt, hR⟩, ?_⟩
        rw [ez]
        show 100 * (7 - (nI k).toNatClampNeg) + 60 + (20 - (nI (st + 1)).toNatClampNeg) < 100 * (7 - (nI k).toNatClampNeg) + 60 + (20 - (nI st).toNatClampNeg)
        rw [nI_clamp (show st + 1 < 2 ^ 31 by omega), nI_clamp (show st < 2 ^ 31 by omega)]
        omega

theorem metX8_periodOf (l : Launch) (G : Gl) (P : Sk) (f : St) (sz : Nat) (a : Nat) (ha : IsModel P a) (p1 : Int32) (K : Int32 → St → Prop) (h : kX8_periodOf P f a p1 K) : Met l yX8_periodOf (wU yX8_periodOf cX8_periodOf 6 (some .int)) rmX8_periodOf (PcW G P f sz [.ref a, .int p1]) (QcI G P sz K) 0 0 (frA P sz) := by
  obtain ⟨I17, I36, μ17, μ36, qh, qh17, qh36⟩ := wX8_periodOf P f a ha p1 K h
  exact mX8_periodOf l G P f sz a ha p1 K I17 μ17 I36 μ36 qh qh17 qh36

def vX8_period (P : Sk) (f : St) (a : Nat) (p1 : Int32) (K : Int32 → St → Prop) : Prop :=
  ∀ g2 : St, g2 = setf f a 0 0 → kX8_isLoaf P g2 a p1 (fun r7 g7 => (r7 = 0 → kX8_fails P g7 a 1 (fun r23 g23 => K r23 g23)) ∧ (¬ r7 = 0 → kX8_periodOf P g7 a p1 (fun r15 g15 => K r15 g15)))
set_option maxRecDepth 20000 in
set_option maxHeartbeats 4000000 in
theorem mX8_period (l : Launch) (G : Gl) (P : Sk) (f : St) (sz : Nat) (a : Nat) (ha : IsModel P a) (p1 : Int32) (K : Int32 → St → Prop) (h : vX8_period P f a p1 K)  :
  Met l yX8_period (wU yX8_period cX8_period 2 (some .int)) rmX8_period (PcW G P f sz [.ref a, .int p1]) (QcI G P sz K) 0 0 (frA P sz) := by
  refine v_met (own := RX8) [.ref a, .int p1] (by decide +kernel) rfl (Nat.le_of_ble_eq_true rfl) (fun p e s m args below meth c hsz o hr hnm => ?_)
  refine v_lv (lv2 := [(0, .ref a), (1, .int p1)]) rfl ?_
  unfold vX8_period at h
  refine v_aload_n o 0 dX8_period_0 rfl ?_
  refine v_iconst o (v := 0) dX8_period_1 (by decide) ?_
  refine v_pf o lpX8_40 (wfModel_o ha) ⟨rfl, rfl⟩ dX8_period_2 ?_
  refine v_nmf (fun g2 eg2 => ?_)
  replace h := h g2 eg2
  refine v_aload_n o 0 dX8_period_5 rfl ?_
  refine v_iload_n o 1 dX8_period_6 rfl ?_
  refine v_cVi o [.int p1] [] (fun sz => metX8_isLoaf l G P g2 sz a ha p1 _ h) (cwX8_104 o.1.2.2.2.2 (by decide)) ⟨_, _, rfl⟩ (by decide) (wfModel_o ha) rfl (Nat.le_of_ble_eq_true rfl) ⟨Nat.le_of_ble_eq_true rfl, Nat.le_of_ble_eq_true rfl⟩ dX8_period_7 rfl (fun r7 g7 h => ?_)
  refine v_if_eq o (tgt := 21) dX8_period_10 (by decide) (fun c10 => ?_) (fun c10 => ?_)
  · replace h := h.1 c10
    refine v_aload_n o 0 dX8_period_21 rfl ?_
    refine v_iconst o (v := 1) dX8_period_22 (by decide) ?_
    refine v_cVi o [.int 1] [] (fun sz => metX8_fails l G P g7 sz a ha 1 _ h) (cwX8_123 o.1.2.2.2.2 (by decide)) ⟨_, _, rfl⟩ (by decide) (wfModel_o ha) rfl (Nat.le_of_ble_eq_true rfl) ⟨Nat.le_of_ble_eq_true rfl, Nat.le_of_ble_eq_true rfl⟩ dX8_period_23 rfl (fun r23 g23 h => ?_)
    exact v_iret o rfl hr dX8_period_26 h
  · replace h := h.2 c10
    refine v_aload_n o 0 dX8_period_13 rfl ?_
    refine v_iload_n o 1 dX8_period_14 rfl ?_
    refine v_cVi o [.int p1] [] (fun sz => metX8_periodOf l G P g7 sz a ha p1 _ h) (cwX8_250 o.1.2.2.2.2 (by decide)) ⟨_, _, rfl⟩ (by decide) (wfModel_o ha) rfl (Nat.le_of_ble_eq_true rfl) ⟨Nat.le_of_ble_eq_true rfl, Nat.le_of_ble_eq_true rfl⟩ dX8_period_15 rfl (fun r15 g15 h => ?_)
    refine v_goto o (tgt := 26) dX8_period_18 (by decide) ?_
    exact v_iret o rfl hr dX8_period_26 h
abbrev kX8_period := @vX8_period
abbrev metX8_period := @mX8_period
theorem u8_period {P : Sk} {f : St} {a : Nat} {p : Int32} {A : Ab} {K : Int32 → St → Prop} (hM : MIs f a A) (hF : FinM f a (opPeriod A p) K) : kX8_period P f a p K := by
  show vX8_period P f a p K
  unfold vX8_period
  intro g2 e2
  obtain ⟨M, z, r0⟩ := mi_start hM e2
  unfold opPeriod at hF
  refine u8_isLoaf M.1 M.bok (fun c1 => ?_) (fun c1 => ?_)
  · refine ⟨fun q => absurd q (by decide), fun _ => ?_⟩
    rw [cif_pos c1] at hF
    exact ⟨A.1, M.1, M.bok, c1, hF.lk M z r0⟩
  · refine ⟨fun _ => ?_, fun q => absurd rfl q⟩
    rw [cif_neg c1] at hF
    exact u8_fails (hF.no M r0)

