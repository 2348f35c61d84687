def vX8_tellsCrossing (P : Sk) (f : St) (a : Nat) (p1 : Int32) (p2 : Int32) (p3 : Int32) (K : Int32 → St → Prop) : Prop :=
  kX8_of P f a p1 1 (fun r4 g4 => (p2 < r4 → kX8_takes P g4 a p1 (fun g14 => kX8_walks P g14 a (p2 + 1) (fun g21 => (¬ p3 = 0 → (¬ p3 = 1 → (¬ p3 = 2 → K (g21 a 15) g21) ∧ (p3 = 2 → K (g21 a 14) g21)) ∧ (p3 = 1 → vp_in p2 50 ∧ (K ((g21 (a + 5) p2.toNatClampNeg) - (g21 (a + 5) p2.toNatClampNeg) / 2 * 2) g21))) ∧ (p3 = 0 → vp_in p2 50 ∧ (K ((g21 (a + 5) p2.toNatClampNeg) / 2) g21))))) ∧ (¬ p2 < r4 → K (-1) g4))
set_option maxRecDepth 20000 in
set_option maxHeartbeats 4000000 in
theorem mX8_tellsCrossing (l : Launch) (G : Gl) (P : Sk) (f : St) (sz : Nat) (a : Nat) (ha : IsModel P a) (p1 : Int32) (p2 : Int32) (p3 : Int32) (K : Int32 → St → Prop) (h : vX8_tellsCrossing P f a p1 p2 p3 K)  :
  Met l yX8_tellsCrossing (wU yX8_tellsCrossing cX8_tellsCrossing 4 (some .int)) rmX8_tellsCrossing (PcW G P f sz [.ref a, .int p1, .int p2, .int p3]) (QcI G P sz K) 0 0 (frA P sz) := by
  refine v_met (own := RX8) [.ref a, .int p1, .int p2, .int p3] (by decide +kernel) rfl (Nat.le_of_ble_eq_true rfl) (fun p e s m args below meth c hsz o hr hnm => ?_)
  refine v_lv (lv2 := [(0, .ref a), (1, .int p1), (2, .int p2), (3, .int p3)]) rfl ?_
  unfold vX8_tellsCrossing at h
  refine v_iload_n o 2 dX8_tellsCrossing_0 rfl ?_
  refine v_aload_n o 0 dX8_tellsCrossing_1 rfl ?_
  refine v_iload_n o 1 dX8_tellsCrossing_2 rfl ?_
  refine v_iconst o (v := 1) dX8_tellsCrossing_3 (by decide) ?_
  refine v_cVi o [.int p1, .int 1] [.int p2] (fun sz => metX8_of l G P f sz a ha p1 1 _ h) (cwX8_51 o.1.2.2.2.2 (by decide)) ⟨_, _, rfl⟩ (by decide) (wfModel_o ha) rfl (Nat.le_of_ble_eq_true rfl) ⟨Nat.le_of_ble_eq_true rfl, Nat.le_of_ble_eq_true rfl⟩ dX8_tellsCrossing_4 rfl (fun r4 g4 h => ?_)
  refine v_icmp_lt o (tgt := 12) dX8_tellsCrossing_7 (by decide) (fun c7 => ?_) (fun c7 => ?_)
  · replace h := h.1 c7
    refine v_aload_n o 0 dX8_tellsCrossing_12 rfl ?_
    refine v_iload_n o 1 dX8_tellsCrossing_13 rfl ?_
    refine v_cVv o [.int p1] [] (fun sz => metX8_takes l G P g4 sz a ha p1 _ h) (cwX8_107 o.1.2.2.2.2 (by decide)) ⟨_, _, rfl⟩ (by decide) (wfModel_o ha) rfl (Nat.le_of_ble_eq_true rfl) ⟨Nat.le_of_ble_eq_true rfl, Nat.le_of_ble_eq_true rfl⟩ dX8_tellsCrossing_14 rfl (fun g14 h => ?_)
    refine v_aload_n o 0 dX8_tellsCrossing_17 rfl ?_
    refine v_iload_n o 2 dX8_tellsCrossing_18 rfl ?_
    refine v_iconst o (v := 1) dX8_tellsCrossing_19 (by decide) ?_
    refine v_iadd o dX8_tellsCrossing_20 ?_
    refine v_cVv o [.int (p2 + 1)] [] (fun sz => metX8_walks l G P g14 sz a ha (p2 + 1) _ h) (cwX8_89 o.1.2.2.2.2 (by decide)) ⟨_, _, rfl⟩ (by decide) (wfModel_o ha) rfl (Nat.le_of_ble_eq_true rfl) ⟨Nat.le_of_ble_eq_true rfl, Nat.le_of_ble_eq_true rfl⟩ dX8_tellsCrossing_21 rfl (fun g21 h => ?_)
    refine v_iload_n o 3 dX8_tellsCrossing_24 rfl ?_
    refine v_if_ne o (tgt := 39) dX8_tellsCrossing_25 (by decide) (fun c25 => ?_) (fun c25 => ?_)
    · replace h := h.1 c25
      refine v_iload_n o 3 dX8_tellsCrossing_39 rfl ?_
      refine v_iconst o (v := 1) dX8_tellsCrossing_40 (by decide) ?_
      refine v_icmp_ne o (tgt := 55) dX8_tellsCrossing_41 (by decide) (fun c41 => ?_) (fun c41 => ?_)
      · replace h := h.1 c41
        refine v_iload_n o 3 dX8_tellsCrossing_55 rfl ?_
        refine v_iconst o (v := 2) dX8_tellsCrossing_56 (by decide) ?_
        refine v_icmp_ne o (tgt := 67) dX8_tellsCrossing_57 (by decide) (fun c57 => ?_) (fun c57 => ?_)
        · replace h := h.1 c57
          refine v_aload_n o 0 dX8_tellsCrossing_67 rfl ?_
          refine v_gfI o lkX8_83 (by decide) (wfModel_o ha) dX8_tellsCrossing_68 ?_
          exact v_iret o rfl hr dX8_tellsCrossing_71 h
        · replace h := h.2 c57
          refine v_aload_n o 0 dX8_tellsCrossing_60 rfl ?_
          refine v_gfI o lkX8_86 (by decide) (wfModel_o ha) dX8_tellsCrossing_61 ?_
          refine v_goto o (tgt := 71) dX8_tellsCrossing_64 (by decide) ?_
          exact v_iret o rfl hr dX8_tellsCrossing_71 h
      · replace h := h.2 c41
        refine v_aload_n o 0 dX8_tellsCrossing_44 rfl ?_
        refine v_gfR o lkX8_22 (by decide) (wfModel_o ha) (wfModel_r8 ha) dX8_tellsCrossing_45 ?_
        refine v_iload_n o 2 dX8_tellsCrossing_48 rfl ?_
        refine v_iald o (wfModel_t8 ha) (wfModel_n8 ha) h.1 dX8_tellsCrossing_49 ?_
        replace h := h.2
        refine v_iconst o (v := 2) dX8_tellsCrossing_50 (by decide) ?_
        refine v_irem o dX8_tellsCrossing_51 (by decide) ?_
        refine v_goto o (tgt := 71) dX8_tellsCrossing_52 (by decide) ?_
        exact v_iret o rfl hr dX8_tellsCrossing_71 h
    · replace h := h.2 c25
      refine v_aload_n o 0 dX8_tellsCrossing_28 rfl ?_
      refine v_gfR o lkX8_22 (by decide) (wfModel_o ha) (wfModel_r8 ha) dX8_tellsCrossing_29 ?_
      refine v_iload_n o 2 dX8_tellsCrossing_32 rfl ?_
      refine v_iald o (wfModel_t8 ha) (wfModel_n8 ha) h.1 dX8_tellsCrossing_33 ?_
      replace h := h.2
      refine v_iconst o (v := 2) dX8_tellsCrossing_34 (by decide) ?_
      refine v_idiv o dX8_tellsCrossing_35 (by decide) ?_
      refine v_goto o (tgt := 71) dX8_tellsCrossing_36 (by decide) ?_
      exact v_iret o rfl hr dX8_tellsCrossing_71 h
  · replace h := h.2 c7
    refine v_iconst o (v := (-1)) dX8_tellsCrossing_10 (by decide) ?_
    exact v_iret o rfl hr dX8_tellsCrossing_11 h
abbrev kX8_tellsCrossing := @vX8_tellsCrossing
abbrev metX8_tellsCrossing := @mX8_tellsCrossing
theorem u8_tellsCrossing {P : Sk} {f : St} {a i what : Nat} {p : Int32} {bd : Bd} {K : Int32 → St → Prop} (hS : StM f (a + 1) 0 bd) (hb : Bok bd) (hp : hasB bd p) (hi : i < 1000) (hw : what < 4) (hK : LkM f a (if i < (lfP bd p).2.length then nI (crN (lfP bd p).2 i what) else -1) K) : kX8_tellsCrossing P f a p (nI i) (nI what) K := by
  show vX8_tellsCrossing P f a p (nI i) (nI what) K
  unfold vX8_tellsCrossing
  have ho := (hb.has hp).1
  have h24 := ho.2.2.1
  refine u8_ofP (w := 1) hb hp (by decide) (hS.has hp).2.1 ?_
  change _ ∧ _
  rw [nI_ltI (by omega) (by omega)]
  refine ⟨fun q => ?_, fun q => ?_⟩
  · rw [if_pos q] at hK
    refine u8_take hS hb hp (fun g1 r1 m1 n1 => ?_)
    refine ⟨_, _, i + 1, nI_1 _, by omega, m1, ho, fun g r W L => ?_⟩
    have s : Sc9 f g a := (sc_w r1 (fun j h => h)).tr (sc_k r)
    have m : MW g a (lfP bd p).2 := m1.keep r (fun i hi => by omega) (by omega)
    have l := L (by omega)
    have i1 : vp_in (nI i) 50 := vp_nI (by omega) (by decide)
    have hc := ho.lt q
    have hr : nI ((lfP bd p).2.getD i 0) - nI ((lfP bd p).2.getD i 0) / nI 2 * nI 2 = nI ((lfP bd p).2.getD i 0 % 2) := pk_rem (by omega) (by decide) (by decide)
    have hv := hK g s
    have e5 : g (a + 5) (nI i).toNatClampNeg = nI ((lfP bd p).2.getD i 0) := by
      rw [nI_clamp (by omega)]
      exact m.2 i q
    unfold crN at hv
    match what, hw, hv with
    | 0, _, hv =>
      refine ⟨fun q2 => absurd rfl q2, fun _ => ⟨i1, ?_⟩⟩
      rw [e5, show (2 : Int32) = nI 2 from rfl, pk_div (by omega) (by decide) (by decide)]
      exact hv
    | 1, _, hv =>
      refine ⟨fun _ => ⟨fun q2 => absurd rfl q2, fun _ => ⟨i1, ?_⟩⟩, fun q2 => absurd q2 (by decide)⟩
      rw [e5, show (2 : Int32) = nI 2 from rfl, hr]
      exact hv
    | 2, _, hv =>
      refine ⟨fun _ => ⟨fun _ => ⟨fun q2 => absurd rfl q2, fun _ => ?_⟩, fun q2 => absurd q2 (by decide)⟩, fun q2 => absurd q2 (by decide)⟩
      rw [l.1]
      exact hv
    | 3, _, hv =>
      refine ⟨fun _ => ⟨fun _ => ⟨fun _ => ?_, fun q2 => absurd q2 (by decide)⟩, fun q2 => absurd q2 (by decide)⟩, fun q2 => absurd q2 (by decide)⟩
      rw [l.2]
      exact hv
  · rw [if_neg q] at hK
    exact hK f (Sc9.refl _ _)

def jX8_crossing_48 (P : Sk) (a : Nat) (p1 : Int32) (p2 : Int32) (p3 : Int32) (K : Int32 → St → Prop) (f : St) : Prop :=
  kX8_fails P f a 2 (fun r50 g50 => K r50 g50)
def vX8_crossing (P : Sk) (f : St) (a : Nat) (p1 : Int32) (p2 : Int32) (p3 : Int32) (K : Int32 → St → Prop) : Prop :=
  ∀ g2 : St, g2 = setf f a 0 0 → kX8_isLoaf P g2 a p1 (fun r7 g7 => (¬ r7 = 0 → kX8_in P g7 p2 0 23 (fun r23 g23 => (r23 = 0 → jX8_crossing_48 P a p1 p2 p3 K  g23) ∧ (¬ r23 = 0 → kX8_in P g23 p3 0 3 (fun r32 g32 => (r32 = 0 → jX8_crossing_48 P a p1 p2 p3 K  g32) ∧ (¬ r32 = 0 → kX8_tellsCrossing P g32 a p1 p2 p3 (fun r42 g42 => K r42 g42)))))) ∧ (r7 = 0 → kX8_fails P g7 a 1 (fun r15 g15 => K r15 g15)))
set_option maxRecDepth 20000 in
set_option maxHeartbeats 4000000 in
theorem mX8_crossing (l : Launch) (G : Gl) (P : Sk) (f : St) (sz : Nat) (a : Nat) (ha : IsModel P a) (p1 : Int32) (p2 : Int32) (p3 : Int32) (K : Int32 → St → Prop) (h : vX8_crossing P f a p1 p2 p3 K)  :
  Met l yX8_crossing (wU yX8_crossing cX8_crossing 4 (some .int)) rmX8_crossing (PcW G P f sz [.ref a, .int p1, .int p2, .int p3]) (QcI G P sz K) 0 0 (frA P sz) := by
  refine v_met (own := RX8) [.ref a, .int p1, .int p2, .int p3] (by decide +kernel) rfl (Nat.le_of_ble_eq_true rfl) (fun p e s m args below meth c hsz o hr hnm => ?_)
  refine v_lv (lv2 := [(0, .ref a), (1, .int p1), (2, .int p2), (3, .int p3)]) rfl ?_
  have J48 : ∀ (g48 : St), jX8_crossing_48 P a p1 p2 p3 K  g48 → V p l e rmX8_crossing s m args below meth c 4 G (frA P sz) (MQ below (QcI G P sz K) args s 0 0 (frA P sz)) 0 0 P [(0, .ref a), (1, .int p1), (2, .int p2), (3, .int p3)] [] 48 g48 := by
    intro  g48  h
    unfold jX8_crossing_48 at h
    refine v_aload_n o 0 dX8_crossing_48 rfl ?_
    refine v_iconst o (v := 2) dX8_crossing_49 (by decide) ?_
    refine v_cVi o [.int 2] [] (fun sz => metX8_fails l G P g48 sz a ha 2 _ h) (cwX8_123 o.1.2.2.2.2 (by decide)) ⟨_, _, rfl⟩ (by decide) (wfModel_o ha) rfl (Nat.le_of_ble_eq_true rfl) ⟨Nat.le_of_ble_eq_true rfl, Nat.le_of_ble_eq_true rfl⟩ dX8_crossing_50 rfl (fun r50 g50 h => ?_)
    exact v_iret o rfl hr dX8_crossing_53 h
  unfold vX8_crossing at h
  refine v_aload_n o 0 dX8_crossing_0 rfl ?_
  refine v_iconst o (v := 0) dX8_crossing_1 (by decide) ?_
  refine v_pf o lpX8_40 (wfModel_o ha) ⟨rfl, rfl⟩ dX8_crossing_2 ?_
  refine v_nmf (fun g2 eg2 => ?_)
  replace h := h g2 eg2
  refine v_aload_n o 0 dX8_crossing_5 rfl ?_
  refine v_iload_n o 1 dX8_crossing_6 rfl ?_
  refine v_cVi o [.int p1] [] (fun sz => metX8_isLoaf l G P g2 sz a ha p1 _ h) (cwX8_104 o.1.2.2.2.2 (by decide)) ⟨_, _, rfl⟩ (by decide) (wfModel_o ha) rfl (Nat.le_of_ble_eq_true rfl) ⟨Nat.le_of_ble_eq_true rfl, Nat.le_of_ble_eq_true rfl⟩ dX8_crossing_7 rfl (fun r7 g7 h => ?_)
  refine v_if_ne o (tgt := 19) dX8_crossing_10 (by decide) (fun c10 => ?_) (fun c10 => ?_)
  · replace h := h.1 c10
    refine v_iload_n o 2 dX8_crossing_19 rfl ?_
    refine v_iconst o (v := 0) dX8_crossing_20 (by decide) ?_
    refine v_bipush o (v := 23) dX8_crossing_21 (by decide) ?_
    refine v_cSi o [.int p2, .int 0, .int 23] [] (fun sz => metX8_in l G P g7 sz p2 0 23 _ h) (cwX8_44 o.1.2.2.2.2 (by decide)) rfl (Nat.le_of_ble_eq_true rfl) ⟨Nat.le_of_ble_eq_true rfl, Nat.le_of_ble_eq_true rfl⟩ dX8_crossing_23 rfl (fun r23 g23 h => ?_)
    refine v_if_eq o (tgt := 48) dX8_crossing_26 (by decide) (fun c26 => ?_) (fun c26 => ?_)
    · replace h := h.1 c26
      refine v_sub [0, 1, 2, 3] (lv2 := [(0, .ref a), (1, .int p1), (2, .int p2), (3, .int p3)]) rfl ?_
      exact J48  g23  h
    · replace h := h.2 c26
      refine v_iload_n o 3 dX8_crossing_29 rfl ?_
      refine v_iconst o (v := 0) dX8_crossing_30 (by decide) ?_
      refine v_iconst o (v := 3) dX8_crossing_31 (by decide) ?_
      refine v_cSi o [.int p3, .int 0, .int 3] [] (fun sz => metX8_in l G P g23 sz p3 0 3 _ h) (cwX8_44 o.1.2.2.2.2 (by decide)) rfl (Nat.le_of_ble_eq_true rfl) ⟨Nat.le_of_ble_eq_true rfl, Nat.le_of_ble_eq_true rfl⟩ dX8_crossing_32 rfl (fun r32 g32 h => ?_)
      refine v_if_eq o (tgt := 48) dX8_crossing_35 (by decide) (fun c35 => ?_) (fun c35 => ?_)
      · replace h := h.1 c35
        refine v_sub [0, 1, 2, 3] (lv2 := [(0, .ref a), (1, .int p1), (2, .int p2), (3, .int p3)]) rfl ?_
        exact J48  g32  h
      · replace h := h.2 c35
        refine v_aload_n o 0 dX8_crossing_38 rfl ?_
        refine v_iload_n o 1 dX8_crossing_39 rfl ?_
        refine v_iload_n o 2 dX8_crossing_40 rfl ?_
        refine v_iload_n o 3 dX8_crossing_41 rfl ?_
        refine v_cVi o [.int p1, .int p2, .int p3] [] (fun sz => metX8_tellsCrossing l G P g32 sz a ha p1 p2 p3 _ h) (cwX8_186 o.1.2.2.2.2 (by decide)) ⟨_, _, rfl⟩ (by decide) (wfModel_o ha) rfl (Nat.le_of_ble_eq_true rfl) ⟨Nat.le_of_ble_eq_true rfl, Nat.le_of_ble_eq_true rfl⟩ dX8_crossing_42 rfl (fun r42 g42 h => ?_)
        refine v_goto o (tgt := 53) dX8_crossing_45 (by decide) ?_
        exact v_iret o rfl hr dX8_crossing_53 h
  · replace h := h.2 c10
    refine v_aload_n o 0 dX8_crossing_13 rfl ?_
    refine v_iconst o (v := 1) dX8_crossing_14 (by decide) ?_
    refine v_cVi o [.int 1] [] (fun sz => metX8_fails l G P g7 sz a ha 1 _ h) (cwX8_123 o.1.2.2.2.2 (by decide)) ⟨_, _, rfl⟩ (by decide) (wfModel_o ha) rfl (Nat.le_of_ble_eq_true rfl) ⟨Nat.le_of_ble_eq_true rfl, Nat.le_of_ble_eq_true rfl⟩ dX8_crossing_15 rfl (fun r15 g15 h => ?_)
    exact v_iret o rfl hr dX8_crossing_18 h
abbrev kX8_crossing := @vX8_crossing
abbrev metX8_crossing := @mX8_crossing
theorem u8_crossing {P : Sk} {f : St} {a : Nat} {p q w : Int32} {A : Ab} {K : Int32 → St → Prop} (hM : MIs f a A) (hF : FinM f a (opCrossing A p q w) K) : kX8_crossing P f a p q w K := by
  show vX8_crossing P f a p q w K
  unfold vX8_crossing jX8_crossing_48
  intro g2 e2
  obtain ⟨M, z, r0⟩ := mi_start hM e2
  unfold opCrossing at hF
  refine u8_isLoaf M.1 M.bok (fun c1 => ?_) (fun c1 => ?_)
  · refine ⟨fun _ => ?_, fun q => absurd q (by decide)⟩
    rw [cif_pos c1] at hF
    refine u8_in0 (m := 23) (by decide) (fun c2 => ⟨fun q => absurd q (by decide), fun _ => ?_⟩) (fun c2 => ⟨fun _ => ?_, fun q => absurd rfl q⟩)
    · refine u8_in0 (m := 3) (by decide) (fun c3 => ⟨fun q => absurd q (by decide), fun _ => ?_⟩) (fun c3 => ⟨fun _ => ?_, fun q => absurd rfl q⟩)
      · rw [cif_pos ⟨c2, c3⟩] at hF
        have h := u8_tellsCrossing (P := P) M.1 M.bok c1 (i := q.toNatClampNeg) (what := w.toNatClampNeg) (by have := c2.2; omega) c3.2 (hF.lk M z r0)
        rw [← nI_cl c2.1, ← nI_cl c3.1] at h
        exact h
      · rw [cif_neg (fun h => c3 h.2)] at hF
        exact u8_fails (hF.no M r0)
    · rw [cif_neg (fun h => c2 h.1)] at hF
      exact u8_fails (hF.no M r0)
  · refine ⟨fun q => absurd rfl q, fun _ => ?_⟩
    rw [cif_neg c1] at hF
    exact u8_fails (hF.no M r0)

def jX8_placeOf_27 (P : Sk) (a : Nat) (p1 : Int32) (L4 : St → Int32 → Int32 → Prop) (K : Int32 → St → Prop) (x2 : Int32) (x3 : Int32) (y0 : Int32) (f : St) : Prop :=
  ∀ x3_28 : Int32, x3_28 = x3 + 1 → L4 f y0 x3_28
def bX8_placeOf_4 (P : Sk) (a : Nat) (p1 : Int32) (L4 : St → Int32 → Int32 → Prop) (K : Int32 → St → Prop) (f : St) (x2 : Int32) (x3 : Int32) : Prop :=
  (f a 10 ≤ x3 → K x2 f) ∧ (¬ f a 10 ≤ x3 → vp_in x3 7 ∧ ((¬ f (a + 6) x3.toNatClampNeg = p1 → jX8_placeOf_27 P a p1 L4 K x2 x3 x2 f) ∧ (f (a + 6) x3.toNatClampNeg = p1 → jX8_placeOf_27 P a p1 L4 K x2 x3 x3 f)))
def vX8_placeOf (P : Sk) (f : St) (a : Nat) (p1 : Int32) (L4 : St → Int32 → Int32 → Prop) (K : Int32 → St → Prop) : Prop :=
  L4 f (-1) 0
set_option maxRecDepth 20000 in
set_option maxHeartbeats 4000000 in
theorem mX8_placeOf (l : Launch) (G : Gl) (P : Sk) (f : St) (sz : Nat) (a : Nat) (ha : IsModel P a) (p1 : Int32) (K : Int32 → St → Prop) (I4 : St → Int32 → Int32 → Prop) (μ4 : St → Int32 → Int32 → Nat) 
  (h : vX8_placeOf P f a p1 I4 K)
  (h4 : ∀ (g : St) (x2 : Int32) (x3 : Int32) , I4 g x2 x3 → bX8_placeOf_4 P a p1 (fun g' z0 z1 => I4 g' z0 z1 ∧ μ4 g' z0 z1 < μ4 g x2 x3) K g x2 x3) :
  Met l yX8_placeOf (wU yX8_placeOf cX8_placeOf 4 (some .int)) rmX8_placeOf (PcW G P f sz [.ref a, .int p1]) (QcI G P sz K) 0 0 (frA P sz) := by
  refine v_met (own := RX8) [.ref a, .int p1] (by decide +kernel) rfl (Nat.le_of_ble_eq_true rfl) (fun p e s m args below meth c hsz o hr hnm => ?_)
  refine v_lv (lv2 := [(0, .ref a), (1, .int p1)]) rfl ?_
  have main : ∀ n : Nat, (∀ (g : St) (x2 : Int32) (x3 : Int32) , I4 g x2 x3 → μ4 g x2 x3 < n → V p l e rmX8_placeOf s m args below meth c 4 G (frA P sz) (MQ below (QcI G P sz K) args s 0 0 (frA P sz)) 0 0 P [(0, .ref a), (1, .int p1), (2, .int x2), (3, .int x3)] [] 4 g) := by
    intro n
    induction n with
    | zero => exact fun g x2 x3 hI hm => absurd hm (Nat.not_lt_zero _)
    | succ n ih =>
      intro g x2 x3 hI hm
      have h := h4 g x2 x3 hI
      clear hI
      have J27 : ∀ (x2_27 : Int32) (x3_27 : Int32) (y0_27 : Int32) (g27 : St), jX8_placeOf_27 P a p1 (fun g' z0 z1 => I4 g' z0 z1 ∧ μ4 g' z0 z1 < μ4 g x2 x3) K x2_27 x3_27 y0_27 g27 → V p l e rmX8_placeOf s m args below meth c 4 G (frA P sz) (MQ below (QcI G P sz K) args s 0 0 (frA P sz)) 0 0 P [(0, .ref a), (1, .int p1), (2, .int x2_27), (3, .int x3_27)] [.int y0_27] 27 g27 := by
        intro x2_27 x3_27 y0_27 g27  h
        unfold jX8_placeOf_27 at h
        refine v_istore_n o (lv' := [(2, .int y0_27), (0, .ref a), (1, .int p1), (3, .int x3_27)]) dX8_placeOf_27 rfl (by decide) rfl ?_
        obtain ⟨x3_28, ex3_28⟩ : ∃ y : Int32, y = x3_27 + 1 := ⟨_, rfl⟩
        replace h := h x3_28 ex3_28
        refine v_iinc o (v := x3_28) (lv' := [(3, .int x3_28), (2, .int y0_27), (0, .ref a), (1, .int p1)]) 3 dX8_placeOf_28 rfl (by rw [ex3_28]; rfl) (by decide) rfl ?_
        refine v_goto o (tgt := 4) dX8_placeOf_31 (by decide) ?_
        refine v_sub [2, 3, 1, 0] (lv2 := [(0, .ref a), (1, .int p1), (2, .int y0_27), (3, .int x3_28)]) rfl ?_
        exact ih g27 y0_27 x3_28  h.1 (by have := h.2; omega)
      unfold bX8_placeOf_4 at h
      refine v_iload_n o 3 dX8_placeOf_4 rfl ?_
      refine v_aload_n o 0 dX8_placeOf_5 rfl ?_
      refine v_gfI o lkX8_55 (by decide) (wfModel_o ha) dX8_placeOf_6 ?_
      refine v_icmp_ge o (tgt := 34) dX8_placeOf_9 (by decide) (fun c9 => ?_) (fun c9 => ?_)
      · replace h := h.1 c9
        refine v_iload_n o 2 dX8_placeOf_34 rfl ?_
        exact v_iret o rfl hr dX8_placeOf_35 h
      · replace h := h.2 c9
        refine v_aload_n o 0 dX8_placeOf_12 rfl ?_
        refine v_gfR o lkX8_25 (by decide) (wfModel_o ha) (wfModel_r11 ha) dX8_placeOf_13 ?_
        refine v_iload_n o 3 dX8_placeOf_16 rfl ?_
        refine v_iald o (wfModel_t11 ha) (wfModel_n11 ha) h.1 dX8_placeOf_17 ?_
        replace h := h.2
        refine v_iload_n o 1 dX8_placeOf_18 rfl ?_
        refine v_icmp_ne o (tgt := 26) dX8_placeOf_19 (by decide) (fun c19 => ?_) (fun c19 => ?_)
        · replace h := h.1 c19
          refine v_iload_n o 2 dX8_placeOf_26 rfl ?_
          refine v_sub [0, 1, 2, 3] (lv2 := [(0, .ref a), (1, .int p1), (2, .int x2), (3, .int x3)]) rfl ?_
          exact J27 x2 x3 x2 g  h
        · replace h := h.2 c19
          refine v_iload_n o 3 dX8_placeOf_22 rfl ?_
          refine v_goto o (tgt := 27) dX8_placeOf_23 (by decide) ?_
          refine v_sub [0, 1, 2, 3] (lv2 := [(0, .ref a), (1, .int p1), (2, .int x2), (3, .int x3)]) rfl ?_
          exact J27 x2 x3 x3 g  h
  unfold vX8_placeOf at h
  refine v_iconst o (v := (-1)) dX8_placeOf_0 (by decide) ?_
  refine v_istore_n o (lv' := [(2, .int (-1)), (0, .ref a), (1, .int p1)]) dX8_placeOf_1 rfl (by decide) rfl ?_
  refine v_iconst o (v := 0) dX8_placeOf_2 (by decide) ?_
  refine v_istore_n o (lv' := [(3, .int 0), (2, .int (-1)), (0, .ref a), (1, .int p1)]) dX8_placeOf_3 rfl (by decide) rfl ?_
  refine v_sub [2, 3, 1, 0] (lv2 := [(0, .ref a), (1, .int p1), (2, .int (-1)), (3, .int 0)]) rfl ?_
  exact (main (μ4 f (-1) 0 + 1)) f (-1) 0  h (Nat.lt_succ_self _)
def WX8_placeOf (P : Sk) (f : St) (a : Nat) (p1 : Int32) (K : Int32 → St → Prop) : Prop := ∃ (I4 : St → Int32 → Int32 → Prop) (μ4 : St → Int32 → Int32 → Nat), (vX8_placeOf P f a p1 I4 K) ∧ (∀ (g : St) (x2 : Int32) (x3 : Int32) , I4 g x2 x3 → bX8_placeOf_4 P a p1 (fun g' z0 z1 => I4 g' z0 z1 ∧ μ4 g' z0 z1 < μ4 g x2 x3) K g x2 x3)
def kX8_placeOf (P : Sk) (f : St) (a : Nat) (p1 : Int32) (K : Int32 → St → Prop) : Prop := ∃ n w s, p1 = nI s ∧ s < n ∧ Wok n w ∧ f a 10 = nI n ∧ WkM f a w w.length ∧ K (nI (wE w w.length s)) f
theorem wX8_placeOf (P : Sk) (f : St) (a : Nat) (ha : IsModel P a) (p1 : Int32) (K : Int32 → St → Prop) (h : kX8_placeOf P f a p1 K) : WX8_placeOf P f a p1 K := by
  obtain ⟨n, w, s, rfl, hs, ho, hn, hW, hK⟩ := h
  have h7 := ho.2.1
  have he := wE_lt ho w.length s (Nat.le_refl _) hs
  refine ⟨fun g x2 x3 => g = f ∧ ∃ k, x3 = nI k ∧ k ≤ n ∧ ((x2 = -1 ∧ k ≤ wE w w.length s) ∨ (x2 = nI (wE w w.length s) ∧ wE w w.length s < k)), fun g x2 x3 => n - x3.toNatClampNeg, ?_, ?_⟩
  · unfold vX8_placeOf
    exact ⟨rfl, 0, rfl, Nat.zero_le _, Or.inl ⟨rfl, Nat.zero_le _⟩⟩
  · rintro g x2 x3 ⟨rfl, k, rfl, hk, hx⟩
    unfold bX8_placeOf_4 jX8_placeOf_27
    rw [hn, nI_leI (by omega) (by omega)]
    refine ⟨fun q => ?_, fun q => ?_⟩
    · rcases hx with ⟨_, h⟩ | ⟨e, _⟩
      · omega
      · rw [e]
        exact hK
    · have hl := wH_lt ho w.length k (Nat.le_refl _) (by omega)
      have eq : wH w w.length k = s ↔ k = wE w w.length s := ⟨fun h => by rw [← h, wEH], fun h => by rw [h, wHE]⟩
      rw [nI_clamp (by omega), (hW k (by omega)).1, nI_eq (by omega) (by omega), nI_1, eq]
      refine ⟨vp_nI (by omega) (by decide), fun c y ey => ⟨⟨rfl, k + 1, ey, by omega, ?_⟩, mu_up ey (by omega) (by omega)⟩, fun c y ey => ⟨⟨rfl, k + 1, ey, by omega, Or.inr ⟨by rw [c], by omega⟩⟩, mu_up ey (by omega) (by omega)⟩⟩
      rcases hx with ⟨e, h⟩ | ⟨e, h⟩
      · exact Or.inl ⟨e, by omega⟩
      · exact Or.inr ⟨e, by omega⟩

theorem metX8_placeOf (l : Launch) (G : Gl) (P : Sk) (f : St) (sz : Nat) (a : Nat) (ha : IsModel P a) (p1 : Int32) (K : Int32 → St → Prop) (h : kX8_placeOf P f a p1 K) : Met l yX8_placeOf (wU yX8_placeOf cX8_placeOf 4 (some .int)) rmX8_placeOf (PcW G P f sz [.ref a, .int p1]) (QcI G P sz K) 0 0 (frA P sz) := by
  obtain ⟨I4, μ4, qh, qh4⟩ := wX8_placeOf P f a ha p1 K h
  exact mX8_placeOf l G P f sz a ha p1 K I4 μ4 qh qh4

def vX8_tellsStrand (P : Sk) (f : St) (a : Nat) (p1 : Int32) (p2 : Int32) (p3 : Int32) (K : Int32 → St → Prop) : Prop :=
  kX8_of P f a p1 0 (fun r4 g4 => (p2 < r4 → kX8_takes P g4 a p1 (fun g14 => kX8_walks P g14 a (g14 a 9) (fun g22 => (p3 = 0 → kX8_placeOf P g22 a p2 (fun r58 g58 => K r58 g58)) ∧ (¬ p3 = 0 → (p3 = 1 → vp_in p2 7 ∧ (K (g22 (a + 7) p2.toNatClampNeg) g22)) ∧ (¬ p3 = 1 → (p3 = 2 → vp_in p2 7 ∧ (K (g22 (a + 8) p2.toNatClampNeg) g22)) ∧ (¬ p3 = 2 → (p3 = 3 → vp_in p2 7 ∧ (vp_in p2 7 ∧ (K ((30 - (g22 (a + 8) p2.toNatClampNeg)) - (2 * (g22 (a + 7) p2.toNatClampNeg))) g22))) ∧ (¬ p3 = 3 → vp_in p2 7 ∧ (K (g22 (a + 6) p2.toNatClampNeg) g22)))))))) ∧ (¬ p2 < r4 → K (-1) g4))
set_option maxRecDepth 20000 in
set_option maxHeartbeats 4000000 in
theorem mX8_tellsStrand (l : Launch) (G : Gl) (P : Sk) (f : St) (sz : Nat) (a : Nat) (ha : IsModel P a) (p1 : Int32) (p2 : Int32) (p3 : Int32) (K : Int32 → St → Prop) (h : vX8_tellsStrand P f a p1 p2 p3 K)  :
  Met l yX8_tellsStrand (wU yX8_tellsStrand cX8_tellsStrand 4 (some .int)) rmX8_tellsStrand (PcW G P f sz [.ref a, .int p1, .int p2, .int p3]) (QcI G P sz K) 0 0 (frA P sz) := by
  refine v_met (own := RX8) [.ref a, .int p1, .int p2, .int p3] (by decide +kernel) rfl (Nat.le_of_ble_eq_true rfl) (fun p e s m args below meth c hsz o hr hnm => ?_)
  refine v_lv (lv2 := [(0, .ref a), (1, .int p1), (2, .int p2), (3, .int p3)]) rfl ?_
  unfold vX8_tellsStrand at h
  refine v_iload_n o 2 dX8_tellsStrand_0 rfl ?_
  refine v_aload_n o 0 dX8_tellsStrand_1 rfl ?_
  refine v_iload_n o 1 dX8_tellsStrand_2 rfl ?_
  refine v_iconst o (v := 0) dX8_tellsStrand_3 (by decide) ?_
  refine v_cVi o [.int p1, .int 0] [.int p2] (fun sz => metX8_of l G P f sz a ha p1 0 _ h) (cwX8_51 o.1.2.2.2.2 (by decide)) ⟨_, _, rfl⟩ (by decide) (wfModel_o ha) rfl (Nat.le_of_ble_eq_true rfl) ⟨Nat.le_of_ble_eq_true rfl, Nat.le_of_ble_eq_true rfl⟩ dX8_tellsStrand_4 rfl (fun r4 g4 h => ?_)
  refine v_icmp_lt o (tgt := 12) dX8_tellsStrand_7 (by decide) (fun c7 => ?_) (fun c7 => ?_)
  · replace h := h.1 c7
    refine v_aload_n o 0 dX8_tellsStrand_12 rfl ?_
    refine v_iload_n o 1 dX8_tellsStrand_13 rfl ?_
    refine v_cVv o [.int p1] [] (fun sz => metX8_takes l G P g4 sz a ha p1 _ h) (cwX8_107 o.1.2.2.2.2 (by decide)) ⟨_, _, rfl⟩ (by decide) (wfModel_o ha) rfl (Nat.le_of_ble_eq_true rfl) ⟨Nat.le_of_ble_eq_true rfl, Nat.le_of_ble_eq_true rfl⟩ dX8_tellsStrand_14 rfl (fun g14 h => ?_)
    refine v_aload_n o 0 dX8_tellsStrand_17 rfl ?_
    refine v_aload_n o 0 dX8_tellsStrand_18 rfl ?_
    refine v_gfI o lkX8_58 (by decide) (wfModel_o ha) dX8_tellsStrand_19 ?_
    refine v_cVv o [.int (g14 a 9)] [] (fun sz => metX8_walks l G P g14 sz a ha (g14 a 9) _ h) (cwX8_89 o.1.2.2.2.2 (by decide)) ⟨_, _, rfl⟩ (by decide) (wfModel_o ha) rfl (Nat.le_of_ble_eq_true rfl) ⟨Nat.le_of_ble_eq_true rfl, Nat.le_of_ble_eq_true rfl⟩ dX8_tellsStrand_22 rfl (fun g22 h => ?_)
    refine v_iload_n o 3 dX8_tellsStrand_25 rfl ?_
    by_cases c26_0 : p3 = 0
    · replace h := h.1 c26_0
      refine v_tableIn o (off := 30) (tgt := 56) dX8_tellsStrand_26 (by rw [c26_0]; decide) (by rw [c26_0]; decide) (by rw [c26_0]; decide) (by decide) ?_
      refine v_aload_n o 0 dX8_tellsStrand_56 rfl ?_
      refine v_iload_n o 2 dX8_tellsStrand_57 rfl ?_
      refine v_cVi o [.int p2] [] (fun sz => metX8_placeOf l G P g22 sz a ha p2 _ h) (cwX8_189 o.1.2.2.2.2 (by decide)) ⟨_, _, rfl⟩ (by decide) (wfModel_o ha) rfl (Nat.le_of_ble_eq_true rfl) ⟨Nat.le_of_ble_eq_true rfl, Nat.le_of_ble_eq_true rfl⟩ dX8_tellsStrand_58 rfl (fun r58 g58 h => ?_)
      exact v_iret o rfl hr dX8_tellsStrand_61 h
    · replace h := h.2 c26_0
      by_cases c26_1 : p3 = 1
      · replace h := h.1 c26_1
        refine v_tableIn o (off := 36) (tgt := 62) dX8_tellsStrand_26 (by rw [c26_1]; decide) (by rw [c26_1]; decide) (by rw [c26_1]; decide) (by decide) ?_
        refine v_aload_n o 0 dX8_tellsStrand_62 rfl ?_
        refine v_gfR o lkX8_28 (by decide) (wfModel_o ha) (wfModel_r12 ha) dX8_tellsStrand_63 ?_
        refine v_iload_n o 2 dX8_tellsStrand_66 rfl ?_
        refine v_iald o (wfModel_t12 ha) (wfModel_n12 ha) h.1 dX8_tellsStrand_67 ?_
        replace h := h.2
        exact v_iret o rfl hr dX8_tellsStrand_68 h
      · replace h := h.2 c26_1
        by_cases c26_2 : p3 = 2
        · replace h := h.1 c26_2
          refine v_tableIn o (off := 43) (tgt := 69) dX8_tellsStrand_26 (by rw [c26_2]; decide) (by rw [c26_2]; decide) (by rw [c26_2]; decide) (by decide) ?_
          refine v_aload_n o 0 dX8_tellsStrand_69 rfl ?_
          refine v_gfR o lkX8_31 (by decide) (wfModel_o ha) (wfModel_r13 ha) dX8_tellsStrand_70 ?_
          refine v_iload_n o 2 dX8_tellsStrand_73 rfl ?_
          refine v_iald o (wfModel_t13 ha) (wfModel_n13 ha) h.1 dX8_tellsStrand_74 ?_
          replace h := h.2
          exact v_iret o rfl hr dX8_tellsStrand_75 h
        · replace h := h.2 c26_2
          by_cases c26_3 : p3 = 3
          · replace h := h.1 c26_3
            refine v_tableIn o (off := 50) (tgt := 76) dX8_tellsStrand_26 (by rw [c26_3]; decide) (by rw [c26_3]; decide) (by rw [c26_3]; decide) (by decide) ?_
            refine v_bipush o (v := 30) dX8_tellsStrand_76 (by decide) ?_
            refine v_aload_n o 0 dX8_tellsStrand_78 rfl ?_
            refine v_gfR o lkX8_31 (by decide) (wfModel_o ha) (wfModel_r13 ha) dX8_tellsStrand_79 ?_
            refine v_iload_n o 2 dX8_tellsStrand_82 rfl ?_
            refine v_iald o (wfModel_t13 ha) (wfModel_n13 ha) h.1 dX8_tellsStrand_83 ?_
            replace h := h.2
            refine v_isub o dX8_tellsStrand_84 ?_
            refine v_iconst o (v := 2) dX8_tellsStrand_85 (by decide) ?_
            refine v_aload_n o 0 dX8_tellsStrand_86 rfl ?_
            refine v_gfR o lkX8_28 (by decide) (wfModel_o ha) (wfModel_r12 ha) dX8_tellsStrand_87 ?_
            refine v_iload_n o 2 dX8_tellsStrand_90 rfl ?_
            refine v_iald o (wfModel_t12 ha) (wfModel_n12 ha) h.1 dX8_tellsStrand_91 ?_
            replace h := h.2
            refine v_imul o dX8_tellsStrand_92 ?_
            refine v_isub o dX8_tellsStrand_93 ?_
            exact v_iret o rfl hr dX8_tellsStrand_94 h
          · replace h := h.2 c26_3
            refine v_tableOut o (tgt := 95) dX8_tellsStrand_26 (by have q0 := lv_neT c26_0 (a := 0) (by decide); have q1 := lv_neT c26_1 (a := 1) (by decide); have q2 := lv_neT c26_2 (a := 2) (by decide); have q3 := lv_neT c26_3 (a := 3) (by decide); omega) (by decide) ?_
            refine v_aload_n o 0 dX8_tellsStrand_95 rfl ?_
            refine v_gfR o lkX8_25 (by decide) (wfModel_o ha) (wfModel_r11 ha) dX8_tellsStrand_96 ?_
            refine v_iload_n o 2 dX8_tellsStrand_99 rfl ?_
            refine v_iald o (wfModel_t11 ha) (wfModel_n11 ha) h.1 dX8_tellsStrand_100 ?_
            replace h := h.2
            exact v_iret o rfl hr dX8_tellsStrand_101 h
  · replace h := h.2 c7
    refine v_iconst o (v := (-1)) dX8_tellsStrand_10 (by decide) ?_
    exact v_iret o rfl hr dX8_tellsStrand_11 h
abbrev kX8_tellsStrand := @vX8_tellsStrand
abbrev metX8_tellsStrand := @mX8_tellsStrand
theorem u8_tellsStrand {P : Sk} {f : St} {a s what : Nat} {p : Int32} {bd : Bd} {K : Int32 → St → Prop} (hS : StM f (a + 1) 0 bd) (hb : Bok bd) (hp : hasB bd p) (hs : s < 1000) (hw : what < 5) (hK : LkM f a (if s < (lfP bd p).1 then nI (stN (lfP bd p).1 (lfP bd p).2 s what) else -1) K) : kX8_tellsStrand P f a p (nI s) (nI what) K := by
  show vX8_tellsStrand P f a p (nI s) (nI what) K
  unfold vX8_tellsStrand
  have ho := (hb.has hp).1
  have hd := (hb.has hp).2
  have h7 := ho.2.1
  refine u8_ofP (w := 0) hb hp (by decide) (hS.has hp).1 ?_
  change _ ∧ _
  rw [nI_ltI (by omega) (by omega)]
  refine ⟨fun q => ?_, fun q => ?_⟩
  · rw [if_pos q] at hK
    refine u8_walked hS hb hp (fun g r m n W => ?_)
    have hv := hK g r
    have i7 : vp_in (nI s) 7 := vp_nI (by omega) (by decide)
    have hds : dgh (lfP bd p).2 s ≤ 30 := hd s q
    have cl : (nI s).toNatClampNeg = s := nI_clamp (by omega)
    obtain ⟨w1, w2, w3⟩ := W s (by omega)
    unfold stN at hv
    rw [cl, w1, w2, w3]
    match what, hw, hv with
    | 0, _, hv => exact ⟨fun _ => ⟨_, _, s, rfl, q, ho, n, W, hv⟩, fun q2 => absurd rfl q2⟩
    | 1, _, hv => exact ⟨fun q2 => absurd q2 (by decide), fun _ => ⟨fun _ => ⟨i7, hv⟩, fun q2 => absurd rfl q2⟩⟩
    | 2, _, hv => exact ⟨fun q2 => absurd q2 (by decide), fun _ => ⟨fun q2 => absurd q2 (by decide), fun _ => ⟨fun _ => ⟨i7, hv⟩, fun q2 => absurd rfl q2⟩⟩⟩
    | 3, _, hv =>
      refine ⟨fun q2 => absurd q2 (by decide), fun _ => ⟨fun q2 => absurd q2 (by decide), fun _ => ⟨fun q2 => absurd q2 (by decide), fun _ => ⟨fun _ => ⟨i7, i7, ?_⟩, fun q2 => absurd rfl q2⟩⟩⟩⟩
      unfold dgh at hds
      rw [show (30 : Int32) = nI 30 from rfl, show (2 : Int32) = nI 2 from rfl, nI_mul, pk_sub (by omega), pk_sub (by omega), show 30 - tA (lfP bd p).2 (lfP bd p).2.length s - 2 * tU (lfP bd p).2 (lfP bd p).2.length s = 30 - dgh (lfP bd p).2 s by unfold dgh; omega]
      exact hv
    | 4, _, hv => exact ⟨fun q2 => absurd q2 (by decide), fun _ => ⟨fun q2 => absurd q2 (by decide), fun _ => ⟨fun q2 => absurd q2 (by decide), fun _ => ⟨fun q2 => absurd q2 (by decide), fun _ => ⟨i7, hv⟩⟩⟩⟩⟩
  · rw [if_neg q] at hK
    exact hK f (Sc9.refl _ _)

def jX8_strand_48 (P : Sk) (a : Nat) (p1 : Int32) (p2 : Int32) (p3 : Int32) (K : Int32 → St → Prop) (f : St) : Prop :=
  kX8_fails P f a 2 (fun r50 g50 => K r50 g50)
def vX8_strand (P : Sk) (f : St) (a : Nat) (p1 : Int32) (p2 : Int32) (p3 : Int32) (K : Int32 → St → Prop) : Prop :=
  ∀ g2 : St, g2 = setf f a 0 0 → kX8_isLoaf P g2 a p1 (fun r7 g7 => (¬ r7 = 0 → kX8_in P g7 p2 0 6 (fun r23 g23 => (r23 = 0 → jX8_strand_48 P a p1 p2 p3 K  g23) ∧ (¬ r23 = 0 → kX8_in P g23 p3 0 4 (fun r32 g32 => (r32 = 0 → jX8_strand_48 P a p1 p2 p3 K  g32) ∧ (¬ r32 = 0 → kX8_tellsStrand P g32 a p1 p2 p3 (fun r42 g42 => K r42 g42)))))) ∧ (r7 = 0 → kX8_fails P g7 a 1 (fun r15 g15 => K r15 g15)))
set_option maxRecDepth 20000 in
set_option maxHeartbeats 4000000 in
theorem mX8_strand (l : Launch) (G : Gl) (P : Sk) (f : St) (sz : Nat) (a : Nat) (ha : IsModel P a) (p1 : Int32) (p2 : Int32) (p3 : Int32) (K : Int32 → St → Prop) (h : vX8_strand P f a p1 p2 p3 K)  :
  Met l yX8_strand (wU yX8_strand cX8_strand 4 (some .int)) rmX8_strand (PcW G P f sz [.ref a, .int p1, .int p2, .int p3]) (QcI G P sz K) 0 0 (frA P sz) := by
  refine v_met (own := RX8) [.ref a, .int p1, .int p2, .int p3] (by decide +kernel) rfl (Nat.le_of_ble_eq_true rfl) (fun p e s m args below meth c hsz o hr hnm => ?_)
  refine v_lv (lv2 := [(0, .ref a), (1, .int p1), (2, .int p2), (3, .int p3)]) rfl ?_
  have J48 : ∀ (g48 : St), jX8_strand_48 P a p1 p2 p3 K  g48 → V p l e rmX8_strand s m args below meth c 4 G (frA P sz) (MQ below (QcI G P sz K) args s 0 0 (frA P sz)) 0 0 P [(0, .ref a), (1, .int p1), (2, .int p2), (3, .int p3)] [] 48 g48 := by
    intro  g48  h
    unfold jX8_strand_48 at h
    refine v_aload_n o 0 dX8_strand_48 rfl ?_
    refine v_iconst o (v := 2) dX8_strand_49 (by decide) ?_
    refine v_cVi o [.int 2] [] (fun sz => metX8_fails l G P g48 sz a ha 2 _ h) (cwX8_123 o.1.2.2.2.2 (by decide)) ⟨_, _, rfl⟩ (by decide) (wfModel_o ha) rfl (Nat.le_of_ble_eq_true rfl) ⟨Nat.le_of_ble_eq_true rfl, Nat.le_of_ble_eq_true rfl⟩ dX8_strand_50 rfl (fun r50 g50 h => ?_)
    exact v_iret o rfl hr dX8_strand_53 h
  unfold vX8_strand at h
  refine v_aload_n o 0 dX8_strand_0 rfl ?_
  refine v_iconst o (v := 0) dX8_strand_1 (by decide) ?_
  refine v_pf o lpX8_40 (wfModel_o ha) ⟨rfl, rfl⟩ dX8_strand_2 ?_
  refine v_nmf (fun g2 eg2 => ?_)
  replace h := h g2 eg2
  refine v_aload_n o 0 dX8_strand_5 rfl ?_
  refine v_iload_n o 1 dX8_strand_6 rfl ?_
  refine v_cVi o [.int p1] [] (fun sz => metX8_isLoaf l G P g2 sz a ha p1 _ h) (cwX8_104 o.1.2.2.2.2 (by decide)) ⟨_, _, rfl⟩ (by decide) (wfModel_o ha) rfl (Nat.le_of_ble_eq_true rfl) ⟨Nat.le_of_ble_eq_true rfl, Nat.le_of_ble_eq_true rfl⟩ dX8_strand_7 rfl (fun r7 g7 h => ?_)
  refine v_if_ne o (tgt := 19) dX8_strand_10 (by decide) (fun c10 => ?_) (fun c10 => ?_)
  · replace h := h.1 c10
    refine v_iload_n o 2 dX8_strand_19 rfl ?_
    refine v_iconst o (v := 0) dX8_strand_20 (by decide) ?_
    refine v_bipush o (v := 6) dX8_strand_21 (by decide) ?_
    refine v_cSi o [.int p2, .int 0, .int 6] [] (fun sz => metX8_in l G P g7 sz p2 0 6 _ h) (cwX8_44 o.1.2.2.2.2 (by decide)) rfl (Nat.le_of_ble_eq_true rfl) ⟨Nat.le_of_ble_eq_true rfl, Nat.le_of_ble_eq_true rfl⟩ dX8_strand_23 rfl (fun r23 g23 h => ?_)
    refine v_if_eq o (tgt := 48) dX8_strand_26 (by decide) (fun c26 => ?_) (fun c26 => ?_)
    · replace h := h.1 c26
      refine v_sub [0, 1, 2, 3] (lv2 := [(0, .ref a), (1, .int p1), (2, .int p2), (3, .int p3)]) rfl ?_
      exact J48  g23  h
    · replace h := h.2 c26
      refine v_iload_n o 3 dX8_strand_29 rfl ?_
      refine v_iconst o (v := 0) dX8_strand_30 (by decide) ?_
      refine v_iconst o (v := 4) dX8_strand_31 (by decide) ?_
      refine v_cSi o [.int p3, .int 0, .int 4] [] (fun sz => metX8_in l G P g23 sz p3 0 4 _ h) (cwX8_44 o.1.2.2.2.2 (by decide)) rfl (Nat.le_of_ble_eq_true rfl) ⟨Nat.le_of_ble_eq_true rfl, Nat.le_of_ble_eq_true rfl⟩ dX8_strand_32 rfl (fun r32 g32 h => ?_)
      refine v_if_eq o (tgt := 48) dX8_strand_35 (by decide) (fun c35 => ?_) (fun c35 => ?_)
      · replace h := h.1 c35
        refine v_sub [0, 1, 2, 3] (lv2 := [(0, .ref a), (1, .int p1), (2, .int p2), (3, .int p3)]) rfl ?_
        exact J48  g32  h
      · replace h := h.2 c35
        refine v_aload_n o 0 dX8_strand_38 rfl ?_
        refine v_iload_n o 1 dX8_strand_39 rfl ?_
        refine v_iload_n o 2 dX8_strand_40 rfl ?_
        refine v_iload_n o 3 dX8_strand_41 rfl ?_
        refine v_cVi o [.int p1, .int p2, .int p3] [] (fun sz => metX8_tellsStrand l G P g32 sz a ha p1 p2 p3 _ h) (cwX8_192 o.1.2.2.2.2 (by decide)) ⟨_, _, rfl⟩ (by decide) (wfModel_o ha) rfl (Nat.le_of_ble_eq_true rfl) ⟨Nat.le_of_ble_eq_true rfl, Nat.le_of_ble_eq_true rfl⟩ dX8_strand_42 rfl (fun r42 g42 h => ?_)
        refine v_goto o (tgt := 53) dX8_strand_45 (by decide) ?_
        exact v_iret o rfl hr dX8_strand_53 h
  · replace h := h.2 c10
    refine v_aload_n o 0 dX8_strand_13 rfl ?_
    refine v_iconst o (v := 1) dX8_strand_14 (by decide) ?_
    refine v_cVi o [.int 1] [] (fun sz => metX8_fails l G P g7 sz a ha 1 _ h) (cwX8_123 o.1.2.2.2.2 (by decide)) ⟨_, _, rfl⟩ (by decide) (wfModel_o ha) rfl (Nat.le_of_ble_eq_true rfl) ⟨Nat.le_of_ble_eq_true rfl, Nat.le_of_ble_eq_true rfl⟩ dX8_strand_15 rfl (fun r15 g15 h => ?_)
    exact v_iret o rfl hr dX8_strand_18 h
abbrev kX8_strand := @vX8_strand
abbrev metX8_strand := @mX8_strand
theorem u8_strand {P : Sk} {f : St} {a : Nat} {p q w : Int32} {A : Ab} {K : Int32 → St → Prop} (hM : MIs f a A) (hF : FinM f a (opStrand A p q w) K) : kX8_strand P f a p q w K := by
  show vX8_strand P f a p q w K
  unfold vX8_strand jX8_strand_48
  intro g2 e2
  obtain ⟨M, z, r0⟩ := mi_start hM e2
  unfold opStrand at hF
  refine u8_isLoaf M.1 M.bok (fun c1 => ?_) (fun c1 => ?_)
  · refine ⟨fun _ => ?_, fun q => absurd q (by decide)⟩
    rw [cif_pos c1] at hF
    refine u8_in0 (m := 6) (by decide) (fun c2 => ⟨fun q => absurd q (by decide), fun _ => ?_⟩) (fun c2 => ⟨fun _ => ?_, fun q => absurd rfl q⟩)
    · refine u8_in0 (m := 4) (by decide) (fun c3 => ⟨fun q => absurd q (by decide), fun _ => ?_⟩) (fun c3 => ⟨fun _ => ?_, fun q => absurd rfl q⟩)
      · rw [cif_pos ⟨c2, c3⟩] at hF
        have h := u8_tellsStrand (P := P) M.1 M.bok c1 (s := q.toNatClampNeg) (what := w.toNatClampNeg) (by have := c2.2; omega) c3.2 (hF.lk M z r0)
        rw [← nI_cl c2.1, ← nI_cl c3.1] at h
        exact h
      · rw [cif_neg (fun h => c3 h.2)] at hF
        exact u8_fails (hF.no M r0)
    · rw [cif_neg (fun h => c2 h.1)] at hF
      exact u8_fails (hF.no M r0)
  · refine ⟨fun q => absurd rfl q, fun _ => ?_⟩
    rw [cif_neg c1] at hF
    exact u8_fails (hF.no M r0)

def jX8_rings_28 (P : Sk) (a : Nat) (L6 : St → Int32 → Int32 → Int32 → Prop) (L33 : St → Int32 → Int32 → Int32 → Int32 → Prop) (K : Int32 → St → Prop) (x1 : Int32) (x2 : Int32) (x3 : Int32) (y0 : Int32) (y1 : Int32) (f : St) : Prop :=
  ∀ x2_29 : Int32, x2_29 = y0 + y1 → L33 f x1 x2_29 x3 x3
def bX8_rings_6 (P : Sk) (a : Nat) (L6 : St → Int32 → Int32 → Int32 → Prop) (L33 : St → Int32 → Int32 → Int32 → Int32 → Prop) (K : Int32 → St → Prop) (f : St) (x1 : Int32) (x2 : Int32) (x3 : Int32) : Prop :=
  (f a 10 ≤ x3 → K x2 f) ∧ (¬ f a 10 ≤ x3 → (¬ (x1 >>> (x3 &&& 31)) &&& 1 = 0 → jX8_rings_28 P a L6 L33 K x1 x2 x3 x2 0 f) ∧ ((x1 >>> (x3 &&& 31)) &&& 1 = 0 → jX8_rings_28 P a L6 L33 K x1 x2 x3 x2 1 f))
def bX8_rings_33 (P : Sk) (a : Nat) (L6 : St → Int32 → Int32 → Int32 → Prop) (L33 : St → Int32 → Int32 → Int32 → Int32 → Prop) (K : Int32 → St → Prop) (f : St) (x1 : Int32) (x2 : Int32) (x3 : Int32) (x4 : Int32) : Prop :=
  (¬ (x1 >>> (x4 &&& 31)) &&& 1 = 0 → ∀ x3_61 : Int32, x3_61 = x3 + 1 → L6 f x1 x2 x3_61) ∧ ((x1 >>> (x4 &&& 31)) &&& 1 = 0 → ∀ x1_48 : Int32, x1_48 = x1 ||| (1 <<< (x4 &&& 31)) → vp_in x4 7 ∧ (∀ x4_56 : Int32, x4_56 = f (a + 6) x4.toNatClampNeg → L33 f x1_48 x2 x3 x4_56))
def vX8_rings (P : Sk) (f : St) (a : Nat) (L6 : St → Int32 → Int32 → Int32 → Prop) (L33 : St → Int32 → Int32 → Int32 → Int32 → Prop) (K : Int32 → St → Prop) : Prop :=
  L6 f 0 0 0
set_option maxRecDepth 20000 in
set_option maxHeartbeats 4000000 in
theorem mX8_rings (l : Launch) (G : Gl) (P : Sk) (f : St) (sz : Nat) (a : Nat) (ha : IsModel P a) (K : Int32 → St → Prop) (I6 : St → Int32 → Int32 → Int32 → Prop) (μ6 : St → Int32 → Int32 → Int32 → Nat) (I33 : St → Int32 → Int32 → Int32 → Int32 → Prop) (μ33 : St → Int32 → Int32 → Int32 → Int32 → Nat) 
  (h : vX8_rings P f a I6 I33 K)
  (h6 : ∀ (g : St) (x1 : Int32) (x2 : Int32) (x3 : Int32) , I6 g x1 x2 x3 → bX8_rings_6 P a (fun g' z0 z1 z2 => I6 g' z0 z1 z2 ∧ μ6 g' z0 z1 z2 < μ6 g x1 x2 x3) (fun g' z0 z1 z2 z3 => I33 g' z0 z1 z2 z3 ∧ μ33 g' z0 z1 z2 z3 < μ6 g x1 x2 x3) K g x1 x2 x3)
  (h33 : ∀ (g : St) (x1 : Int32) (x2 : Int32) (x3 : Int32) (x4 : Int32) , I33 g x1 x2 x3 x4 → bX8_rings_33 P a (fun g' z0 z1 z2 => I6 g' z0 z1 z2 ∧ μ6 g' z0 z1 z2 < μ33 g x1 x2 x3 x4) (fun g' z0 z1 z2 z3 => I33 g' z0 z1 z2 z3 ∧ μ33 g' z0 z1 z2 z3 < μ33 g x1 x2 x3 x4) K g x1 x2 x3 x4) :
  Met l yX8_rings (wU yX8_rings cX8_rings 5 (some .int)) rmX8_rings (PcW G P f sz [.ref a]) (QcI G P sz K) 0 0 (frA P sz) := by
  refine v_met (own := RX8) [.ref a] (by decide +kernel) rfl (Nat.le_of_ble_eq_true rfl) (fun p e s m args below meth c hsz o hr hnm => ?_)
  refine v_lv (lv2 := [(0, .ref a)]) rfl ?_
  have main : ∀ n : Nat, (∀ (g : St) (x1 : Int32) (x2 : Int32) (x3 : Int32) , I6 g x1 x2 x3 → μ6 g x1 x2 x3 < n → V p l e rmX8_rings s m args below meth c 5 G (frA P sz) (MQ below (QcI G P sz K) args s 0 0 (frA P sz)) 0 0 P [(0, .ref a), (1, .int x1), (2, .int x2), (3, .int x3)] [] 6 g) ∧ (∀ (g : St) (x1 : Int32) (x2 : Int32) (x3 : Int32) (x4 : Int32) , I33 g x1 x2 x3 x4 → μ33 g x1 x2 x3 x4 < n → V p l e rmX8_rings s m args below meth c 5 G (frA P sz) (MQ below (QcI G P sz K) args s 0 0 (frA P sz)) 0 0 P [(0, .ref a), (1, .int x1), (2, .int x2), (3, .int x3), (4, .int x4)] [] 33 g) := by
    intro n
    induction n with
    | zero => exact ⟨fun g x1 x2 x3 hI hm => absurd hm (Nat.not_lt_zero _), fun g x1 x2 x3 x4 hI hm => absurd hm (Nat.not_lt_zero _)⟩
    | succ n ih =>
      refine ⟨?_, ?_⟩
      · intro g x1 x2 x3 hI hm
        have h := h6 g x1 x2 x3 hI
        clear hI
        have J28 : ∀ (x1_28 : Int32) (x2_28 : Int32) (x3_28 : Int32) (y0_28 : Int32) (y1_28 : Int32) (g28 : St), jX8_rings_28 P a (fun g' z0 z1 z2 => I6 g' z0 z1 z2 ∧ μ6 g' z0 z1 z2 < μ6 g x1 x2 x3) (fun g' z0 z1 z2 z3 => I33 g' z0 z1 z2 z3 ∧ μ33 g' z0 z1 z2 z3 < μ6 g x1 x2 x3) K x1_28 x2_28 x3_28 y0_28 y1_28 g28 → V p l e rmX8_rings s m args below meth c 5 G (frA P sz) (MQ below (QcI G P sz K) args s 0 0 (frA P sz)) 0 0 P [(0, .ref a), (1, .int x1_28), (2, .int x2_28), (3, .int x3_28)] [.int y1_28, .int y0_28] 28 g28 := by
          intro x1_28 x2_28 x3_28 y0_28 y1_28 g28  h
          unfold jX8_rings_28 at h
          refine v_iadd o dX8_rings_28 ?_
          refine v_topi (fun x2_29 ex2_29 => ?_)
          replace h := h x2_29 ex2_29
          refine v_istore_n o (lv' := [(2, .int x2_29), (0, .ref a), (1, .int x1_28), (3, .int x3_28)]) dX8_rings_29 rfl (by decide) rfl ?_
          refine v_iload_n o 3 dX8_rings_30 rfl ?_
          refine v_istore o (lv' := [(4, .int x3_28), (2, .int x2_29), (0, .ref a), (1, .int x1_28), (3, .int x3_28)]) dX8_rings_31 (by decide) rfl ?_
          refine v_sub [2, 3, 1, 4, 0] (lv2 := [(0, .ref a), (1, .int x1_28), (2, .int x2_29), (3, .int x3_28), (4, .int x3_28)]) rfl ?_
          exact ih.2 g28 x1_28 x2_29 x3_28 x3_28  h.1 (by have := h.2; omega)
        unfold bX8_rings_6 at h
        refine v_iload_n o 3 dX8_rings_6 rfl ?_
        refine v_aload_n o 0 dX8_rings_7 rfl ?_
        refine v_gfI o lkX8_55 (by decide) (wfModel_o ha) dX8_rings_8 ?_
        refine v_icmp_ge o (tgt := 67) dX8_rings_11 (by decide) (fun c11 => ?_) (fun c11 => ?_)
        · replace h := h.1 c11
          refine v_iload_n o 2 dX8_rings_67 rfl ?_
          exact v_iret o rfl hr dX8_rings_68 h
        · replace h := h.2 c11
          refine v_iload_n o 2 dX8_rings_14 rfl ?_
          refine v_iload_n o 1 dX8_rings_15 rfl ?_
          refine v_iload_n o 3 dX8_rings_16 rfl ?_
          refine v_ishr o dX8_rings_17 ?_
          refine v_iconst o (v := 1) dX8_rings_18 (by decide) ?_
          refine v_iand o dX8_rings_19 ?_
          refine v_if_ne o (tgt := 27) dX8_rings_20 (by decide) (fun c20 => ?_) (fun c20 => ?_)
          · replace h := h.1 c20
            refine v_iconst o (v := 0) dX8_rings_27 (by decide) ?_
            refine v_sub [0, 1, 2, 3] (lv2 := [(0, .ref a), (1, .int x1), (2, .int x2), (3, .int x3)]) rfl ?_
            exact J28 x1 x2 x3 x2 0 g  h
          · replace h := h.2 c20
            refine v_iconst o (v := 1) dX8_rings_23 (by decide) ?_
            refine v_goto o (tgt := 28) dX8_rings_24 (by decide) ?_
            refine v_sub [0, 1, 2, 3] (lv2 := [(0, .ref a), (1, .int x1), (2, .int x2), (3, .int x3)]) rfl ?_
            exact J28 x1 x2 x3 x2 1 g  h
      · intro g x1 x2 x3 x4 hI hm
        have h := h33 g x1 x2 x3 x4 hI
        clear hI
        unfold bX8_rings_33 at h
        refine v_iload_n o 1 dX8_rings_33 rfl ?_
        refine v_iload o 4 dX8_rings_34 rfl ?_
        refine v_ishr o dX8_rings_36 ?_
        refine v_iconst o (v := 1) dX8_rings_37 (by decide) ?_
        refine v_iand o dX8_rings_38 ?_
        refine v_if_ne o (tgt := 61) dX8_rings_39 (by decide) (fun c39 => ?_) (fun c39 => ?_)
        · replace h := h.1 c39
          obtain ⟨x3_61, ex3_61⟩ : ∃ y : Int32, y = x3 + 1 := ⟨_, rfl⟩
          replace h := h x3_61 ex3_61
          refine v_iinc o (v := x3_61) (lv' := [(3, .int x3_61), (0, .ref a), (1, .int x1), (2, .int x2), (4, .int x4)]) 3 dX8_rings_61 rfl (by rw [ex3_61]; rfl) (by decide) rfl ?_
          refine v_goto o (tgt := 6) dX8_rings_64 (by decide) ?_
          refine v_sub [1, 2, 3, 0] (lv2 := [(0, .ref a), (1, .int x1), (2, .int x2), (3, .int x3_61)]) rfl ?_
          exact ih.1 g x1 x2 x3_61  h.1 (by have := h.2; omega)
        · replace h := h.2 c39
          refine v_iload_n o 1 dX8_rings_42 rfl ?_
          refine v_iconst o (v := 1) dX8_rings_43 (by decide) ?_
          refine v_iload o 4 dX8_rings_44 rfl ?_
          refine v_ishl o dX8_rings_46 ?_
          refine v_ior o dX8_rings_47 ?_
          refine v_topi (fun x1_48 ex1_48 => ?_)
          replace h := h x1_48 ex1_48
          refine v_istore_n o (lv' := [(1, .int x1_48), (0, .ref a), (2, .int x2), (3, .int x3), (4, .int x4)]) dX8_rings_48 rfl (by decide) rfl ?_
          refine v_aload_n o 1 dX8_rings_49 rfl ?_
          refine v_gfR o lkX8_25 (by decide) (wfModel_o ha) (wfModel_r11 ha) dX8_rings_50 ?_
          refine v_iload o 4 dX8_rings_53 rfl ?_
          refine v_iald o (wfModel_t11 ha) (wfModel_n11 ha) h.1 dX8_rings_55 ?_
          replace h := h.2
          refine v_topi (fun x4_56 ex4_56 => ?_)
          replace h := h x4_56 ex4_56
          refine v_istore o (lv' := [(4, .int x4_56), (1, .int x1_48), (0, .ref a), (2, .int x2), (3, .int x3)]) dX8_rings_56 (by decide) rfl ?_
          refine v_goto o (tgt := 33) dX8_rings_58 (by decide) ?_
          refine v_sub [2, 1, 3, 4, 0] (lv2 := [(0, .ref a), (1, .int x1_48), (2, .int x2), (3, .int x3), (4, .int x4_56)]) rfl ?_
          exact ih.2 g x1_48 x2 x3 x4_56  h.1 (by have := h.2; omega)
  unfold vX8_rings at h
  refine v_iconst o (v := 0) dX8_rings_0 (by decide) ?_
  refine v_istore_n o (lv' := [(1, .int 0), (0, .ref a)]) dX8_rings_1 rfl (by decide) rfl ?_
  refine v_iconst o (v := 0) dX8_rings_2 (by decide) ?_
  refine v_istore_n o (lv' := [(2, .int 0), (1, .int 0), (0, .ref a)]) dX8_rings_3 rfl (by decide) rfl ?_
  refine v_iconst o (v := 0) dX8_rings_4 (by decide) ?_
  refine v_istore_n o (lv' := [(3, .int 0), (2, .int 0), (1, .int 0), (0, .ref a)]) dX8_rings_5 rfl (by decide) rfl ?_
  refine v_sub [3, 2, 1, 0] (lv2 := [(0, .ref a), (1, .int 0), (2, .int 0), (3, .int 0)]) rfl ?_
  exact (main (μ6 f 0 0 0 + 1)).1 f 0 0 0  h (Nat.lt_succ_self _)
def WX8_rings (P : Sk) (f : St) (a : Nat) (K : Int32 → St → Prop) : Prop := ∃ (I6 : St → Int32 → Int32 → Int32 → Prop) (I33 : St → Int32 → Int32 → Int32 → Int32 → Prop) (μ6 : St → Int32 → Int32 → Int32 → Nat) (μ33 : St → Int32 → Int32 → Int32 → Int32 → Nat), (vX8_rings P f a I6 I33 K) ∧ (∀ (g : St) (x1 : Int32) (x2 : Int32) (x3 : Int32) , I6 g x1 x2 x3 → bX8_rings_6 P a (fun g' z0 z1 z2 => I6 g' z0 z1 z2 ∧ μ6 g' z0 z1 z2 < μ6 g x1 x2 x3) (fun g' z0 z1 z2 z3 => I33 g' z0 z1 z2 z3 ∧ μ33 g' z0 z1 z2 z3 < μ6 g x1 x2 x3) K g x1 x2 x3) ∧ (∀ (g : St) (x1 : Int32) (x2 : Int32) (x3 : Int32) (x4 : Int32) , I33 g x1 x2 x3 x4 → bX8_rings_33 P a (fun g' z0 z1 z2 => I6 g' z0 z1 z2 ∧ μ6 g' z0 z1 z2 < μ33 g x1 x2 x3 x4) (fun g' z0 z1 z2 z3 => I33 g' z0 z1 z2 z3 ∧ μ33 g' z0 z1 z2 z3 < μ33 g x1 x2 x3 x4) K g x1 x2 x3 x4)
def kX8_rings (P : Sk) (f : St) (a : Nat) (K : Int32 → St → Prop) : Prop := ∃ y : Lf, Wok y.1 y.2 ∧ f a 10 = nI y.1 ∧ WkM f a y.2 y.2.length ∧ K (nI (rgV y)) f
theorem wX8_rings (P : Sk) (f : St) (a : Nat) (ha : IsModel P a) (K : Int32 → St → Prop) (h : kX8_rings P f a K) : WX8_rings P f a K := by
  obtain ⟨y, ho, hn, hW, hK⟩ := h
  have h7 := ho.2.1
  have hlt : ∀ i, i < y.1 → wH y.2 y.2.length i < y.1 := fun i hi => wH_lt ho _ i (Nat.le_refl _) hi
  have hdg : ∀ i, i < y.1 → dg (cd (wH y.2 y.2.length) y.1) i = wH y.2 y.2.length i := fun i hi => dg_cd _ y.1 (fun j hj => by have := hlt j hj; omega) i hi
  generalize eH : cd (wH y.2 y.2.length) y.1 = H at hdg
  have eR : rgV y = rgO H 128 y.1 0 0 0 := by
    unfold rgV
    rw [eH]
  refine ⟨fun g x1 x2 x3 => g = f ∧ ∃ seen found k, x1 = nI seen ∧ x2 = nI found ∧ x3 = nI k ∧ k ≤ y.1 ∧ seen < 128 ∧ rgV y = rgO H 128 (y.1 - k) k seen found,
    fun g x1 x2 x3 x4 => g = f ∧ ∃ seen found k place fu, x1 = nI seen ∧ x2 = nI found ∧ x3 = nI k ∧ x4 = nI place ∧ k < y.1 ∧ place < y.1 ∧ seen < 128 ∧ 128 ≤ seen + fu ∧ rgV y = rgO H 128 (y.1 - (k + 1)) (k + 1) (rgI H fu seen place) found,
    fun g x1 x2 x3 => 1000 * (10 - x3.toNatClampNeg), fun g x1 x2 x3 x4 => 1000 * (9 - x3.toNatClampNeg) + 500 + (128 - x1.toNatClampNeg), ?_, ?_, ?_⟩
  · unfold vX8_rings
    exact ⟨rfl, 0, 0, 0, rfl, rfl, rfl, Nat.zero_le _, by decide, eR⟩
  · rintro g x1 x2 x3 ⟨rfl, seen, found, k, rfl, rfl, rfl, hk, hs, hR⟩
    unfold bX8_rings_6 jX8_rings_28
    rw [hn, nI_leI (by omega) (by omega)]
    refine ⟨fun q => ?_, fun q => ?_⟩
    · rw [show y.1 - k = 0 by omega] at hR
      rw [hR] at hK
      exact hK
    · rw [b_sh seen hs k (by omega)]
      rw [show y.1 - k = (y.1 - (k + 1)) + 1 by omega, rgO_s] at hR
      have mu : ∀ x2 : Int32, 1000 * (9 - (nI k).toNatClampNeg) + 500 + (128 - (nI seen).toNatClampNeg) < 1000 * (10 - (nI k).toNatClampNeg) := by
        intro _
        rw [nI_clamp (by omega), nI_clamp (by omega)]
        omega
      refine ⟨fun c z ez => ⟨⟨rfl, seen, found, k, k, 128, rfl, ?_, rfl, rfl, by omega, by omega, hs, by omega, ?_⟩, mu z⟩, fun c z ez => ⟨⟨rfl, seen, found + 1, k, k, 128, rfl, ?_, rfl, rfl, by omega, by omega, hs, by omega, ?_⟩, mu z⟩⟩
      · rw [ez, Int32.add_zero]
      · rw [if_neg c] at hR
        exact hR
      · rw [ez, nI_1]
      · rw [if_pos c] at hR
        exact hR
  · rintro g x1 x2 x3 x4 ⟨rfl, seen, found, k, place, fu, rfl, rfl, rfl, rfl, hk, hp, hs, hfu, hR⟩
    unfold bX8_rings_33
    obtain ⟨fu2, rfl⟩ : ∃ fu2, fu = fu2 + 1 := ⟨fu - 1, by omega⟩
    rw [rgI_s] at hR
    rw [b_sh seen hs place (by omega)]
    refine ⟨fun c z ez => ?_, fun c z ez => ⟨vp_nI (by omega) (by decide), fun u eu => ?_⟩⟩
    · rw [if_neg c] at hR
      rw [nI_1] at ez
      refine ⟨⟨rfl, seen, found, k + 1, rfl, rfl, ez, by omega, hs, hR⟩, ?_⟩
      rw [ez]
      show 1000 * (10 - (nI (k + 1)).toNatClampNeg) < 1000 * (9 - (nI k).toNatClampNeg) + 500 + (128 - (nI seen).toNatClampNeg)
      rw [nI_clamp (by omega), nI_clamp (by omega), nI_clamp (by omega)]
      omega
    · rw [if_pos c, hdg place hp] at hR
      obtain ⟨o1, o2⟩ := b_or seen hs place (by omega) c
      rw [o1] at ez
      rw [nI_clamp (by omega), (hW place (by omega)).1] at eu
      have p2 : 0 < 2 ^ place := Nat.pow_pos (by decide)
      refine ⟨⟨rfl, seen + 2 ^ place, found, k, wH y.2 y.2.length place, fu2, ez, rfl, rfl, eu, hk, hlt place hp, o2, by omega, hR⟩, ?_⟩
      rw [ez]
      show 1000 * (9 - (nI k).toNatClampNeg) + 500 + (128 - (nI (seen + 2 ^ place)).toNatClampNeg) < 1000 * (9 - (nI k).toNatClampNeg) + 500 + (128 - (nI seen).toNatClampNeg)
      rw [nI_clamp (show seen + 2 ^ place < 2 ^ 31 by omega), nI_clamp (show seen < 2 ^ 31 by omega)]
      omega

theorem metX8_rings (l : Launch) (G : Gl) (P : Sk) (f : St) (sz : Nat) (a : Nat) (ha : IsModel P a) (K : Int32 → St → Prop) (h : kX8_rings P f a K) : Met l yX8_rings (wU yX8_rings cX8_rings 5 (some .int)) rmX8_rings (PcW G P f sz [.ref a]) (QcI G P sz K) 0 0 (frA P sz) := by
  obtain ⟨I6, I33, μ6, μ33, qh, qh6, qh33⟩ := wX8_rings P f a ha K h
  exact mX8_rings l G P f sz a ha K I6 μ6 I33 μ33 qh qh6 qh33

def jX8_rightLessLeft_30 (P : Sk) (a : Nat) (L4 : St → Int32 → Int32 → Prop) (K : Int32 → St → Prop) (x1 : Int32) (x2 : Int32) (y0 : Int32) (y1 : Int32) (f : St) : Prop :=
  ∀ x1_31 : Int32, x1_31 = y0 + y1 → ∀ x2_32 : Int32, x2_32 = x2 + 1 → L4 f x1_31 x2_32
def bX8_rightLessLeft_4 (P : Sk) (a : Nat) (L4 : St → Int32 → Int32 → Prop) (K : Int32 → St → Prop) (f : St) (x1 : Int32) (x2 : Int32) : Prop :=
  (f a 9 ≤ x2 → K x1 f) ∧ (¬ f a 9 ≤ x2 → vp_in x2 50 ∧ ((¬ (f (a + 5) x2.toNatClampNeg) - (f (a + 5) x2.toNatClampNeg) / 2 * 2 = 1 → jX8_rightLessLeft_30 P a L4 K x1 x2 x1 (-1) f) ∧ ((f (a + 5) x2.toNatClampNeg) - (f (a + 5) x2.toNatClampNeg) / 2 * 2 = 1 → jX8_rightLessLeft_30 P a L4 K x1 x2 x1 1 f)))
def vX8_rightLessLeft (P : Sk) (f : St) (a : Nat) (L4 : St → Int32 → Int32 → Prop) (K : Int32 → St → Prop) : Prop :=
  L4 f 0 0
set_option maxRecDepth 20000 in
set_option maxHeartbeats 4000000 in
theorem mX8_rightLessLeft (l : Launch) (G : Gl) (P : Sk) (f : St) (sz : Nat) (a : Nat) (ha : IsModel P a) (K : Int32 → St → Prop) (I4 : St → Int32 → Int32 → Prop) (μ4 : St → Int32 → Int32 → Nat) 
  (h : vX8_rightLessLeft P f a I4 K)
  (h4 : ∀ (g : St) (x1 : Int32) (x2 : Int32) , I4 g x1 x2 → bX8_rightLessLeft_4 P a (fun g' z0 z1 => I4 g' z0 z1 ∧ μ4 g' z0 z1 < μ4 g x1 x2) K g x1 x2) :
  Met l yX8_rightLessLeft (wU yX8_rightLessLeft cX8_rightLessLeft 3 (some .int)) rmX8_rightLessLeft (PcW G P f sz [.ref a]) (QcI G P sz K) 0 0 (frA P sz) := by
  refine v_met (own := RX8) [.ref a] (by decide +kernel) rfl (Nat.le_of_ble_eq_true rfl) (fun p e s m args below meth c hsz o hr hnm => ?_)
  refine v_lv (lv2 := [(0, .ref a)]) rfl ?_
  have main : ∀ n : Nat, (∀ (g : St) (x1 : Int32) (x2 : Int32) , I4 g x1 x2 → μ4 g x1 x2 < n → V p l e rmX8_rightLessLeft s m args below meth c 3 G (frA P sz) (MQ below (QcI G P sz K) args s 0 0 (frA P sz)) 0 0 P [(0, .ref a), (1, .int x1), (2, .int x2)] [] 4 g) := by
    intro n
    induction n with
    | zero => exact fun g x1 x2 hI hm => absurd hm (Nat.not_lt_zero _)
    | succ n ih =>
      intro g x1 x2 hI hm
      have h := h4 g x1 x2 hI
      clear hI
      have J30 : ∀ (x1_30 : Int32) (x2_30 : Int32) (y0_30 : Int32) (y1_30 : Int32) (g30 : St), jX8_rightLessLeft_30 P a (fun g' z0 z1 => I4 g' z0 z1 ∧ μ4 g' z0 z1 < μ4 g x1 x2) K x1_30 x2_30 y0_30 y1_30 g30 → V p l e rmX8_rightLessLeft s m args below meth c 3 G (frA P sz) (MQ below (QcI G P sz K) args s 0 0 (frA P sz)) 0 0 P [(0, .ref a), (1, .int x1_30), (2, .int x2_30)] [.int y1_30, .int y0_30] 30 g30 := by
        intro x1_30 x2_30 y0_30 y1_30 g30  h
        unfold jX8_rightLessLeft_30 at h
        refine v_iadd o dX8_rightLessLeft_30 ?_
        refine v_topi (fun x1_31 ex1_31 => ?_)
        replace h := h x1_31 ex1_31
        refine v_istore_n o (lv' := [(1, .int x1_31), (0, .ref a), (2, .int x2_30)]) dX8_rightLessLeft_31 rfl (by decide) rfl ?_
        obtain ⟨x2_32, ex2_32⟩ : ∃ y : Int32, y = x2_30 + 1 := ⟨_, rfl⟩
        replace h := h x2_32 ex2_32
        refine v_iinc o (v := x2_32) (lv' := [(2, .int x2_32), (1, .int x1_31), (0, .ref a)]) 2 dX8_rightLessLeft_32 rfl (by rw [ex2_32]; rfl) (by decide) rfl ?_
        refine v_goto o (tgt := 4) dX8_rightLessLeft_35 (by decide) ?_
        refine v_sub [2, 1, 0] (lv2 := [(0, .ref a), (1, .int x1_31), (2, .int x2_32)]) rfl ?_
        exact ih g30 x1_31 x2_32  h.1 (by have := h.2; omega)
      unfold bX8_rightLessLeft_4 at h
      refine v_iload_n o 2 dX8_rightLessLeft_4 rfl ?_
      refine v_aload_n o 0 dX8_rightLessLeft_5 rfl ?_
      refine v_gfI o lkX8_58 (by decide) (wfModel_o ha) dX8_rightLessLeft_6 ?_
      refine v_icmp_ge o (tgt := 38) dX8_rightLessLeft_9 (by decide) (fun c9 => ?_) (fun c9 => ?_)
      · replace h := h.1 c9
        refine v_iload_n o 1 dX8_rightLessLeft_38 rfl ?_
        exact v_iret o rfl hr dX8_rightLessLeft_39 h
      · replace h := h.2 c9
        refine v_iload_n o 1 dX8_rightLessLeft_12 rfl ?_
        refine v_aload_n o 0 dX8_rightLessLeft_13 rfl ?_
        refine v_gfR o lkX8_22 (by decide) (wfModel_o ha) (wfModel_r8 ha) dX8_rightLessLeft_14 ?_
        refine v_iload_n o 2 dX8_rightLessLeft_17 rfl ?_
        refine v_iald o (wfModel_t8 ha) (wfModel_n8 ha) h.1 dX8_rightLessLeft_18 ?_
        replace h := h.2
        refine v_iconst o (v := 2) dX8_rightLessLeft_19 (by decide) ?_
        refine v_irem o dX8_rightLessLeft_20 (by decide) ?_
        refine v_iconst o (v := 1) dX8_rightLessLeft_21 (by decide) ?_
        refine v_icmp_ne o (tgt := 29) dX8_rightLessLeft_22 (by decide) (fun c22 => ?_) (fun c22 => ?_)
        · replace h := h.1 c22
          refine v_iconst o (v := (-1)) dX8_rightLessLeft_29 (by decide) ?_
          refine v_sub [0, 1, 2] (lv2 := [(0, .ref a), (1, .int x1), (2, .int x2)]) rfl ?_
          exact J30 x1 x2 x1 (-1) g  h
        · replace h := h.2 c22
          refine v_iconst o (v := 1) dX8_rightLessLeft_25 (by decide) ?_
          refine v_goto o (tgt := 30) dX8_rightLessLeft_26 (by decide) ?_
          refine v_sub [0, 1, 2] (lv2 := [(0, .ref a), (1, .int x1), (2, .int x2)]) rfl ?_
          exact J30 x1 x2 x1 1 g  h
  unfold vX8_rightLessLeft at h
  refine v_iconst o (v := 0) dX8_rightLessLeft_0 (by decide) ?_
  refine v_istore_n o (lv' := [(1, .int 0), (0, .ref a)]) dX8_rightLessLeft_1 rfl (by decide) rfl ?_
  refine v_iconst o (v := 0) dX8_rightLessLeft_2 (by decide) ?_
  refine v_istore_n o (lv' := [(2, .int 0), (1, .int 0), (0, .ref a)]) dX8_rightLessLeft_3 rfl (by decide) rfl ?_
  refine v_sub [2, 1, 0] (lv2 := [(0, .ref a), (1, .int 0), (2, .int 0)]) rfl ?_
  exact (main (μ4 f 0 0 + 1)) f 0 0  h (Nat.lt_succ_self _)
def WX8_rightLessLeft (P : Sk) (f : St) (a : Nat) (K : Int32 → St → Prop) : Prop := ∃ (I4 : St → Int32 → Int32 → Prop) (μ4 : St → Int32 → Int32 → Nat), (vX8_rightLessLeft P f a I4 K) ∧ (∀ (g : St) (x1 : Int32) (x2 : Int32) , I4 g x1 x2 → bX8_rightLessLeft_4 P a (fun g' z0 z1 => I4 g' z0 z1 ∧ μ4 g' z0 z1 < μ4 g x1 x2) K g x1 x2)
def kX8_rightLessLeft (P : Sk) (f : St) (a : Nat) (K : Int32 → St → Prop) : Prop := ∃ w, MW f a w ∧ Cok w ∧ K (rll w w.length) f
theorem wX8_rightLessLeft (P : Sk) (f : St) (a : Nat) (ha : IsModel P a) (K : Int32 → St → Prop) (h : kX8_rightLessLeft P f a K) : WX8_rightLessLeft P f a K := by
  obtain ⟨w, hw, hc, hK⟩ := h
  have hl := hc.1
  refine ⟨fun g x1 x2 => g = f ∧ ∃ k, x2 = nI k ∧ k ≤ w.length ∧ x1 = rll w k, fun g x1 x2 => w.length - x2.toNatClampNeg, ?_, ?_⟩
  · unfold vX8_rightLessLeft
    exact ⟨rfl, 0, rfl, Nat.zero_le _, rfl⟩
  · rintro g x1 x2 ⟨rfl, k, rfl, hk, rfl⟩
    unfold bX8_rightLessLeft_4 jX8_rightLessLeft_30
    rw [hw.1, nI_leI (by omega) (by omega)]
    refine ⟨fun q => ?_, fun q => ?_⟩
    · rw [show k = w.length by omega]
      exact hK
    · have hck := hc.at (i := k) (by omega)
      have hr : nI (w.getD k 0) - nI (w.getD k 0) / nI 2 * nI 2 = nI (w.getD k 0 % 2) := pk_rem (by omega) (by decide) (by decide)
      rw [nI_clamp (by omega), hw.2 k (by omega), show (2 : Int32) = nI 2 from rfl, hr]
      have e1 : nI (w.getD k 0 % 2) = 1 ↔ w.getD k 0 % 2 = 1 := nI_eq (b := 1) (by omega) (by decide)
      rw [e1, nI_1]
      refine ⟨vp_nI (by omega) (by decide), fun c z ez y ey => ⟨⟨rfl, k + 1, ey, by omega, ?_⟩, mu_up ey (by omega) (by omega)⟩, fun c z ez y ey => ⟨⟨rfl, k + 1, ey, by omega, ?_⟩, mu_up ey (by omega) (by omega)⟩⟩
      · rw [ez, rll, if_neg c]
      · rw [ez, rll, if_pos c]

theorem metX8_rightLessLeft (l : Launch) (G : Gl) (P : Sk) (f : St) (sz : Nat) (a : Nat) (ha : IsModel P a) (K : Int32 → St → Prop) (h : kX8_rightLessLeft P f a K) : Met l yX8_rightLessLeft (wU yX8_rightLessLeft cX8_rightLessLeft 3 (some .int)) rmX8_rightLessLeft (PcW G P f sz [.ref a]) (QcI G P sz K) 0 0 (frA P sz) := by
  obtain ⟨I4, μ4, qh, qh4⟩ := wX8_rightLessLeft P f a ha K h
  exact mX8_rightLessLeft l G P f sz a ha K I4 μ4 qh qh4

def jX8_mostHidden_32 (P : Sk) (a : Nat) (L4 : St → Int32 → Int32 → Prop) (K : Int32 → St → Prop) (x1 : Int32) (x2 : Int32) (y0 : Int32) (f : St) : Prop :=
  ∀ x2_33 : Int32, x2_33 = x2 + 1 → L4 f y0 x2_33
def bX8_mostHidden_4 (P : Sk) (a : Nat) (L4 : St → Int32 → Int32 → Prop) (K : Int32 → St → Prop) (f : St) (x1 : Int32) (x2 : Int32) : Prop :=
  (f a 10 ≤ x2 → K x1 f) ∧ (¬ f a 10 ≤ x2 → vp_in x2 7 ∧ (vp_in x1 7 ∧ ((f (a + 7) x2.toNatClampNeg ≤ f (a + 7) x1.toNatClampNeg → jX8_mostHidden_32 P a L4 K x1 x2 x1 f) ∧ (¬ f (a + 7) x2.toNatClampNeg ≤ f (a + 7) x1.toNatClampNeg → jX8_mostHidden_32 P a L4 K x1 x2 x2 f))))
def vX8_mostHidden (P : Sk) (f : St) (a : Nat) (L4 : St → Int32 → Int32 → Prop) (K : Int32 → St → Prop) : Prop :=
  L4 f 0 1
set_option maxRecDepth 20000 in
set_option maxHeartbeats 4000000 in
theorem mX8_mostHidden (l : Launch) (G : Gl) (P : Sk) (f : St) (sz : Nat) (a : Nat) (ha : IsModel P a) (K : Int32 → St → Prop) (I4 : St → Int32 → Int32 → Prop) (μ4 : St → Int32 → Int32 → Nat) 
  (h : vX8_mostHidden P f a I4 K)
  (h4 : ∀ (g : St) (x1 : Int32) (x2 : Int32) , I4 g x1 x2 → bX8_mostHidden_4 P a (fun g' z0 z1 => I4 g' z0 z1 ∧ μ4 g' z0 z1 < μ4 g x1 x2) K g x1 x2) :
  Met l yX8_mostHidden (wU yX8_mostHidden cX8_mostHidden 3 (some .int)) rmX8_mostHidden (PcW G P f sz [.ref a]) (QcI G P sz K) 0 0 (frA P sz) := by
  refine v_met (own := RX8) [.ref a] (by decide +kernel) rfl (Nat.le_of_ble_eq_true rfl) (fun p e s m args below meth c hsz o hr hnm => ?_)
  refine v_lv (lv2 := [(0, .ref a)]) rfl ?_
  have main : ∀ n : Nat, (∀ (g : St) (x1 : Int32) (x2 : Int32) , I4 g x1 x2 → μ4 g x1 x2 < n → V p l e rmX8_mostHidden s m args below meth c 3 G (frA P sz) (MQ below (QcI G P sz K) args s 0 0 (frA P sz)) 0 0 P [(0, .ref a), (1, .int x1), (2, .int x2)] [] 4 g) := by
    intro n
    induction n with
    | zero => exact fun g x1 x2 hI hm => absurd hm (Nat.not_lt_zero _)
    | succ n ih =>
      intro g x1 x2 hI hm
      have h := h4 g x1 x2 hI
      clear hI
      have J32 : ∀ (x1_32 : Int32) (x2_32 : Int32) (y0_32 : Int32) (g32 : St), jX8_mostHidden_32 P a (fun g' z0 z1 => I4 g' z0 z1 ∧ μ4 g' z0 z1 < μ4 g x1 x2) K x1_32 x2_32 y0_32 g32 → V p l e rmX8_mostHidden s m args below meth c 3 G (frA P sz) (MQ below (QcI G P sz K) args s 0 0 (frA P sz)) 0 0 P [(0, .ref a), (1, .int x1_32), (2, .int x2_32)] [.int y0_32] 32 g32 := by
        intro x1_32 x2_32 y0_32 g32  h
        unfold jX8_mostHidden_32 at h
        refine v_istore_n o (lv' := [(1, .int y0_32), (0, .ref a), (2, .int x2_32)]) dX8_mostHidden_32 rfl (by decide) rfl ?_
        obtain ⟨x2_33, ex2_33⟩ : ∃ y : Int32, y = x2_32 + 1 := ⟨_, rfl⟩
        replace h := h x2_33 ex2_33
        refine v_iinc o (v := x2_33) (lv' := [(2, .int x2_33), (1, .int y0_32), (0, .ref a)]) 2 dX8_mostHidden_33 rfl (by rw [ex2_33]; rfl) (by decide) rfl ?_
        refine v_goto o (tgt := 4) dX8_mostHidden_36 (by decide) ?_
        refine v_sub [2, 1, 0] (lv2 := [(0, .ref a), (1, .int y0_32), (2, .int x2_33)]) rfl ?_
        exact ih g32 y0_32 x2_33  h.1 (by have := h.2; omega)
      unfold bX8_mostHidden_4 at h
      refine v_iload_n o 2 dX8_mostHidden_4 rfl ?_
      refine v_aload_n o 0 dX8_mostHidden_5 rfl ?_
      refine v_gfI o lkX8_55 (by decide) (wfModel_o ha) dX8_mostHidden_6 ?_
      refine v_icmp_ge o (tgt := 39) dX8_mostHidden_9 (by decide) (fun c9 => ?_) (fun c9 => ?_)
      · replace h := h.1 c9
        refine v_iload_n o 1 dX8_mostHidden_39 rfl ?_
        exact v_iret o rfl hr dX8_mostHidden_40 h
      · replace h := h.2 c9
        refine v_aload_n o 0 dX8_mostHidden_12 rfl ?_
        refine v_gfR o lkX8_28 (by decide) (wfModel_o ha) (wfModel_r12 ha) dX8_mostHidden_13 ?_
        refine v_iload_n o 2 dX8_mostHidden_16 rfl ?_
        refine v_iald o (wfModel_t12 ha) (wfModel_n12 ha) h.1 dX8_mostHidden_17 ?_
        replace h := h.2
        refine v_aload_n o 0 dX8_mostHidden_18 rfl ?_
        refine v_gfR o lkX8_28 (by decide) (wfModel_o ha) (wfModel_r12 ha) dX8_mostHidden_19 ?_
        refine v_iload_n o 1 dX8_mostHidden_22 rfl ?_
        refine v_iald o (wfModel_t12 ha) (wfModel_n12 ha) h.1 dX8_mostHidden_23 ?_
        replace h := h.2
        refine v_icmp_le o (tgt := 31) dX8_mostHidden_24 (by decide) (fun c24 => ?_) (fun c24 => ?_)
        · replace h := h.1 c24
          refine v_iload_n o 1 dX8_mostHidden_31 rfl ?_
          refine v_sub [0, 1, 2] (lv2 := [(0, .ref a), (1, .int x1), (2, .int x2)]) rfl ?_
          exact J32 x1 x2 x1 g  h
        · replace h := h.2 c24
          refine v_iload_n o 2 dX8_mostHidden_27 rfl ?_
          refine v_goto o (tgt := 32) dX8_mostHidden_28 (by decide) ?_
          refine v_sub [0, 1, 2] (lv2 := [(0, .ref a), (1, .int x1), (2, .int x2)]) rfl ?_
          exact J32 x1 x2 x2 g  h
  unfold vX8_mostHidden at h
  refine v_iconst o (v := 0) dX8_mostHidden_0 (by decide) ?_
  refine v_istore_n o (lv' := [(1, .int 0), (0, .ref a)]) dX8_mostHidden_1 rfl (by decide) rfl ?_
  refine v_iconst o (v := 1) dX8_mostHidden_2 (by decide) ?_
  refine v_istore_n o (lv' := [(2, .int 1), (1, .int 0), (0, .ref a)]) dX8_mostHidden_3 rfl (by decide) rfl ?_
  refine v_sub [2, 1, 0] (lv2 := [(0, .ref a), (1, .int 0), (2, .int 1)]) rfl ?_
  exact (main (μ4 f 0 1 + 1)) f 0 1  h (Nat.lt_succ_self _)
def WX8_mostHidden (P : Sk) (f : St) (a : Nat) (K : Int32 → St → Prop) : Prop := ∃ (I4 : St → Int32 → Int32 → Prop) (μ4 : St → Int32 → Int32 → Nat), (vX8_mostHidden P f a I4 K) ∧ (∀ (g : St) (x1 : Int32) (x2 : Int32) , I4 g x1 x2 → bX8_mostHidden_4 P a (fun g' z0 z1 => I4 g' z0 z1 ∧ μ4 g' z0 z1 < μ4 g x1 x2) K g x1 x2)
def kX8_mostHidden (P : Sk) (f : St) (a : Nat) (K : Int32 → St → Prop) : Prop := ∃ y : Lf, Wok y.1 y.2 ∧ f a 10 = nI y.1 ∧ WkM f a y.2 y.2.length ∧ K (nI (mhF (tU y.2 y.2.length) y.1)) f
theorem wX8_mostHidden (P : Sk) (f : St) (a : Nat) (ha : IsModel P a) (K : Int32 → St → Prop) (h : kX8_mostHidden P f a K) : WX8_mostHidden P f a K := by
  obtain ⟨y, ho, hn, hW, hK⟩ := h
  have h7 := ho.2.1
  have h2 := ho.1
  have h24 := ho.2.2.1
  refine ⟨fun g x1 x2 => g = f ∧ ∃ k, x2 = nI k ∧ 1 ≤ k ∧ k ≤ y.1 ∧ x1 = nI (mhF (tU y.2 y.2.length) k), fun g x1 x2 => y.1 - x2.toNatClampNeg, ?_, ?_⟩
  · unfold vX8_mostHidden
    refine ⟨rfl, 1, rfl, by decide, by omega, ?_⟩
    simp [mhF]
    rfl
  · rintro g x1 x2 ⟨rfl, k, rfl, h1, hk, rfl⟩
    unfold bX8_mostHidden_4 jX8_mostHidden_32
    rw [hn, nI_leI (by omega) (by omega)]
    refine ⟨fun q => ?_, fun q => ?_⟩
    · rw [show k = y.1 by omega]
      exact hK
    · have hm := mhF_lt (tU y.2 y.2.length) k (by omega)
      have t1 := tU_le y.2 y.2.length k
      have t2 := tU_le y.2 y.2.length (mhF (tU y.2 y.2.length) k)
      rw [nI_clamp (by omega), nI_clamp (by omega), (hW k (by omega)).2.1, (hW _ (by omega)).2.1, nI_leI (by omega) (by omega), nI_1]
      refine ⟨vp_nI (by omega) (by decide), vp_nI (by omega) (by decide), fun c z ez => ⟨⟨rfl, k + 1, ez, by omega, by omega, ?_⟩, mu_up ez (by omega) (by omega)⟩, fun c z ez => ⟨⟨rfl, k + 1, ez, by omega, by omega, ?_⟩, mu_up ez (by omega) (by omega)⟩⟩
      · rw [mhF, if_neg (by omega)]
      · rw [mhF, if_pos (by omega)]

theorem metX8_mostHidden (l : Launch) (G : Gl) (P : Sk) (f : St) (sz : Nat) (a : Nat) (ha : IsModel P a) (K : Int32 → St → Prop) (h : kX8_mostHidden P f a K) : Met l yX8_mostHidden (wU yX8_mostHidden cX8_mostHidden 3 (some .int)) rmX8_mostHidden (PcW G P f sz [.ref a]) (QcI G P sz K) 0 0 (frA P sz) := by
  obtain ⟨I4, μ4, qh, qh4⟩ := wX8_mostHidden P f a ha K h
  exact mX8_mostHidden l G P f sz a ha K I4 μ4 qh qh4

def vX8_looseLength (P : Sk) (f : St) (a : Nat) (p1 : Int32) (K : Int32 → St → Prop) : Prop :=
  kX8_takes P f a p1 (fun g2 => kX8_loosens P g2 a (fun g6 => K (g6 a 9) g6))
set_option maxRecDepth 20000 in
set_option maxHeartbeats 4000000 in
theorem mX8_looseLength (l : Launch) (G : Gl) (P : Sk) (f : St) (sz : Nat) (a : Nat) (ha : IsModel P a) (p1 : Int32) (K : Int32 → St → Prop) (h : vX8_looseLength P f a p1 K)  :
  Met l yX8_looseLength (wU yX8_looseLength cX8_looseLength 2 (some .int)) rmX8_looseLength (PcW G P f sz [.ref a, .int p1]) (QcI G P sz K) 0 0 (frA P sz) := by
  refine v_met (own := RX8) [.ref a, .int p1] (by decide +kernel) rfl (Nat.le_of_ble_eq_true rfl) (fun p e s m args below meth c hsz o hr hnm => ?_)
  refine v_lv (lv2 := [(0, .ref a), (1, .int p1)]) rfl ?_
  unfold vX8_looseLength at h
  refine v_aload_n o 0 dX8_looseLength_0 rfl ?_
  refine v_iload_n o 1 dX8_looseLength_1 rfl ?_
  refine v_cVv o [.int p1] [] (fun sz => metX8_takes l G P f sz a ha p1 _ h) (cwX8_107 o.1.2.2.2.2 (by decide)) ⟨_, _, rfl⟩ (by decide) (wfModel_o ha) rfl (Nat.le_of_ble_eq_true rfl) ⟨Nat.le_of_ble_eq_true rfl, Nat.le_of_ble_eq_true rfl⟩ dX8_looseLength_2 rfl (fun g2 h => ?_)
  refine v_aload_n o 0 dX8_looseLength_5 rfl ?_
  refine v_cVv o [] [] (fun sz => metX8_loosens l G P g2 sz a ha _ h) (cwX8_101 o.1.2.2.2.2 (by decide)) ⟨_, _, rfl⟩ (by decide) (wfModel_o ha) rfl (Nat.le_of_ble_eq_true rfl) ⟨Nat.le_of_ble_eq_true rfl, Nat.le_of_ble_eq_true rfl⟩ dX8_looseLength_6 rfl (fun g6 h => ?_)
  refine v_aload_n o 0 dX8_looseLength_9 rfl ?_
  refine v_gfI o lkX8_58 (by decide) (wfModel_o ha) dX8_looseLength_10 ?_
  exact v_iret o rfl hr dX8_looseLength_13 h
abbrev kX8_looseLength := @vX8_looseLength
abbrev metX8_looseLength := @mX8_looseLength
theorem u8_looseLength {P : Sk} {f : St} {a : Nat} {p : Int32} {bd : Bd} {K : Int32 → St → Prop} (hS : StM f (a + 1) 0 bd) (hb : Bok bd) (hp : hasB bd p) (hK : ∀ g, Sc9 f g a → MW g a (NF (lfP bd p).2) → K (nI (NF (lfP bd p).2).length) g) : kX8_looseLength P f a p K := by
  show vX8_looseLength P f a p K
  unfold vX8_looseLength
  refine u8_take hS hb hp (fun g1 r1 m1 n1 => ?_)
  refine ⟨_, m1, cok_of (hb.has hp).1, fun g r m => ?_⟩
  change K (g a 9) g
  rw [m.1]
  exact hK g ((sc_w r1 (fun j h => h)).tr (sc_w r (fun j h => Or.inl h))) m

def vX8_shortLength (P : Sk) (f : St) (a : Nat) (p1 : Int32) (K : Int32 → St → Prop) : Prop :=
  kX8_takes P f a p1 (fun g2 => kX8_shortens P g2 a (fun g6 => K (g6 a 9) g6))
set_option maxRecDepth 20000 in
set_option maxHeartbeats 4000000 in
theorem mX8_shortLength (l : Launch) (G : Gl) (P : Sk) (f : St) (sz : Nat) (a : Nat) (ha : IsModel P a) (p1 : Int32) (K : Int32 → St → Prop) (h : vX8_shortLength P f a p1 K)  :
  Met l yX8_shortLength (wU yX8_shortLength cX8_shortLength 2 (some .int)) rmX8_shortLength (PcW G P f sz [.ref a, .int p1]) (QcI G P sz K) 0 0 (frA P sz) := by
  refine v_met (own := RX8) [.ref a, .int p1] (by decide +kernel) rfl (Nat.le_of_ble_eq_true rfl) (fun p e s m args below meth c hsz o hr hnm => ?_)
  refine v_lv (lv2 := [(0, .ref a), (1, .int p1)]) rfl ?_
  unfold vX8_shortLength at h
  refine v_aload_n o 0 dX8_shortLength_0 rfl ?_
  refine v_iload_n o 1 dX8_shortLength_1 rfl ?_
  refine v_cVv o [.int p1] [] (fun sz => metX8_takes l G P f sz a ha p1 _ h) (cwX8_107 o.1.2.2.2.2 (by decide)) ⟨_, _, rfl⟩ (by decide) (wfModel_o ha) rfl (Nat.le_of_ble_eq_true rfl) ⟨Nat.le_of_ble_eq_true rfl, Nat.le_of_ble_eq_true rfl⟩ dX8_shortLength_2 rfl (fun g2 h => ?_)
  refine v_aload_n o 0 dX8_shortLength_5 rfl ?_
  refine v_cVv o [] [] (fun sz => metX8_shortens l G P g2 sz a ha _ h) (cwX8_205 o.1.2.2.2.2 (by decide)) ⟨_, _, rfl⟩ (by decide) (wfModel_o ha) rfl (Nat.le_of_ble_eq_true rfl) ⟨Nat.le_of_ble_eq_true rfl, Nat.le_of_ble_eq_true rfl⟩ dX8_shortLength_6 rfl (fun g6 h => ?_)
  refine v_aload_n o 0 dX8_shortLength_9 rfl ?_
  refine v_gfI o lkX8_58 (by decide) (wfModel_o ha) dX8_shortLength_10 ?_
  exact v_iret o rfl hr dX8_shortLength_13 h
abbrev kX8_shortLength := @vX8_shortLength
abbrev metX8_shortLength := @mX8_shortLength
theorem u8_shortLength {P : Sk} {f : St} {a : Nat} {p : Int32} {bd : Bd} {K : Int32 → St → Prop} (hS : StM f (a + 1) 0 bd) (hb : Bok bd) (hp : hasB bd p) (hK : LkM f a (nI (SF (lfP bd p).2).length) K) : kX8_shortLength P f a p K := by
  show vX8_shortLength P f a p K
  unfold vX8_shortLength
  refine u8_take hS hb hp (fun g1 r1 m1 n1 => ?_)
  refine ⟨_, m1, cok_of (hb.has hp).1, fun g r m => ?_⟩
  change K (g a 9) g
  rw [m.1]
  exact hK g ((sc_w r1 (fun j h => h)).tr (sc_w r (fun j h => Or.inl h)))

def vX8_areAlike (P : Sk) (f : St) (a : Nat) (p1 : Int32) (p2 : Int32) (K : Int32 → St → Prop) : Prop :=
  kX8_takes P f a p1 (fun g2 => kX8_loosens P g2 a (fun g6 => kX8_keepsOther P g6 a (fun g10 => kX8_takes P g10 a p2 (fun g15 => kX8_loosens P g15 a (fun g19 => kX8_of P g19 a p1 0 (fun r25 g25 => kX8_of P g25 a p2 0 (fun r31 g31 => (¬ r25 = r31 → K 0 g31) ∧ (r25 = r31 → kX8_isLikeOther P g31 a (fun r38 g38 => (r38 = 0 → K 0 g38) ∧ (¬ r38 = 0 → K 1 g38))))))))))
set_option maxRecDepth 20000 in
set_option maxHeartbeats 4000000 in
theorem mX8_areAlike (l : Launch) (G : Gl) (P : Sk) (f : St) (sz : Nat) (a : Nat) (ha : IsModel P a) (p1 : Int32) (p2 : Int32) (K : Int32 → St → Prop) (h : vX8_areAlike P f a p1 p2 K)  :
  Met l yX8_areAlike (wU yX8_areAlike cX8_areAlike 3 (some .boolean)) rmX8_areAlike (PcW G P f sz [.ref a, .int p1, .int p2]) (QcI G P sz K) 0 0 (frA P sz) := by
  refine v_met (own := RX8) [.ref a, .int p1, .int p2] (by decide +kernel) rfl (Nat.le_of_ble_eq_true rfl) (fun p e s m args below meth c hsz o hr hnm => ?_)
  refine v_lv (lv2 := [(0, .ref a), (1, .int p1), (2, .int p2)]) rfl ?_
  unfold vX8_areAlike at h
  refine v_aload_n o 0 dX8_areAlike_0 rfl ?_
  refine v_iload_n o 1 dX8_areAlike_1 rfl ?_
  refine v_cVv o [.int p1] [] (fun sz => metX8_takes l G P f sz a ha p1 _ h) (cwX8_107 o.1.2.2.2.2 (by decide)) ⟨_, _, rfl⟩ (by decide) (wfModel_o ha) rfl (Nat.le_of_ble_eq_true rfl) ⟨Nat.le_of_ble_eq_true rfl, Nat.le_of_ble_eq_true rfl⟩ dX8_areAlike_2 rfl (fun g2 h => ?_)
  refine v_aload_n o 0 dX8_areAlike_5 rfl ?_
  refine v_cVv o [] [] (fun sz => metX8_loosens l G P g2 sz a ha _ h) (cwX8_101 o.1.2.2.2.2 (by decide)) ⟨_, _, rfl⟩ (by decide) (wfModel_o ha) rfl (Nat.le_of_ble_eq_true rfl) ⟨Nat.le_of_ble_eq_true rfl, Nat.le_of_ble_eq_true rfl⟩ dX8_areAlike_6 rfl (fun g6 h => ?_)
  refine v_aload_n o 0 dX8_areAlike_9 rfl ?_
  refine v_cVv o [] [] (fun sz => metX8_keepsOther l G P g6 sz a ha _ h) (cwX8_195 o.1.2.2.2.2 (by decide)) ⟨_, _, rfl⟩ (by decide) (wfModel_o ha) rfl (Nat.le_of_ble_eq_true rfl) ⟨Nat.le_of_ble_eq_true rfl, Nat.le_of_ble_eq_true rfl⟩ dX8_areAlike_10 rfl (fun g10 h => ?_)
  refine v_aload_n o 0 dX8_areAlike_13 rfl ?_
  refine v_iload_n o 2 dX8_areAlike_14 rfl ?_
  refine v_cVv o [.int p2] [] (fun sz => metX8_takes l G P g10 sz a ha p2 _ h) (cwX8_107 o.1.2.2.2.2 (by decide)) ⟨_, _, rfl⟩ (by decide) (wfModel_o ha) rfl (Nat.le_of_ble_eq_true rfl) ⟨Nat.le_of_ble_eq_true rfl, Nat.le_of_ble_eq_true rfl⟩ dX8_areAlike_15 rfl (fun g15 h => ?_)
  refine v_aload_n o 0 dX8_areAlike_18 rfl ?_
  refine v_cVv o [] [] (fun sz => metX8_loosens l G P g15 sz a ha _ h) (cwX8_101 o.1.2.2.2.2 (by decide)) ⟨_, _, rfl⟩ (by decide) (wfModel_o ha) rfl (Nat.le_of_ble_eq_true rfl) ⟨Nat.le_of_ble_eq_true rfl, Nat.le_of_ble_eq_true rfl⟩ dX8_areAlike_19 rfl (fun g19 h => ?_)
  refine v_aload_n o 0 dX8_areAlike_22 rfl ?_
  refine v_iload_n o 1 dX8_areAlike_23 rfl ?_
  refine v_iconst o (v := 0) dX8_areAlike_24 (by decide) ?_
  refine v_cVi o [.int p1, .int 0] [] (fun sz => metX8_of l G P g19 sz a ha p1 0 _ h) (cwX8_51 o.1.2.2.2.2 (by decide)) ⟨_, _, rfl⟩ (by decide) (wfModel_o ha) rfl (Nat.le_of_ble_eq_true rfl) ⟨Nat.le_of_ble_eq_true rfl, Nat.le_of_ble_eq_true rfl⟩ dX8_areAlike_25 rfl (fun r25 g25 h => ?_)
  refine v_aload_n o 0 dX8_areAlike_28 rfl ?_
  refine v_iload_n o 2 dX8_areAlike_29 rfl ?_
  refine v_iconst o (v := 0) dX8_areAlike_30 (by decide) ?_
  refine v_cVi o [.int p2, .int 0] [.int r25] (fun sz => metX8_of l G P g25 sz a ha p2 0 _ h) (cwX8_51 o.1.2.2.2.2 (by decide)) ⟨_, _, rfl⟩ (by decide) (wfModel_o ha) rfl (Nat.le_of_ble_eq_true rfl) ⟨Nat.le_of_ble_eq_true rfl, Nat.le_of_ble_eq_true rfl⟩ dX8_areAlike_31 rfl (fun r31 g31 h => ?_)
  refine v_icmp_ne o (tgt := 48) dX8_areAlike_34 (by decide) (fun c34 => ?_) (fun c34 => ?_)
  · replace h := h.1 c34
    refine v_iconst o (v := 0) dX8_areAlike_48 (by decide) ?_
    exact v_zret o rfl hr bz0.1 dX8_areAlike_49 h
  · replace h := h.2 c34
    refine v_aload_n o 0 dX8_areAlike_37 rfl ?_
    refine v_cVi o [] [] (fun sz => metX8_isLikeOther l G P g31 sz a ha _ h) (cwX8_198 o.1.2.2.2.2 (by decide)) ⟨_, _, rfl⟩ (by decide) (wfModel_o ha) rfl (Nat.le_of_ble_eq_true rfl) ⟨Nat.le_of_ble_eq_true rfl, Nat.le_of_ble_eq_true rfl⟩ dX8_areAlike_38 rfl (fun r38 g38 h => ?_)
    refine v_if_eq o (tgt := 48) dX8_areAlike_41 (by decide) (fun c41 => ?_) (fun c41 => ?_)
    · replace h := h.1 c41
      refine v_iconst o (v := 0) dX8_areAlike_48 (by decide) ?_
      exact v_zret o rfl hr bz0.1 dX8_areAlike_49 h
    · replace h := h.2 c41
      refine v_iconst o (v := 1) dX8_areAlike_44 (by decide) ?_
      refine v_goto o (tgt := 49) dX8_areAlike_45 (by decide) ?_
      exact v_zret o rfl hr bz1.1 dX8_areAlike_49 h
abbrev kX8_areAlike := @vX8_areAlike
abbrev metX8_areAlike := @mX8_areAlike
theorem u8_areAlike {P : Sk} {f : St} {a : Nat} {p q : Int32} {bd : Bd} {K : Int32 → St → Prop} (hS : StM f (a + 1) 0 bd) (hb : Bok bd) (hp : hasB bd p) (hq : hasB bd q) (hK1 : sm (lfP bd p) (lfP bd q) → LkM f a 1 K) (hK0 : ¬ sm (lfP bd p) (lfP bd q) → LkM f a 0 K) : kX8_areAlike P f a p q K := by
  show vX8_areAlike P f a p q K
  unfold vX8_areAlike
  have ho := (hb.has hp).1
  have hq1 := (hb.has hq).1
  have h7 := ho.2.1
  have k7 := hq1.2.1
  refine u8_take hS hb hp (fun g1 r1 m1 n1 => ?_)
  refine ⟨_, m1, cok_of ho, fun g2 r2 m2 => ?_⟩
  refine ⟨_, m2, cok_of ho.NF, fun g3 r3 o3 => ?_⟩
  have s3 : Sc9 f g3 a := (sc_w r1 (fun j h => h)).tr ((sc_w r2 (fun j h => Or.inl h)).tr (r3.mono (fun i hi => by omega) (fun j hj => by omega)))
  refine u8_take (hS.sc9 s3) hb hq (fun g4 r4 m4 n4 => ?_)
  refine ⟨_, m4, cok_of hq1, fun g5 r5 m5 => ?_⟩
  have s5 : Sc9 f g5 a := s3.tr ((sc_w r4 (fun j h => h)).tr (sc_w r5 (fun j h => Or.inl h)))
  have o5 : MO g5 a (NF (lfP bd p).2) := (o3.keep r4 (fun i hi => by omega) (by omega)).keep r5 (fun i hi => by omega) (by omega)
  have S5 := hS.sc9 s5
  refine u8_ofP (w := 0) hb hp (by decide) (S5.has hp).1 ?_
  refine u8_ofP (w := 0) hb hq (by decide) (S5.has hq).1 ?_
  change _ ∧ _
  rw [nI_eq (by omega) (by omega)]
  refine ⟨fun c => hK0 (fun h => c h.1) g5 s5, fun c => ?_⟩
  refine ⟨_, _, m5, cok_of hq1.NF, o5, cok_of ho.NF, fun e => ⟨fun q => absurd q (by decide), fun _ => hK1 ⟨c, e.symm⟩ g5 s5⟩, fun e => ⟨fun _ => hK0 (fun h => e h.2.symm) g5 s5, fun q => absurd rfl q⟩⟩

def jX8_firstAlike_24 (P : Sk) (a : Nat) (p1 : Int32) (L6 : St → Int32 → Int32 → Prop) (K : Int32 → St → Prop) (x2 : Int32) (x3 : Int32) (y0 : Int32) (f : St) : Prop :=
  ∀ x3_25 : Int32, x3_25 = x3 + (-1) → L6 f y0 x3_25
def bX8_firstAlike_6 (P : Sk) (a : Nat) (p1 : Int32) (L6 : St → Int32 → Int32 → Prop) (K : Int32 → St → Prop) (f : St) (x2 : Int32) (x3 : Int32) : Prop :=
  (x3 < 0 → K x2 f) ∧ (¬ x3 < 0 → kX8_areAlike P f a x3 p1 (fun r13 g13 => (r13 = 0 → jX8_firstAlike_24 P a p1 L6 K x2 x3 x2 g13) ∧ (¬ r13 = 0 → jX8_firstAlike_24 P a p1 L6 K x2 x3 x3 g13)))
def vX8_firstAlike (P : Sk) (f : St) (a : Nat) (p1 : Int32) (L6 : St → Int32 → Int32 → Prop) (K : Int32 → St → Prop) : Prop :=
  ∀ x3_5 : Int32, x3_5 = p1 - 1 → L6 f p1 x3_5
set_option maxRecDepth 20000 in
set_option maxHeartbeats 4000000 in
theorem mX8_firstAlike (l : Launch) (G : Gl) (P : Sk) (f : St) (sz : Nat) (a : Nat) (ha : IsModel P a) (p1 : Int32) (K : Int32 → St → Prop) (I6 : St → Int32 → Int32 → Prop) (μ6 : St → Int32 → Int32 → Nat) 
  (h : vX8_firstAlike P f a p1 I6 K)
  (h6 : ∀ (g : St) (x2 : Int32) (x3 : Int32) , I6 g x2 x3 → bX8_firstAlike_6 P a p1 (fun g' z0 z1 => I6 g' z0 z1 ∧ μ6 g' z0 z1 < μ6 g x2 x3) K g x2 x3) :
  Met l yX8_firstAlike (wU yX8_firstAlike cX8_firstAlike 4 (some .int)) rmX8_firstAlike (PcW G P f sz [.ref a, .int p1]) (QcI G P sz K) 0 0 (frA P sz) := by
  refine v_met (own := RX8) [.ref a, .int p1] (by decide +kernel) rfl (Nat.le_of_ble_eq_true rfl) (fun p e s m args below meth c hsz o hr hnm => ?_)
  refine v_lv (lv2 := [(0, .ref a), (1, .int p1)]) rfl ?_
  have main : ∀ n : Nat, (∀ (g : St) (x2 : Int32) (x3 : Int32) , I6 g x2 x3 → μ6 g x2 x3 < n → V p l e rmX8_firstAlike s m args below meth c 4 G (frA P sz) (MQ below (QcI G P sz K) args s 0 0 (frA P sz)) 0 0 P [(0, .ref a), (1, .int p1), (2, .int x2), (3, .int x3)] [] 6 g) := by
    intro n
    induction n with
    | zero => exact fun g x2 x3 hI hm => absurd hm (Nat.not_lt_zero _)
    | succ n ih =>
      intro g x2 x3 hI hm
      have h := h6 g x2 x3 hI
      clear hI
      have J24 : ∀ (x2_24 : Int32) (x3_24 : Int32) (y0_24 : Int32) (g24 : St), jX8_firstAlike_24 P a p1 (fun g' z0 z1 => I6 g' z0 z1 ∧ μ6 g' z0 z1 < μ6 g x2 x3) K x2_24 x3_24 y0_24 g24 → V p l e rmX8_firstAlike s m args below meth c 4 G (frA P sz) (MQ below (QcI G P sz K) args s 0 0 (frA P sz)) 0 0 P [(0, .ref a), (1, .int p1), (2, .int x2_24), (3, .int x3_24)] [.int y0_24] 24 g24 := by
        intro x2_24 x3_24 y0_24 g24  h
        unfold jX8_firstAlike_24 at h
        refine v_istore_n o (lv' := [(2, .int y0_24), (0, .ref a), (1, .int p1), (3, .int x3_24)]) dX8_firstAlike_24 rfl (by decide) rfl ?_
        obtain ⟨x3_25, ex3_25⟩ : ∃ y : Int32, y = x3_24 + (-1) := ⟨_, rfl⟩
        replace h := h x3_25 ex3_25
        refine v_iinc o (v := x3_25) (lv' := [(3, .int x3_25), (2, .int y0_24), (0, .ref a), (1, .int p1)]) 3 dX8_firstAlike_25 rfl (by rw [ex3_25]; rfl) (by decide) rfl ?_
        refine v_goto o (tgt := 6) dX8_firstAlike_28 (by decide) ?_
        refine v_sub [2, 3, 1, 0] (lv2 := [(0, .ref a), (1, .int p1), (2, .int y0_24), (3, .int x3_25)]) rfl ?_
        exact ih g24 y0_24 x3_25  h.1 (by have := h.2; omega)
      unfold bX8_firstAlike_6 at h
      refine v_iload_n o 3 dX8_firstAlike_6 rfl ?_
      refine v_if_lt o (tgt := 31) dX8_firstAlike_7 (by decide) (fun c7 => ?_) (fun c7 => ?_)
      · replace h := h.1 c7
        refine v_iload_n o 2 dX8_firstAlike_31 rfl ?_
        exact v_iret o rfl hr dX8_firstAlike_32 h
      · replace h := h.2 c7
        refine v_aload_n o 0 dX8_firstAlike_10 rfl ?_
        refine v_iload_n o 3 dX8_firstAlike_11 rfl ?_
        refine v_iload_n o 1 dX8_firstAlike_12 rfl ?_
        refine v_cVi o [.int x3, .int p1] [] (fun sz => metX8_areAlike l G P g sz a ha x3 p1 _ h) (cwX8_201 o.1.2.2.2.2 (by decide)) ⟨_, _, rfl⟩ (by decide) (wfModel_o ha) rfl (Nat.le_of_ble_eq_true rfl) ⟨Nat.le_of_ble_eq_true rfl, Nat.le_of_ble_eq_true rfl⟩ dX8_firstAlike_13 rfl (fun r13 g13 h => ?_)
        refine v_if_eq o (tgt := 23) dX8_firstAlike_16 (by decide) (fun c16 => ?_) (fun c16 => ?_)
        · replace h := h.1 c16
          refine v_iload_n o 2 dX8_firstAlike_23 rfl ?_
          refine v_sub [0, 1, 2, 3] (lv2 := [(0, .ref a), (1, .int p1), (2, .int x2), (3, .int x3)]) rfl ?_
          exact J24 x2 x3 x2 g13  h
        · replace h := h.2 c16
          refine v_iload_n o 3 dX8_firstAlike_19 rfl ?_
          refine v_goto o (tgt := 24) dX8_firstAlike_20 (by decide) ?_
          refine v_sub [0, 1, 2, 3] (lv2 := [(0, .ref a), (1, .int p1), (2, .int x2), (3, .int x3)]) rfl ?_
          exact J24 x2 x3 x3 g13  h
  unfold vX8_firstAlike at h
  refine v_iload_n o 1 dX8_firstAlike_0 rfl ?_
  refine v_istore_n o (lv' := [(2, .int p1), (0, .ref a), (1, .int p1)]) dX8_firstAlike_1 rfl (by decide) rfl ?_
  refine v_iload_n o 2 dX8_firstAlike_2 rfl ?_
  refine v_iconst o (v := 1) dX8_firstAlike_3 (by decide) ?_
  refine v_isub o dX8_firstAlike_4 ?_
  refine v_topi (fun x3_5 ex3_5 => ?_)
  replace h := h x3_5 ex3_5
  refine v_istore_n o (lv' := [(3, .int x3_5), (2, .int p1), (0, .ref a), (1, .int p1)]) dX8_firstAlike_5 rfl (by decide) rfl ?_
  refine v_sub [2, 3, 1, 0] (lv2 := [(0, .ref a), (1, .int p1), (2, .int p1), (3, .int x3_5)]) rfl ?_
  exact (main (μ6 f p1 x3_5 + 1)) f p1 x3_5  h (Nat.lt_succ_self _)
def WX8_firstAlike (P : Sk) (f : St) (a : Nat) (p1 : Int32) (K : Int32 → St → Prop) : Prop := ∃ (I6 : St → Int32 → Int32 → Prop) (μ6 : St → Int32 → Int32 → Nat), (vX8_firstAlike P f a p1 I6 K) ∧ (∀ (g : St) (x2 : Int32) (x3 : Int32) , I6 g x2 x3 → bX8_firstAlike_6 P a p1 (fun g' z0 z1 => I6 g' z0 z1 ∧ μ6 g' z0 z1 < μ6 g x2 x3) K g x2 x3)
def kX8_firstAlike (P : Sk) (f : St) (a : Nat) (p1 : Int32) (K : Int32 → St → Prop) : Prop := ∃ bd i, p1 = nI i ∧ i < bd.1.length ∧ StM f (a + 1) 0 bd ∧ Bok bd ∧ LkM f a (nI (fa bd.1 i)) K
theorem wX8_firstAlike (P : Sk) (f : St) (a : Nat) (ha : IsModel P a) (p1 : Int32) (K : Int32 → St → Prop) (h : kX8_firstAlike P f a p1 K) : WX8_firstAlike P f a p1 K := by
  obtain ⟨bd, i, rfl, hi, hS, hb, hK⟩ := h
  have h6 := hb.1
  refine ⟨fun g x2 x3 => Sc9 f g a ∧ ∃ e, x3 = nI e - 1 ∧ e ≤ i ∧ x2 = nI (faF bd.1 i (i - e) e), fun g x2 x3 => (x3 + 1).toNatClampNeg, ?_, ?_⟩
  · unfold vX8_firstAlike
    intro x ex
    refine ⟨Sc9.refl _ _, i, ex, Nat.le_refl _, ?_⟩
    rw [Nat.sub_self]
    rfl
  · rintro g x2 x3 ⟨s, e, rfl, he, rfl⟩
    unfold bX8_firstAlike_6 jX8_firstAlike_24
    match e, he with
    | 0, he =>
      refine ⟨fun _ => hK g s, fun q => absurd (show nI 0 - 1 < 0 by decide) q⟩
    | k + 1, he =>
      have hkk : nI (k + 1) - 1 = nI k := nI_m1 k
      have hp := hasB_n (bd := bd) (i := k) (by omega) hb
      have hq := hasB_n (bd := bd) hi hb
      rw [hkk]
      refine ⟨fun q => absurd q (nI_nn (by omega)), fun _ => ?_⟩
      have e1 : faF bd.1 i (i - k) k = cif (sm (lfAt bd.1 k) (lfAt bd.1 i)) k (faF bd.1 i (i - (k + 1)) (k + 1)) := by
        rw [show i - k = (i - (k + 1)) + 1 by omega]
        rfl
      have mu : ∀ y : Int32, y = nI k + -1 → (y + 1).toNatClampNeg < (nI k + 1).toNatClampNeg := by
        intro y ey
        rw [ey, nI_pm, Int32.sub_add_cancel, nI_1, nI_clamp (by omega), nI_clamp (by omega)]
        omega
      refine u8_areAlike (hS.sc9 s) hb hp.1 hq.1 (fun c g2 s2 => ⟨fun q => absurd q (by decide), fun _ y ey => ⟨⟨s.tr s2, k, by rw [ey, nI_pm], by omega, ?_⟩, mu y ey⟩⟩) (fun c g2 s2 => ⟨fun _ y ey => ⟨⟨s.tr s2, k, by rw [ey, nI_pm], by omega, ?_⟩, mu y ey⟩, fun q => absurd rfl q⟩)
      · rw [hp.2, hq.2] at c
        rw [e1, cif_pos c]
      · rw [hp.2, hq.2] at c
        rw [e1, cif_neg c]

theorem metX8_firstAlike (l : Launch) (G : Gl) (P : Sk) (f : St) (sz : Nat) (a : Nat) (ha : IsModel P a) (p1 : Int32) (K : Int32 → St → Prop) (h : kX8_firstAlike P f a p1 K) : Met l yX8_firstAlike (wU yX8_firstAlike cX8_firstAlike 4 (some .int)) rmX8_firstAlike (PcW G P f sz [.ref a, .int p1]) (QcI G P sz K) 0 0 (frA P sz) := by
  obtain ⟨I6, μ6, qh, qh6⟩ := wX8_firstAlike P f a ha p1 K h
  exact mX8_firstAlike l G P f sz a ha p1 K I6 μ6 qh qh6

