def vX3_init (P : Sk) (f : St) (sz : Nat) (a : Nat) (p1 : Int32) (K : Sk → St → Prop) : Prop :=
  (0 ≤ p1 → ((¬ p1 < 0 ∧ p1.toNatClampNeg * 4 ≤ 536870912) ∧ COk P P sz (0) ∧ (0 + 1 ≤ 1 ∧ 0 + p1.toNatClampNeg ≤ p1.toNatClampNeg)) ∧ (∀ P14 : Sk, P14 = pNew P (sz + 0) 9 (p1.toNatClampNeg) → ∀ g14 : St, g14 = va_up f (sz + 0) z0 → (Ob P14 a 3) ∧ (∀ P16 : Sk, P16 = pRef P14 a 0 (sz + 0) → (1 ≤ 1 ∧ 0 + p1.toNatClampNeg ≤ p1.toNatClampNeg) ∧ K P16 g14))) ∧ (¬ 0 ≤ p1 → ((¬ (0 : Int32) < 0 ∧ 0 * 4 ≤ 536870912) ∧ COk P P sz (0) ∧ (0 + 1 ≤ 1 ∧ 0 + 0 ≤ p1.toNatClampNeg)) ∧ (∀ P14 : Sk, P14 = pNew P (sz + 0) 9 (0) → ∀ g14 : St, g14 = va_up f (sz + 0) z0 → (Ob P14 a 3) ∧ (∀ P16 : Sk, P16 = pRef P14 a 0 (sz + 0) → (1 ≤ 1 ∧ 0 ≤ p1.toNatClampNeg) ∧ K P16 g14)))
abbrev rmC_X3_init (p1 : Int32) : Room := { frames := 1, cells := 1, slots := p1.toNatClampNeg, locals := 20 }
set_option maxRecDepth 20000 in
set_option maxHeartbeats 4000000 in
theorem mX3_init (l : Launch) (G : Gl) (P : Sk) (f : St) (sz : Nat) (a : Nat) (p1 : Int32) (K : Sk → St → Prop) (h : vX3_init P f sz a p1 K) : Met l yX3_init (wU yX3_init cX3_init 2 none) (rmC_X3_init p1) (PcC G P f sz [.ref a, .int p1]) (QcC G P sz K) (1) (p1.toNatClampNeg) (frA P sz) := by
  refine v_metc (own := RX3) [.ref a, .int p1] (by decide +kernel) rfl rfl (Nat.le_of_ble_eq_true rfl) (fun p e s m args below meth c hsz o hr hnm hO => ?_)
  refine v_lv (lv2 := [(0, .ref a), (1, .int p1)]) rfl ?_
  unfold vX3_init at h
  refine v_aload_n o 0 dX3_init_0 rfl ?_
  refine v_obj o (mU 61 (by decide +kernel) rfl) (mU 48 (by decide +kernel) rfl) (mU 49 (by decide +kernel) rfl) ⟨Nat.le_of_ble_eq_true rfl, Nat.le_of_ble_eq_true rfl⟩ dX3_init_1 ?_
  refine v_aload_n o 0 dX3_init_4 rfl ?_
  refine v_iload_n o 1 dX3_init_5 rfl ?_
  refine v_if_ge o (tgt := 13) dX3_init_6 (by decide) (fun c6 => ?_) (fun c6 => ?_)
  · replace h := h.1 c6
    refine v_iload_n o 1 dX3_init_13 rfl ?_
    refine v_newarr o hsz rfl h.1.2.1.1 h.1.2.1.2 (mU 66 (by decide +kernel) rfl) h.1.1.1 rfl h.1.1.2 h.1.2.2 dX3_init_14 ?_
    replace h := h.2
    generalize eP14 : pNew P (sz + 0) 9 (p1.toNatClampNeg) = P14
    replace h := h P14 eP14.symm
    generalize eg14 : va_up f (sz + 0) z0 = g14
    replace h := h g14 eg14.symm
    refine v_eqc (c2 := 1) (s2 := 0 + p1.toNatClampNeg) (by first | rfl | omega) (by first | rfl | omega) ?_
    refine v_pfR o lgX3_7 hnm h.1 dX3_init_16 ?_
    replace h := h.2
    generalize eP16 : pRef P14 a 0 (sz + 0) = P16
    replace h := h P16 eP16.symm
    refine v_widen (k := 1) (n := p1.toNatClampNeg) h.1.1 h.1.2 ?_
    exact v_vretC o rfl hr dX3_init_19 h.2
  · replace h := h.2 c6
    refine v_iconst o (v := 0) dX3_init_9 (by decide) ?_
    refine v_goto o (tgt := 14) dX3_init_10 (by decide) ?_
    refine v_newarr o hsz rfl h.1.2.1.1 h.1.2.1.2 (mU 66 (by decide +kernel) rfl) h.1.1.1 (by decide) h.1.1.2 h.1.2.2 dX3_init_14 ?_
    replace h := h.2
    generalize eP14 : pNew P (sz + 0) 9 (0) = P14
    replace h := h P14 eP14.symm
    generalize eg14 : va_up f (sz + 0) z0 = g14
    replace h := h g14 eg14.symm
    refine v_eqc (c2 := 1) (s2 := 0) (by first | rfl | omega) (by first | rfl | omega) ?_
    refine v_pfR o lgX3_7 hnm h.1 dX3_init_16 ?_
    replace h := h.2
    generalize eP16 : pRef P14 a 0 (sz + 0) = P16
    replace h := h P16 eP16.symm
    refine v_widen (k := 1) (n := p1.toNatClampNeg) h.1.1 h.1.2 ?_
    exact v_vretC o rfl hr dX3_init_19 h.2
abbrev kX3_init := @vX3_init
abbrev metX3_init := @mX3_init
theorem uc_X3 {P : Sk} {f : St} {a L : Nat} {p1 : Int32} {K : Sk → St → Prop} (ho : Ob P a 3) (h0 : ¬ p1 < 0) (hL : p1.toNatClampNeg = L) (hb : L * 4 ≤ 536870912) (hK : ∀ P2 f2, Gr P P2 f f2 a 2 → IsRow P2 a → sN P2 (a + 1) = L → K P2 f2) : kX3_init P f (a + 1) a p1 K := by
  show vX3_init P f (a + 1) a p1 K
  unfold vX3_init
  have hle : 0 ≤ p1 := by
    rw [Int32.le_iff_toInt_le]
    rw [Int32.lt_iff_toInt_lt] at h0
    omega
  refine ⟨fun _ => ?_, fun q => absurd hle q⟩
  rw [hL]
  have G0 := Gr.refl P f a
  refine ⟨⟨⟨h0, hb⟩, G0.cok (by decide), by decide, by omega⟩, fun Q e g d => ?_⟩
  subst e d
  have N1 := gw_new 9 L G0 (by decide) (q := a + 1 + 0) (by omega)
  refine ⟨N1.ob ho, fun Q2 e2 => ⟨⟨by decide, by omega⟩, ?_⟩⟩
  subst e2
  have G1 := gr_ref (t := a) (j := 0) (b := a + 1 + 0) N1 (Nat.le_refl a)
  refine hK _ _ G1 ⟨G1.ob ho, ?_, ?_⟩ ?_
  · rw [ref_at, if_pos rfl]
  · exact ob_sm (ob_new P (a + 1 + 0) 9 L) (sm_ref _ f a 0 (a + 1 + 0) (show a + 1 ≠ a by omega))
  · simp [pRef, pNew, va_up, sN]
def vX6_init (P : Sk) (f : St) (sz : Nat) (a : Nat) (K : Sk → St → Prop) : Prop :=
  (COk P P sz (0) ∧ (0 + 1 ≤ 2 ∧ 0 + 1 ≤ 25)) ∧ (∀ P5 : Sk, P5 = pNew P (sz + 0) 3 0 → ∀ g5 : St, g5 = va_up f (sz + 0) z0 → (COk P P5 sz (1) ∧ (1 + 1 ≤ 2 ∧ 1 + 24 ≤ 25)) ∧ (kX3_init P5 g5 (sz + 1) (sz + 0) 24 (fun P11 g11 => (Ob P11 a 6) ∧ (∀ P14 : Sk, P14 = pRef P11 a 0 (sz + 0) → (Ob P14 a 6) ∧ (∀ g19 : St, g19 = setf g11 a 1 2 → (Ob P14 a 6) ∧ (∀ g24 : St, g24 = setf g19 a 2 0 → (2 ≤ 2 ∧ 25 ≤ 25) ∧ K P14 g24))))))
abbrev rmC_X6_init : Room := { frames := 2, cells := 2, slots := 25, locals := 41 }
set_option maxRecDepth 20000 in
set_option maxHeartbeats 4000000 in
theorem mX6_init (l : Launch) (G : Gl) (P : Sk) (f : St) (sz : Nat) (a : Nat) (K : Sk → St → Prop) (h : vX6_init P f sz a K) : Met l yX6_init (wU yX6_init cX6_init 1 none) (rmC_X6_init) (PcC G P f sz [.ref a]) (QcC G P sz K) (2) (25) (frA P sz) := by
  refine v_metc (own := RX6) [.ref a] (by decide +kernel) rfl rfl (Nat.le_of_ble_eq_true rfl) (fun p e s m args below meth c hsz o hr hnm hO => ?_)
  refine v_lv (lv2 := [(0, .ref a)]) rfl ?_
  unfold vX6_init at h
  refine v_aload_n o 0 dX6_init_0 rfl ?_
  refine v_obj o (mU 92 (by decide +kernel) rfl) (mU 48 (by decide +kernel) rfl) (mU 49 (by decide +kernel) rfl) ⟨Nat.le_of_ble_eq_true rfl, Nat.le_of_ble_eq_true rfl⟩ dX6_init_1 ?_
  refine v_aload_n o 0 dX6_init_4 rfl ?_
  refine v_new o hsz rfl h.1.1.1 h.1.1.2 lnX6_9 h.1.2 dX6_init_5 ?_
  replace h := h.2
  generalize eP5 : pNew P (sz + 0) 3 0 = P5
  replace h := h P5 eP5.symm
  generalize eg5 : va_up f (sz + 0) z0 = g5
  replace h := h g5 eg5.symm
  refine v_eqc (c2 := 1) (s2 := 1) (by first | rfl | omega) (by first | rfl | omega) ?_
  refine v_dup o dX6_init_8 rfl ?_
  refine v_bipush o (v := 24) dX6_init_9 (by decide) ?_
  have hq := h.1
  replace h := h.2
  refine v_cI o hsz rfl hq.1.1 hq.1.2 hO [.int 24] [.ref (sz + 0), .ref a] (metX3_init l G P5 g5 (sz + 1) (sz + 0) 24 _ h) (cwI 1 o.1.2.2.2.2 (gUc (mU 60 (by decide +kernel) rfl)) rfl rfl rfl (o.1.2.2.2.2 _ (mU 28 (by decide +kernel) rfl)) (o.1.2.2.2.2 _ (mU 94 (by decide +kernel) rfl)) (o.1.2.2.2.2 _ (mU 59 (by decide +kernel) rfl)) rfl ⟨by decide +kernel, by decide +kernel, by decide +kernel⟩ ⟨Nat.le_of_ble_eq_true rfl, Nat.le_of_ble_eq_true rfl⟩) rfl (Nat.le_of_ble_eq_true rfl) hq.2 dX6_init_11 rfl (fun P11 g11 h => ?_)
  refine v_eqc (c2 := 2) (s2 := 25) (by first | rfl | omega) (by first | rfl | omega | decide) ?_
  refine v_pfR o lgX6_14 hnm h.1 dX6_init_14 ?_
  replace h := h.2
  generalize eP14 : pRef P11 a 0 (sz + 0) = P14
  replace h := h P14 eP14.symm
  refine v_aload_n o 0 dX6_init_17 rfl ?_
  refine v_iconst o (v := 2) dX6_init_18 (by decide) ?_
  refine v_pf o lpX6_20 h.1 ⟨rfl, rfl⟩ dX6_init_19 ?_
  replace h := h.2
  generalize eg19 : setf g11 a 1 2 = g19
  replace h := h g19 eg19.symm
  refine v_aload_n o 0 dX6_init_22 rfl ?_
  refine v_iconst o (v := 0) dX6_init_23 (by decide) ?_
  refine v_pf o lpX6_24 h.1 ⟨rfl, rfl⟩ dX6_init_24 ?_
  replace h := h.2
  generalize eg24 : setf g19 a 2 0 = g24
  replace h := h g24 eg24.symm
  refine v_widen (k := 2) (n := 25) h.1.1 h.1.2 ?_
  exact v_vretC o rfl hr dX6_init_27 h.2
abbrev kX6_init := @vX6_init
abbrev metX6_init := @mX6_init
theorem uc_X6 {P : Sk} {f : St} {a : Nat} {K : Sk → St → Prop} (ho : Ob P a 6) (hK : ∀ P2 f2, Gr P P2 f f2 a 3 → IsWord P2 a → f2 a 1 = 2 → f2 a 2 = 0 → K P2 f2) : kX6_init P f (a + 1) a K := by
  show vX6_init P f (a + 1) a K
  unfold vX6_init
  have G0 := Gr.refl P f a
  refine ⟨⟨G0.cok (by decide), by decide, by decide⟩, fun Q e g d => ?_⟩
  subst e d
  have N1 := gw_new 3 0 G0 (by decide) (q := a + 1 + 0) (by omega)
  refine ⟨⟨N1.cok (by decide), by decide, by decide⟩, ?_⟩
  refine uc_X3 (L := 24) (ob_new _ _ _ _) (by decide) (by decide) (by decide) (fun Q2 g1 H1 I1 n1 => ?_)
  have S1 := gr_sub N1 H1 (by omega) (by decide) (by decide)
  refine ⟨S1.ob ho, fun Q1 e1 => ?_⟩
  obtain ⟨G1, L1, U1, T1, R1⟩ := gr_child G0 (by decide) (by decide) (by omega) H1 (Nat.le_refl a) (by omega) e1
  have J1 : IsRow Q1 (a + 1) := I1.eq (fun x h1 h2 => U1 x (by omega))
  have m1 : sN Q1 (a + 1 + 1) = 24 := (U1 _ (by omega)).2.2.1.trans n1
  have r1 : sR Q1 a 0 = some (a + 1) := by rw [R1, if_pos rfl]
  refine ⟨G1.ob ho, fun s0 d0' => ?_⟩
  refine ⟨G1.ob ho, fun s1 d1' => ?_⟩
  refine ⟨⟨by decide, by decide⟩, ?_⟩
  subst d0' d1'
  exact hK _ _ (((G1).set (Nat.le_refl a)).set (Nat.le_refl a)) ⟨G1.ob ho, r1, J1, m1⟩ (by rw [setf_off (Or.inr (by decide))]; rw [setf_same]) (by rw [setf_same])
def vX5_init (P : Sk) (f : St) (sz : Nat) (a : Nat) (K : Sk → St → Prop) : Prop :=
  (COk P P sz (0) ∧ (0 + 1 ≤ 14 ∧ 0 + 1 ≤ 90)) ∧ (∀ P5 : Sk, P5 = pNew P (sz + 0) 3 0 → ∀ g5 : St, g5 = va_up f (sz + 0) z0 → (COk P P5 sz (1) ∧ (1 + 1 ≤ 14 ∧ 1 + 24 ≤ 90)) ∧ (kX3_init P5 g5 (sz + 1) (sz + 0) 24 (fun P11 g11 => (Ob P11 a 5) ∧ (∀ P14 : Sk, P14 = pRef P11 a 0 (sz + 0) → (COk P P14 sz (2) ∧ (2 + 1 ≤ 14 ∧ 25 + 1 ≤ 90)) ∧ (∀ P18 : Sk, P18 = pNew P14 (sz + 2) 3 0 → ∀ g18 : St, g18 = va_up g11 (sz + 2) z0 → (COk P P18 sz (3) ∧ (3 + 1 ≤ 14 ∧ 26 + 24 ≤ 90)) ∧ (kX3_init P18 g18 (sz + 3) (sz + 2) 24 (fun P24 g24 => (Ob P24 a 5) ∧ (∀ P27 : Sk, P27 = pRef P24 a 1 (sz + 2) → (COk P P27 sz (4) ∧ (4 + 1 ≤ 14 ∧ 50 + 1 ≤ 90)) ∧ (∀ P31 : Sk, P31 = pNew P27 (sz + 4) 3 0 → ∀ g31 : St, g31 = va_up g24 (sz + 4) z0 → (COk P P31 sz (5) ∧ (5 + 1 ≤ 14 ∧ 51 + 7 ≤ 90)) ∧ (kX3_init P31 g31 (sz + 5) (sz + 4) 7 (fun P37 g37 => (Ob P37 a 5) ∧ (∀ P40 : Sk, P40 = pRef P37 a 2 (sz + 4) → (COk P P40 sz (6) ∧ (6 + 1 ≤ 14 ∧ 58 + 1 ≤ 90)) ∧ (∀ P44 : Sk, P44 = pNew P40 (sz + 6) 3 0 → ∀ g44 : St, g44 = va_up g37 (sz + 6) z0 → (COk P P44 sz (7) ∧ (7 + 1 ≤ 14 ∧ 59 + 7 ≤ 90)) ∧ (kX3_init P44 g44 (sz + 7) (sz + 6) 7 (fun P50 g50 => (Ob P50 a 5) ∧ (∀ P53 : Sk, P53 = pRef P50 a 3 (sz + 6) → (COk P P53 sz (8) ∧ (8 + 1 ≤ 14 ∧ 66 + 1 ≤ 90)) ∧ (∀ P57 : Sk, P57 = pNew P53 (sz + 8) 3 0 → ∀ g57 : St, g57 = va_up g50 (sz + 8) z0 → (COk P P57 sz (9) ∧ (9 + 1 ≤ 14 ∧ 67 + 7 ≤ 90)) ∧ (kX3_init P57 g57 (sz + 9) (sz + 8) 7 (fun P63 g63 => (Ob P63 a 5) ∧ (∀ P66 : Sk, P66 = pRef P63 a 4 (sz + 8) → (COk P P66 sz (10) ∧ (10 + 1 ≤ 14 ∧ 74 + 1 ≤ 90)) ∧ (∀ P70 : Sk, P70 = pNew P66 (sz + 10) 3 0 → ∀ g70 : St, g70 = va_up g63 (sz + 10) z0 → (COk P P70 sz (11) ∧ (11 + 1 ≤ 14 ∧ 75 + 7 ≤ 90)) ∧ (kX3_init P70 g70 (sz + 11) (sz + 10) 7 (fun P76 g76 => (Ob P76 a 5) ∧ (∀ P79 : Sk, P79 = pRef P76 a 5 (sz + 10) → (COk P P79 sz (12) ∧ (12 + 1 ≤ 14 ∧ 82 + 1 ≤ 90)) ∧ (∀ P83 : Sk, P83 = pNew P79 (sz + 12) 3 0 → ∀ g83 : St, g83 = va_up g76 (sz + 12) z0 → (COk P P83 sz (13) ∧ (13 + 1 ≤ 14 ∧ 83 + 7 ≤ 90)) ∧ (kX3_init P83 g83 (sz + 13) (sz + 12) 7 (fun P89 g89 => (Ob P89 a 5) ∧ (∀ P92 : Sk, P92 = pRef P89 a 6 (sz + 12) → (Ob P92 a 5) ∧ (∀ g97 : St, g97 = setf g89 a 7 2 → (14 ≤ 14 ∧ 90 ≤ 90) ∧ K P92 g97)))))))))))))))))))))))))))))
abbrev rmC_X5_init : Room := { frames := 2, cells := 14, slots := 90, locals := 41 }
set_option maxRecDepth 20000 in
set_option maxHeartbeats 4000000 in
theorem mX5_init (l : Launch) (G : Gl) (P : Sk) (f : St) (sz : Nat) (a : Nat) (K : Sk → St → Prop) (h : vX5_init P f sz a K) : Met l yX5_init (wU yX5_init cX5_init 1 none) (rmC_X5_init) (PcC G P f sz [.ref a]) (QcC G P sz K) (14) (90) (frA P sz) := by
  refine v_metc (own := RX5) [.ref a] (by decide +kernel) rfl rfl (Nat.le_of_ble_eq_true rfl) (fun p e s m args below meth c hsz o hr hnm hO => ?_)
  refine v_lv (lv2 := [(0, .ref a)]) rfl ?_
  unfold vX5_init at h
  refine v_aload_n o 0 dX5_init_0 rfl ?_
  refine v_obj o (mU 110 (by decide +kernel) rfl) (mU 48 (by decide +kernel) rfl) (mU 49 (by decide +kernel) rfl) ⟨Nat.le_of_ble_eq_true rfl, Nat.le_of_ble_eq_true rfl⟩ dX5_init_1 ?_
  refine v_aload_n o 0 dX5_init_4 rfl ?_
  refine v_new o hsz rfl h.1.1.1 h.1.1.2 lnX5_9 h.1.2 dX5_init_5 ?_
  replace h := h.2
  generalize eP5 : pNew P (sz + 0) 3 0 = P5
  replace h := h P5 eP5.symm
  generalize eg5 : va_up f (sz + 0) z0 = g5
  replace h := h g5 eg5.symm
  refine v_eqc (c2 := 1) (s2 := 1) (by first | rfl | omega) (by first | rfl | omega) ?_
  refine v_dup o dX5_init_8 rfl ?_
  refine v_bipush o (v := 24) dX5_init_9 (by decide) ?_
  have hq := h.1
  replace h := h.2
  refine v_cI o hsz rfl hq.1.1 hq.1.2 hO [.int 24] [.ref (sz + 0), .ref a] (metX3_init l G P5 g5 (sz + 1) (sz + 0) 24 _ h) (cwI 1 o.1.2.2.2.2 (gUc (mU 60 (by decide +kernel) rfl)) rfl rfl rfl (o.1.2.2.2.2 _ (mU 28 (by decide +kernel) rfl)) (o.1.2.2.2.2 _ (mU 112 (by decide +kernel) rfl)) (o.1.2.2.2.2 _ (mU 59 (by decide +kernel) rfl)) rfl ⟨by decide +kernel, by decide +kernel, by decide +kernel⟩ ⟨Nat.le_of_ble_eq_true rfl, Nat.le_of_ble_eq_true rfl⟩) rfl (Nat.le_of_ble_eq_true rfl) hq.2 dX5_init_11 rfl (fun P11 g11 h => ?_)
  refine v_eqc (c2 := 2) (s2 := 25) (by first | rfl | omega) (by first | rfl | omega | decide) ?_
  refine v_pfR o lgX5_14 hnm h.1 dX5_init_14 ?_
  replace h := h.2
  generalize eP14 : pRef P11 a 0 (sz + 0) = P14
  replace h := h P14 eP14.symm
  refine v_aload_n o 0 dX5_init_17 rfl ?_
  refine v_new o hsz rfl h.1.1.1 h.1.1.2 lnX5_9 h.1.2 dX5_init_18 ?_
  replace h := h.2
  generalize eP18 : pNew P14 (sz + 2) 3 0 = P18
  replace h := h P18 eP18.symm
  generalize eg18 : va_up g11 (sz + 2) z0 = g18
  replace h := h g18 eg18.symm
  refine v_eqc (c2 := 3) (s2 := 26) (by first | rfl | omega) (by first | rfl | omega) ?_
  refine v_dup o dX5_init_21 rfl ?_
  refine v_bipush o (v := 24) dX5_init_22 (by decide) ?_
  have hq := h.1
  replace h := h.2
  refine v_cI o hsz rfl hq.1.1 hq.1.2 hO [.int 24] [.ref (sz + 2), .ref a] (metX3_init l G P18 g18 (sz + 3) (sz + 2) 24 _ h) (cwI 1 o.1.2.2.2.2 (gUc (mU 60 (by decide +kernel) rfl)) rfl rfl rfl (o.1.2.2.2.2 _ (mU 28 (by decide +kernel) rfl)) (o.1.2.2.2.2 _ (mU 112 (by decide +kernel) rfl)) (o.1.2.2.2.2 _ (mU 59 (by decide +kernel) rfl)) rfl ⟨by decide +kernel, by decide +kernel, by decide +kernel⟩ ⟨Nat.le_of_ble_eq_true rfl, Nat.le_of_ble_eq_true rfl⟩) rfl (Nat.le_of_ble_eq_true rfl) hq.2 dX5_init_24 rfl (fun P24 g24 h => ?_)
  refine v_eqc (c2 := 4) (s2 := 50) (by first | rfl | omega) (by first | rfl | omega | decide) ?_
  refine v_pfR o lgX5_20 hnm h.1 dX5_init_27 ?_
  replace h := h.2
  generalize eP27 : pRef P24 a 1 (sz + 2) = P27
  replace h := h P27 eP27.symm
  refine v_aload_n o 0 dX5_init_30 rfl ?_
  refine v_new o hsz rfl h.1.1.1 h.1.1.2 lnX5_9 h.1.2 dX5_init_31 ?_
  replace h := h.2
  generalize eP31 : pNew P27 (sz + 4) 3 0 = P31
  replace h := h P31 eP31.symm
  generalize eg31 : va_up g24 (sz + 4) z0 = g31
  replace h := h g31 eg31.symm
  refine v_eqc (c2 := 5) (s2 := 51) (by first | rfl | omega) (by first | rfl | omega) ?_
  refine v_dup o dX5_init_34 rfl ?_
  refine v_bipush o (v := 7) dX5_init_35 (by decide) ?_
  have hq := h.1
  replace h := h.2
  refine v_cI o hsz rfl hq.1.1 hq.1.2 hO [.int 7] [.ref (sz + 4), .ref a] (metX3_init l G P31 g31 (sz + 5) (sz + 4) 7 _ h) (cwI 1 o.1.2.2.2.2 (gUc (mU 60 (by decide +kernel) rfl)) rfl rfl rfl (o.1.2.2.2.2 _ (mU 28 (by decide +kernel) rfl)) (o.1.2.2.2.2 _ (mU 112 (by decide +kernel) rfl)) (o.1.2.2.2.2 _ (mU 59 (by decide +kernel) rfl)) rfl ⟨by decide +kernel, by decide +kernel, by decide +kernel⟩ ⟨Nat.le_of_ble_eq_true rfl, Nat.le_of_ble_eq_true rfl⟩) rfl (Nat.le_of_ble_eq_true rfl) hq.2 dX5_init_37 rfl (fun P37 g37 h => ?_)
  refine v_eqc (c2 := 6) (s2 := 58) (by first | rfl | omega) (by first | rfl | omega | decide) ?_
  refine v_pfR o lgX5_23 hnm h.1 dX5_init_40 ?_
  replace h := h.2
  generalize eP40 : pRef P37 a 2 (sz + 4) = P40
  replace h := h P40 eP40.symm
  refine v_aload_n o 0 dX5_init_43 rfl ?_
  refine v_new o hsz rfl h.1.1.1 h.1.1.2 lnX5_9 h.1.2 dX5_init_44 ?_
  replace h := h.2
  generalize eP44 : pNew P40 (sz + 6) 3 0 = P44
  replace h := h P44 eP44.symm
  generalize eg44 : va_up g37 (sz + 6) z0 = g44
  replace h := h g44 eg44.symm
  refine v_eqc (c2 := 7) (s2 := 59) (by first | rfl | omega) (by first | rfl | omega) ?_
  refine v_dup o dX5_init_47 rfl ?_
  refine v_bipush o (v := 7) dX5_init_48 (by decide) ?_
  have hq := h.1
  replace h := h.2
  refine v_cI o hsz rfl hq.1.1 hq.1.2 hO [.int 7] [.ref (sz + 6), .ref a] (metX3_init l G P44 g44 (sz + 7) (sz + 6) 7 _ h) (cwI 1 o.1.2.2.2.2 (gUc (mU 60 (by decide +kernel) rfl)) rfl rfl rfl (o.1.2.2.2.2 _ (mU 28 (by decide +kernel) rfl)) (o.1.2.2.2.2 _ (mU 112 (by decide +kernel) rfl)) (o.1.2.2.2.2 _ (mU 59 (by decide +kernel) rfl)) rfl ⟨by decide +kernel, by decide +kernel, by decide +kernel⟩ ⟨Nat.le_of_ble_eq_true rfl, Nat.le_of_ble_eq_true rfl⟩) rfl (Nat.le_of_ble_eq_true rfl) hq.2 dX5_init_50 rfl (fun P50 g50 h => ?_)
  refine v_eqc (c2 := 8) (s2 := 66) (by first | rfl | omega) (by first | rfl | omega | decide) ?_
  refine v_pfR o lgX5_26 hnm h.1 dX5_init_53 ?_
  replace h := h.2
  generalize eP53 : pRef P50 a 3 (sz + 6) = P53
  replace h := h P53 eP53.symm
  refine v_aload_n o 0 dX5_init_56 rfl ?_
  refine v_new o hsz rfl h.1.1.1 h.1.1.2 lnX5_9 h.1.2 dX5_init_57 ?_
  replace h := h.2
  generalize eP57 : pNew P53 (sz + 8) 3 0 = P57
  replace h := h P57 eP57.symm
  generalize eg57 : va_up g50 (sz + 8) z0 = g57
  replace h := h g57 eg57.symm
  refine v_eqc (c2 := 9) (s2 := 67) (by first | rfl | omega) (by first | rfl | omega) ?_
  refine v_dup o dX5_init_60 rfl ?_
  refine v_bipush o (v := 7) dX5_init_61 (by decide) ?_
  have hq := h.1
  replace h := h.2
  refine v_cI o hsz rfl hq.1.1 hq.1.2 hO [.int 7] [.ref (sz + 8), .ref a] (metX3_init l G P57 g57 (sz + 9) (sz + 8) 7 _ h) (cwI 1 o.1.2.2.2.2 (gUc (mU 60 (by decide +kernel) rfl)) rfl rfl rfl (o.1.2.2.2.2 _ (mU 28 (by decide +kernel) rfl)) (o.1.2.2.2.2 _ (mU 112 (by decide +kernel) rfl)) (o.1.2.2.2.2 _ (mU 59 (by decide +kernel) rfl)) rfl ⟨by decide +kernel, by decide +kernel, by decide +kernel⟩ ⟨Nat.le_of_ble_eq_true rfl, Nat.le_of_ble_eq_true rfl⟩) rfl (Nat.le_of_ble_eq_true rfl) hq.2 dX5_init_63 rfl (fun P63 g63 h => ?_)
  refine v_eqc (c2 := 10) (s2 := 74) (by first | rfl | omega) (by first | rfl | omega | decide) ?_
  refine v_pfR o lgX5_29 hnm h.1 dX5_init_66 ?_
  replace h := h.2
  generalize eP66 : pRef P63 a 4 (sz + 8) = P66
  replace h := h P66 eP66.symm
  refine v_aload_n o 0 dX5_init_69 rfl ?_
  refine v_new o hsz rfl h.1.1.1 h.1.1.2 lnX5_9 h.1.2 dX5_init_70 ?_
  replace h := h.2
  generalize eP70 : pNew P66 (sz + 10) 3 0 = P70
  replace h := h P70 eP70.symm
  generalize eg70 : va_up g63 (sz + 10) z0 = g70
  replace h := h g70 eg70.symm
  refine v_eqc (c2 := 11) (s2 := 75) (by first | rfl | omega) (by first | rfl | omega) ?_
  refine v_dup o dX5_init_73 rfl ?_
  refine v_bipush o (v := 7) dX5_init_74 (by decide) ?_
  have hq := h.1
  replace h := h.2
  refine v_cI o hsz rfl hq.1.1 hq.1.2 hO [.int 7] [.ref (sz + 10), .ref a] (metX3_init l G P70 g70 (sz + 11) (sz + 10) 7 _ h) (cwI 1 o.1.2.2.2.2 (gUc (mU 60 (by decide +kernel) rfl)) rfl rfl rfl (o.1.2.2.2.2 _ (mU 28 (by decide +kernel) rfl)) (o.1.2.2.2.2 _ (mU 112 (by decide +kernel) rfl)) (o.1.2.2.2.2 _ (mU 59 (by decide +kernel) rfl)) rfl ⟨by decide +kernel, by decide +kernel, by decide +kernel⟩ ⟨Nat.le_of_ble_eq_true rfl, Nat.le_of_ble_eq_true rfl⟩) rfl (Nat.le_of_ble_eq_true rfl) hq.2 dX5_init_76 rfl (fun P76 g76 h => ?_)
  refine v_eqc (c2 := 12) (s2 := 82) (by first | rfl | omega) (by first | rfl | omega | decide) ?_
  refine v_pfR o lgX5_32 hnm h.1 dX5_init_79 ?_
  replace h := h.2
  generalize eP79 : pRef P76 a 5 (sz + 10) = P79
  replace h := h P79 eP79.symm
  refine v_aload_n o 0 dX5_init_82 rfl ?_
  refine v_new o hsz rfl h.1.1.1 h.1.1.2 lnX5_9 h.1.2 dX5_init_83 ?_
  replace h := h.2
  generalize eP83 : pNew P79 (sz + 12) 3 0 = P83
  replace h := h P83 eP83.symm
  generalize eg83 : va_up g76 (sz + 12) z0 = g83
  replace h := h g83 eg83.symm
  refine v_eqc (c2 := 13) (s2 := 83) (by first | rfl | omega) (by first | rfl | omega) ?_
  refine v_dup o dX5_init_86 rfl ?_
  refine v_bipush o (v := 7) dX5_init_87 (by decide) ?_
  have hq := h.1
  replace h := h.2
  refine v_cI o hsz rfl hq.1.1 hq.1.2 hO [.int 7] [.ref (sz + 12), .ref a] (metX3_init l G P83 g83 (sz + 13) (sz + 12) 7 _ h) (cwI 1 o.1.2.2.2.2 (gUc (mU 60 (by decide +kernel) rfl)) rfl rfl rfl (o.1.2.2.2.2 _ (mU 28 (by decide +kernel) rfl)) (o.1.2.2.2.2 _ (mU 112 (by decide +kernel) rfl)) (o.1.2.2.2.2 _ (mU 59 (by decide +kernel) rfl)) rfl ⟨by decide +kernel, by decide +kernel, by decide +kernel⟩ ⟨Nat.le_of_ble_eq_true rfl, Nat.le_of_ble_eq_true rfl⟩) rfl (Nat.le_of_ble_eq_true rfl) hq.2 dX5_init_89 rfl (fun P89 g89 h => ?_)
  refine v_eqc (c2 := 14) (s2 := 90) (by first | rfl | omega) (by first | rfl | omega | decide) ?_
  refine v_pfR o lgX5_35 hnm h.1 dX5_init_92 ?_
  replace h := h.2
  generalize eP92 : pRef P89 a 6 (sz + 12) = P92
  replace h := h P92 eP92.symm
  refine v_aload_n o 0 dX5_init_95 rfl ?_
  refine v_iconst o (v := 2) dX5_init_96 (by decide) ?_
  refine v_pf o lpX5_38 h.1 ⟨rfl, rfl⟩ dX5_init_97 ?_
  replace h := h.2
  generalize eg97 : setf g89 a 7 2 = g97
  replace h := h g97 eg97.symm
  refine v_widen (k := 14) (n := 90) h.1.1 h.1.2 ?_
  exact v_vretC o rfl hr dX5_init_100 h.2
abbrev kX5_init := @vX5_init
abbrev metX5_init := @mX5_init
theorem uc_X5 {P : Sk} {f : St} {a : Nat} {K : Sk → St → Prop} (ho : Ob P a 5) (hK : ∀ P2 f2, Gr P P2 f f2 a 15 → IsTrace P2 a → f2 a 7 = 2 → K P2 f2) : kX5_init P f (a + 1) a K := by
  show vX5_init P f (a + 1) a K
  unfold vX5_init
  have G0 := Gr.refl P f a
  refine ⟨⟨G0.cok (by decide), by decide, by decide⟩, fun Q e g d => ?_⟩
  subst e d
  have N1 := gw_new 3 0 G0 (by decide) (q := a + 1 + 0) (by omega)
  refine ⟨⟨N1.cok (by decide), by decide, by decide⟩, ?_⟩
  refine uc_X3 (L := 24) (ob_new _ _ _ _) (by decide) (by decide) (by decide) (fun Q2 g1 H1 I1 n1 => ?_)
  have S1 := gr_sub N1 H1 (by omega) (by decide) (by decide)
  refine ⟨S1.ob ho, fun Q1 e1 => ?_⟩
  obtain ⟨G1, L1, U1, T1, R1⟩ := gr_child G0 (by decide) (by decide) (by omega) H1 (Nat.le_refl a) (by omega) e1
  have J1 : IsRow Q1 (a + 1) := I1.eq (fun x h1 h2 => U1 x (by omega))
  have m1 : sN Q1 (a + 1 + 1) = 24 := (U1 _ (by omega)).2.2.1.trans n1
  have r1 : sR Q1 a 0 = some (a + 1) := by rw [R1, if_pos rfl]
  refine ⟨⟨G1.cok (by decide), by decide, by decide⟩, fun Q e g d => ?_⟩
  subst e d
  have N2 := gw_new 3 0 G1 (by decide) (q := a + 1 + 2) (by omega)
  refine ⟨⟨N2.cok (by decide), by decide, by decide⟩, ?_⟩
  refine uc_X3 (L := 24) (ob_new _ _ _ _) (by decide) (by decide) (by decide) (fun Q2 g2 H2 I2 n2 => ?_)
  have S2 := gr_sub N2 H2 (by omega) (by decide) (by decide)
  refine ⟨S2.ob ho, fun Q2 e2 => ?_⟩
  obtain ⟨G2, L2, U2, T2, R2⟩ := gr_child G1 (by decide) (by decide) (by omega) H2 (Nat.le_refl a) (by omega) e2
  replace J1 : IsRow Q2 (a + 1) := J1.eq (fun x h1 h2 => L2 x (by omega) (by omega))
  replace m1 : sN Q2 (a + 1 + 1) = 24 := (L2 (a + 1 + 1) (by omega) (by omega)).2.2.1.trans m1
  replace r1 : sR Q2 a 0 = some (a + 1) := by rw [R2, if_neg (by decide)]; exact r1
  have J2 : IsRow Q2 (a + 3) := I2.eq (fun x h1 h2 => U2 x (by omega))
  have m2 : sN Q2 (a + 3 + 1) = 24 := (U2 _ (by omega)).2.2.1.trans n2
  have r2 : sR Q2 a 1 = some (a + 3) := by rw [R2, if_pos rfl]
  refine ⟨⟨G2.cok (by decide), by decide, by decide⟩, fun Q e g d => ?_⟩
  subst e d
  have N3 := gw_new 3 0 G2 (by decide) (q := a + 1 + 4) (by omega)
  refine ⟨⟨N3.cok (by decide), by decide, by decide⟩, ?_⟩
  refine uc_X3 (L := 7) (ob_new _ _ _ _) (by decide) (by decide) (by decide) (fun Q2 g3 H3 I3 n3 => ?_)
  have S3 := gr_sub N3 H3 (by omega) (by decide) (by decide)
  refine ⟨S3.ob ho, fun Q3 e3 => ?_⟩
  obtain ⟨G3, L3, U3, T3, R3⟩ := gr_child G2 (by decide) (by decide) (by omega) H3 (Nat.le_refl a) (by omega) e3
  replace J1 : IsRow Q3 (a + 1) := J1.eq (fun x h1 h2 => L3 x (by omega) (by omega))
  replace m1 : sN Q3 (a + 1 + 1) = 24 := (L3 (a + 1 + 1) (by omega) (by omega)).2.2.1.trans m1
  replace r1 : sR Q3 a 0 = some (a + 1) := by rw [R3, if_neg (by decide)]; exact r1
  replace J2 : IsRow Q3 (a + 3) := J2.eq (fun x h1 h2 => L3 x (by omega) (by omega))
  replace m2 : sN Q3 (a + 3 + 1) = 24 := (L3 (a + 3 + 1) (by omega) (by omega)).2.2.1.trans m2
  replace r2 : sR Q3 a 1 = some (a + 3) := by rw [R3, if_neg (by decide)]; exact r2
  have J3 : IsRow Q3 (a + 5) := I3.eq (fun x h1 h2 => U3 x (by omega))
  have m3 : sN Q3 (a + 5 + 1) = 7 := (U3 _ (by omega)).2.2.1.trans n3
  have r3 : sR Q3 a 2 = some (a + 5) := by rw [R3, if_pos rfl]
  refine ⟨⟨G3.cok (by decide), by decide, by decide⟩, fun Q e g d => ?_⟩
  subst e d
  have N4 := gw_new 3 0 G3 (by decide) (q := a + 1 + 6) (by omega)
  refine ⟨⟨N4.cok (by decide), by decide, by decide⟩, ?_⟩
  refine uc_X3 (L := 7) (ob_new _ _ _ _) (by decide) (by decide) (by decide) (fun Q2 g4 H4 I4 n4 => ?_)
  have S4 := gr_sub N4 H4 (by omega) (by decide) (by decide)
  refine ⟨S4.ob ho, fun Q4 e4 => ?_⟩
  obtain ⟨G4, L4, U4, T4, R4⟩ := gr_child G3 (by decide) (by decide) (by omega) H4 (Nat.le_refl a) (by omega) e4
  replace J1 : IsRow Q4 (a + 1) := J1.eq (fun x h1 h2 => L4 x (by omega) (by omega))
  replace m1 : sN Q4 (a + 1 + 1) = 24 := (L4 (a + 1 + 1) (by omega) (by omega)).2.2.1.trans m1
  replace r1 : sR Q4 a 0 = some (a + 1) := by rw [R4, if_neg (by decide)]; exact r1
  replace J2 : IsRow Q4 (a + 3) := J2.eq (fun x h1 h2 => L4 x (by omega) (by omega))
  replace m2 : sN Q4 (a + 3 + 1) = 24 := (L4 (a + 3 + 1) (by omega) (by omega)).2.2.1.trans m2
  replace r2 : sR Q4 a 1 = some (a + 3) := by rw [R4, if_neg (by decide)]; exact r2
  replace J3 : IsRow Q4 (a + 5) := J3.eq (fun x h1 h2 => L4 x (by omega) (by omega))
  replace m3 : sN Q4 (a + 5 + 1) = 7 := (L4 (a + 5 + 1) (by omega) (by omega)).2.2.1.trans m3
  replace r3 : sR Q4 a 2 = some (a + 5) := by rw [R4, if_neg (by decide)]; exact r3
  have J4 : IsRow Q4 (a + 7) := I4.eq (fun x h1 h2 => U4 x (by omega))
  have m4 : sN Q4 (a + 7 + 1) = 7 := (U4 _ (by omega)).2.2.1.trans n4
  have r4 : sR Q4 a 3 = some (a + 7) := by rw [R4, if_pos rfl]
  refine ⟨⟨G4.cok (by decide), by decide, by decide⟩, fun Q e g d => ?_⟩
  subst e d
  have N5 := gw_new 3 0 G4 (by decide) (q := a + 1 + 8) (by omega)
  refine ⟨⟨N5.cok (by decide), by decide, by decide⟩, ?_⟩
  refine uc_X3 (L := 7) (ob_new _ _ _ _) (by decide) (by decide) (by decide) (fun Q2 g5 H5 I5 n5 => ?_)
  have S5 := gr_sub N5 H5 (by omega) (by decide) (by decide)
  refine ⟨S5.ob ho, fun Q5 e5 => ?_⟩
  obtain ⟨G5, L5, U5, T5, R5⟩ := gr_child G4 (by decide) (by decide) (by omega) H5 (Nat.le_refl a) (by omega) e5
  replace J1 : IsRow Q5 (a + 1) := J1.eq (fun x h1 h2 => L5 x (by omega) (by omega))
  replace m1 : sN Q5 (a + 1 + 1) = 24 := (L5 (a + 1 + 1) (by omega) (by omega)).2.2.1.trans m1
  replace r1 : sR Q5 a 0 = some (a + 1) := by rw [R5, if_neg (by decide)]; exact r1
  replace J2 : IsRow Q5 (a + 3) := J2.eq (fun x h1 h2 => L5 x (by omega) (by omega))
  replace m2 : sN Q5 (a + 3 + 1) = 24 := (L5 (a + 3 + 1) (by omega) (by omega)).2.2.1.trans m2
  replace r2 : sR Q5 a 1 = some (a + 3) := by rw [R5, if_neg (by decide)]; exact r2
  replace J3 : IsRow Q5 (a + 5) := J3.eq (fun x h1 h2 => L5 x (by omega) (by omega))
  replace m3 : sN Q5 (a + 5 + 1) = 7 := (L5 (a + 5 + 1) (by omega) (by omega)).2.2.1.trans m3
  replace r3 : sR Q5 a 2 = some (a + 5) := by rw [R5, if_neg (by decide)]; exact r3
  replace J4 : IsRow Q5 (a + 7) := J4.eq (fun x h1 h2 => L5 x (by omega) (by omega))
  replace m4 : sN Q5 (a + 7 + 1) = 7 := (L5 (a + 7 + 1) (by omega) (by omega)).2.2.1.trans m4
  replace r4 : sR Q5 a 3 = some (a + 7) := by rw [R5, if_neg (by decide)]; exact r4
  have J5 : IsRow Q5 (a + 9) := I5.eq (fun x h1 h2 => U5 x (by omega))
  have m5 : sN Q5 (a + 9 + 1) = 7 := (U5 _ (by omega)).2.2.1.trans n5
  have r5 : sR Q5 a 4 = some (a + 9) := by rw [R5, if_pos rfl]
  refine ⟨⟨G5.cok (by decide), by decide, by decide⟩, fun Q e g d => ?_⟩
  subst e d
  have N6 := gw_new 3 0 G5 (by decide) (q := a + 1 + 10) (by omega)
  refine ⟨⟨N6.cok (by decide), by decide, by decide⟩, ?_⟩
  refine uc_X3 (L := 7) (ob_new _ _ _ _) (by decide) (by decide) (by decide) (fun Q2 g6 H6 I6 n6 => ?_)
  have S6 := gr_sub N6 H6 (by omega) (by decide) (by decide)
  refine ⟨S6.ob ho, fun Q6 e6 => ?_⟩
  obtain ⟨G6, L6, U6, T6, R6⟩ := gr_child G5 (by decide) (by decide) (by omega) H6 (Nat.le_refl a) (by omega) e6
  replace J1 : IsRow Q6 (a + 1) := J1.eq (fun x h1 h2 => L6 x (by omega) (by omega))
  replace m1 : sN Q6 (a + 1 + 1) = 24 := (L6 (a + 1 + 1) (by omega) (by omega)).2.2.1.trans m1
  replace r1 : sR Q6 a 0 = some (a + 1) := by rw [R6, if_neg (by decide)]; exact r1
  replace J2 : IsRow Q6 (a + 3) := J2.eq (fun x h1 h2 => L6 x (by omega) (by omega))
  replace m2 : sN Q6 (a + 3 + 1) = 24 := (L6 (a + 3 + 1) (by omega) (by omega)).2.2.1.trans m2
  replace r2 : sR Q6 a 1 = some (a + 3) := by rw [R6, if_neg (by decide)]; exact r2
  replace J3 : IsRow Q6 (a + 5) := J3.eq (fun x h1 h2 => L6 x (by omega) (by omega))
  replace m3 : sN Q6 (a + 5 + 1) = 7 := (L6 (a + 5 + 1) (by omega) (by omega)).2.2.1.trans m3
  replace r3 : sR Q6 a 2 = some (a + 5) := by rw [R6, if_neg (by decide)]; exact r3
  replace J4 : IsRow Q6 (a + 7) := J4.eq (fun x h1 h2 => L6 x (by omega) (by omega))
  replace m4 : sN Q6 (a + 7 + 1) = 7 := (L6 (a + 7 + 1) (by omega) (by omega)).2.2.1.trans m4
  replace r4 : sR Q6 a 3 = some (a + 7) := by rw [R6, if_neg (by decide)]; exact r4
  replace J5 : IsRow Q6 (a + 9) := J5.eq (fun x h1 h2 => L6 x (by omega) (by omega))
  replace m5 : sN Q6 (a + 9 + 1) = 7 := (L6 (a + 9 + 1) (by omega) (by omega)).2.2.1.trans m5
  replace r5 : sR Q6 a 4 = some (a + 9) := by rw [R6, if_neg (by decide)]; exact r5
  have J6 : IsRow Q6 (a + 11) := I6.eq (fun x h1 h2 => U6 x (by omega))
  have m6 : sN Q6 (a + 11 + 1) = 7 := (U6 _ (by omega)).2.2.1.trans n6
  have r6 : sR Q6 a 5 = some (a + 11) := by rw [R6, if_pos rfl]
  refine ⟨⟨G6.cok (by decide), by decide, by decide⟩, fun Q e g d => ?_⟩
  subst e d
  have N7 := gw_new 3 0 G6 (by decide) (q := a + 1 + 12) (by omega)
  refine ⟨⟨N7.cok (by decide), by decide, by decide⟩, ?_⟩
  refine uc_X3 (L := 7) (ob_new _ _ _ _) (by decide) (by decide) (by decide) (fun Q2 g7 H7 I7 n7 => ?_)
  have S7 := gr_sub N7 H7 (by omega) (by decide) (by decide)
  refine ⟨S7.ob ho, fun Q7 e7 => ?_⟩
  obtain ⟨G7, L7, U7, T7, R7⟩ := gr_child G6 (by decide) (by decide) (by omega) H7 (Nat.le_refl a) (by omega) e7
  replace J1 : IsRow Q7 (a + 1) := J1.eq (fun x h1 h2 => L7 x (by omega) (by omega))
  replace m1 : sN Q7 (a + 1 + 1) = 24 := (L7 (a + 1 + 1) (by omega) (by omega)).2.2.1.trans m1
  replace r1 : sR Q7 a 0 = some (a + 1) := by rw [R7, if_neg (by decide)]; exact r1
  replace J2 : IsRow Q7 (a + 3) := J2.eq (fun x h1 h2 => L7 x (by omega) (by omega))
  replace m2 : sN Q7 (a + 3 + 1) = 24 := (L7 (a + 3 + 1) (by omega) (by omega)).2.2.1.trans m2
  replace r2 : sR Q7 a 1 = some (a + 3) := by rw [R7, if_neg (by decide)]; exact r2
  replace J3 : IsRow Q7 (a + 5) := J3.eq (fun x h1 h2 => L7 x (by omega) (by omega))
  replace m3 : sN Q7 (a + 5 + 1) = 7 := (L7 (a + 5 + 1) (by omega) (by omega)).2.2.1.trans m3
  replace r3 : sR Q7 a 2 = some (a + 5) := by rw [R7, if_neg (by decide)]; exact r3
  replace J4 : IsRow Q7 (a + 7) := J4.eq (fun x h1 h2 => L7 x (by omega) (by omega))
  replace m4 : sN Q7 (a + 7 + 1) = 7 := (L7 (a + 7 + 1) (by omega) (by omega)).2.2.1.trans m4
  replace r4 : sR Q7 a 3 = some (a + 7) := by rw [R7, if_neg (by decide)]; exact r4
  replace J5 : IsRow Q7 (a + 9) := J5.eq (fun x h1 h2 => L7 x (by omega) (by omega))
  replace m5 : sN Q7 (a + 9 + 1) = 7 := (L7 (a + 9 + 1) (by omega) (by omega)).2.2.1.trans m5
  replace r5 : sR Q7 a 4 = some (a + 9) := by rw [R7, if_neg (by decide)]; exact r5
  replace J6 : IsRow Q7 (a + 11) := J6.eq (fun x h1 h2 => L7 x (by omega) (by omega))
  replace m6 : sN Q7 (a + 11 + 1) = 7 := (L7 (a + 11 + 1) (by omega) (by omega)).2.2.1.trans m6
  replace r6 : sR Q7 a 5 = some (a + 11) := by rw [R7, if_neg (by decide)]; exact r6
  have J7 : IsRow Q7 (a + 13) := I7.eq (fun x h1 h2 => U7 x (by omega))
  have m7 : sN Q7 (a + 13 + 1) = 7 := (U7 _ (by omega)).2.2.1.trans n7
  have r7 : sR Q7 a 6 = some (a + 13) := by rw [R7, if_pos rfl]
  refine ⟨G7.ob ho, fun s0 d0' => ?_⟩
  refine ⟨⟨by decide, by decide⟩, ?_⟩
  subst d0'
  exact hK _ _ ((G7).set (Nat.le_refl a)) ⟨G7.ob ho, r1, J1, m1, r2, J2, m2, r3, J3, m3, r4, J4, m4, r5, J5, m5, r6, J6, m6, r7, J7, m7⟩ (by rw [setf_same])
def vX2_init (P : Sk) (f : St) (sz : Nat) (a : Nat) (K : Sk → St → Prop) : Prop :=
  (COk P P sz (0) ∧ (0 + 1 ≤ 21 ∧ 0 + 3 ≤ 154)) ∧ (∀ P5 : Sk, P5 = pNew P (sz + 0) 6 0 → ∀ g5 : St, g5 = va_up f (sz + 0) z0 → (COk P P5 sz (1) ∧ (1 + 2 ≤ 21 ∧ 3 + 25 ≤ 154)) ∧ (kX6_init P5 g5 (sz + 1) (sz + 0)  (fun P9 g9 => (Ob P9 a 2) ∧ (∀ P12 : Sk, P12 = pRef P9 a 0 (sz + 0) → (COk P P12 sz (3) ∧ (3 + 1 ≤ 21 ∧ 28 + 3 ≤ 154)) ∧ (∀ P16 : Sk, P16 = pNew P12 (sz + 3) 6 0 → ∀ g16 : St, g16 = va_up g9 (sz + 3) z0 → (COk P P16 sz (4) ∧ (4 + 2 ≤ 21 ∧ 31 + 25 ≤ 154)) ∧ (kX6_init P16 g16 (sz + 4) (sz + 3)  (fun P20 g20 => (Ob P20 a 2) ∧ (∀ P23 : Sk, P23 = pRef P20 a 1 (sz + 3) → (COk P P23 sz (6) ∧ (6 + 1 ≤ 21 ∧ 56 + 8 ≤ 154)) ∧ (∀ P27 : Sk, P27 = pNew P23 (sz + 6) 5 0 → ∀ g27 : St, g27 = va_up g20 (sz + 6) z0 → (COk P P27 sz (7) ∧ (7 + 14 ≤ 21 ∧ 64 + 90 ≤ 154)) ∧ (kX5_init P27 g27 (sz + 7) (sz + 6)  (fun P31 g31 => (Ob P31 a 2) ∧ (∀ P34 : Sk, P34 = pRef P31 a 2 (sz + 6) → (21 ≤ 21 ∧ 154 ≤ 154) ∧ K P34 g31))))))))))))
abbrev rmC_X2_init : Room := { frames := 3, cells := 21, slots := 154, locals := 61 }
set_option maxRecDepth 20000 in
set_option maxHeartbeats 4000000 in
theorem mX2_init (l : Launch) (G : Gl) (P : Sk) (f : St) (sz : Nat) (a : Nat) (K : Sk → St → Prop) (h : vX2_init P f sz a K) : Met l yX2_init (wU yX2_init cX2_init 1 none) (rmC_X2_init) (PcC G P f sz [.ref a]) (QcC G P sz K) (21) (154) (frA P sz) := by
  refine v_metc (own := RX2) [.ref a] (by decide +kernel) rfl rfl (Nat.le_of_ble_eq_true rfl) (fun p e s m args below meth c hsz o hr hnm hO => ?_)
  refine v_lv (lv2 := [(0, .ref a)]) rfl ?_
  unfold vX2_init at h
  refine v_aload_n o 0 dX2_init_0 rfl ?_
  refine v_obj o (mU 86 (by decide +kernel) rfl) (mU 48 (by decide +kernel) rfl) (mU 49 (by decide +kernel) rfl) ⟨Nat.le_of_ble_eq_true rfl, Nat.le_of_ble_eq_true rfl⟩ dX2_init_1 ?_
  refine v_aload_n o 0 dX2_init_4 rfl ?_
  refine v_new o hsz rfl h.1.1.1 h.1.1.2 lnX2_9 h.1.2 dX2_init_5 ?_
  replace h := h.2
  generalize eP5 : pNew P (sz + 0) 6 0 = P5
  replace h := h P5 eP5.symm
  generalize eg5 : va_up f (sz + 0) z0 = g5
  replace h := h g5 eg5.symm
  refine v_eqc (c2 := 1) (s2 := 3) (by first | rfl | omega) (by first | rfl | omega) ?_
  refine v_dup o dX2_init_8 rfl ?_
  have hq := h.1
  replace h := h.2
  refine v_cIN (host := "StrandLoaves") o hsz rfl hq.1.1 hq.1.2 hO [] [.ref (sz + 0), .ref a] (metX6_init l G P5 g5 (sz + 1) (sz + 0)  _ h) ⟨va_cnB 0 o.1.2.2.2.2 (gUc (mU 91 (by decide +kernel) rfl)) rfl rfl rfl (hO.2.2 _ (mN 89 (by decide +kernel) rfl)) (o.1.2.2.2.2 _ (mU 31 (by decide +kernel) rfl)) ⟨by decide +kernel, by decide +kernel, by decide +kernel⟩ ⟨Nat.le_of_ble_eq_true rfl, Nat.le_of_ble_eq_true rfl⟩, rfl, (o.1.2.2.2.2 _ (mU 90 (by decide +kernel) rfl))⟩ rfl (Nat.le_of_ble_eq_true rfl) hq.2 dX2_init_9 rfl (fun P9 g9 h => ?_)
  refine v_eqc (c2 := 3) (s2 := 28) (by first | rfl | omega) (by first | rfl | omega | decide) ?_
  refine v_pfR o lgX2_12 hnm h.1 dX2_init_12 ?_
  replace h := h.2
  generalize eP12 : pRef P9 a 0 (sz + 0) = P12
  replace h := h P12 eP12.symm
  refine v_aload_n o 0 dX2_init_15 rfl ?_
  refine v_new o hsz rfl h.1.1.1 h.1.1.2 lnX2_9 h.1.2 dX2_init_16 ?_
  replace h := h.2
  generalize eP16 : pNew P12 (sz + 3) 6 0 = P16
  replace h := h P16 eP16.symm
  generalize eg16 : va_up g9 (sz + 3) z0 = g16
  replace h := h g16 eg16.symm
  refine v_eqc (c2 := 4) (s2 := 31) (by first | rfl | omega) (by first | rfl | omega) ?_
  refine v_dup o dX2_init_19 rfl ?_
  have hq := h.1
  replace h := h.2
  refine v_cIN (host := "StrandLoaves") o hsz rfl hq.1.1 hq.1.2 hO [] [.ref (sz + 3), .ref a] (metX6_init l G P16 g16 (sz + 4) (sz + 3)  _ h) ⟨va_cnB 0 o.1.2.2.2.2 (gUc (mU 91 (by decide +kernel) rfl)) rfl rfl rfl (hO.2.2 _ (mN 89 (by decide +kernel) rfl)) (o.1.2.2.2.2 _ (mU 31 (by decide +kernel) rfl)) ⟨by decide +kernel, by decide +kernel, by decide +kernel⟩ ⟨Nat.le_of_ble_eq_true rfl, Nat.le_of_ble_eq_true rfl⟩, rfl, (o.1.2.2.2.2 _ (mU 90 (by decide +kernel) rfl))⟩ rfl (Nat.le_of_ble_eq_true rfl) hq.2 dX2_init_20 rfl (fun P20 g20 h => ?_)
  refine v_eqc (c2 := 6) (s2 := 56) (by first | rfl | omega) (by first | rfl | omega | decide) ?_
  refine v_pfR o lgX2_18 hnm h.1 dX2_init_23 ?_
  replace h := h.2
  generalize eP23 : pRef P20 a 1 (sz + 3) = P23
  replace h := h P23 eP23.symm
  refine v_aload_n o 0 dX2_init_26 rfl ?_
  refine v_new o hsz rfl h.1.1.1 h.1.1.2 lnX2_21 h.1.2 dX2_init_27 ?_
  replace h := h.2
  generalize eP27 : pNew P23 (sz + 6) 5 0 = P27
  replace h := h P27 eP27.symm
  generalize eg27 : va_up g20 (sz + 6) z0 = g27
  replace h := h g27 eg27.symm
  refine v_eqc (c2 := 7) (s2 := 64) (by first | rfl | omega) (by first | rfl | omega) ?_
  refine v_dup o dX2_init_30 rfl ?_
  have hq := h.1
  replace h := h.2
  refine v_cIN (host := "StrandLoaves") o hsz rfl hq.1.1 hq.1.2 hO [] [.ref (sz + 6), .ref a] (metX5_init l G P27 g27 (sz + 7) (sz + 6)  _ h) ⟨va_cnB 0 o.1.2.2.2.2 (gUc (mU 109 (by decide +kernel) rfl)) rfl rfl rfl (hO.2.2 _ (mN 107 (by decide +kernel) rfl)) (o.1.2.2.2.2 _ (mU 32 (by decide +kernel) rfl)) ⟨by decide +kernel, by decide +kernel, by decide +kernel⟩ ⟨Nat.le_of_ble_eq_true rfl, Nat.le_of_ble_eq_true rfl⟩, rfl, (o.1.2.2.2.2 _ (mU 108 (by decide +kernel) rfl))⟩ rfl (Nat.le_of_ble_eq_true rfl) hq.2 dX2_init_31 rfl (fun P31 g31 h => ?_)
  refine v_eqc (c2 := 21) (s2 := 154) (by first | rfl | omega) (by first | rfl | omega | decide) ?_
  refine v_pfR o lgX2_24 hnm h.1 dX2_init_34 ?_
  replace h := h.2
  generalize eP34 : pRef P31 a 2 (sz + 6) = P34
  replace h := h P34 eP34.symm
  refine v_widen (k := 21) (n := 154) h.1.1 h.1.2 ?_
  exact v_vretC o rfl hr dX2_init_37 h.2
abbrev kX2_init := @vX2_init
abbrev metX2_init := @mX2_init
theorem uc_X2 {P : Sk} {f : St} {a : Nat} {K : Sk → St → Prop} (ho : Ob P a 2) (hK : ∀ P2 f2, Gr P P2 f f2 a 22 → IsLoaf P2 a → K P2 f2) : kX2_init P f (a + 1) a K := by
  show vX2_init P f (a + 1) a K
  unfold vX2_init
  have G0 := Gr.refl P f a
  refine ⟨⟨G0.cok (by decide), by decide, by decide⟩, fun Q e g d => ?_⟩
  subst e d
  have N1 := gw_new 6 0 G0 (by decide) (q := a + 1 + 0) (by omega)
  refine ⟨⟨N1.cok (by decide), by decide, by decide⟩, ?_⟩
  refine uc_X6 (ob_new _ _ _ _) (fun Q2 g1 H1 I1 p1_0 p1_1 => ?_)
  have S1 := gr_sub N1 H1 (by omega) (by decide) (by decide)
  refine ⟨S1.ob ho, fun Q1 e1 => ?_⟩
  obtain ⟨G1, L1, U1, T1, R1⟩ := gr_child G0 (by decide) (by decide) (by omega) H1 (Nat.le_refl a) (by omega) e1
  have J1 : IsWord Q1 (a + 1) := I1.eq (fun x h1 h2 => U1 x (by omega))
  have r1 : sR Q1 a 0 = some (a + 1) := by rw [R1, if_pos rfl]
  refine ⟨⟨G1.cok (by decide), by decide, by decide⟩, fun Q e g d => ?_⟩
  subst e d
  have N2 := gw_new 6 0 G1 (by decide) (q := a + 1 + 3) (by omega)
  refine ⟨⟨N2.cok (by decide), by decide, by decide⟩, ?_⟩
  refine uc_X6 (ob_new _ _ _ _) (fun Q2 g2 H2 I2 p2_0 p2_1 => ?_)
  have S2 := gr_sub N2 H2 (by omega) (by decide) (by decide)
  refine ⟨S2.ob ho, fun Q2 e2 => ?_⟩
  obtain ⟨G2, L2, U2, T2, R2⟩ := gr_child G1 (by decide) (by decide) (by omega) H2 (Nat.le_refl a) (by omega) e2
  replace J1 : IsWord Q2 (a + 1) := J1.eq (fun x h1 h2 => L2 x (by omega) (by omega))
  replace p1_0 : g2 (a + 1) 1 = 2 := (congrFun (L2 (a + 1) (by omega) (by omega)).2.2.2.2 _).trans p1_0
  replace p1_1 : g2 (a + 1) 2 = 0 := (congrFun (L2 (a + 1) (by omega) (by omega)).2.2.2.2 _).trans p1_1
  replace r1 : sR Q2 a 0 = some (a + 1) := by rw [R2, if_neg (by decide)]; exact r1
  have J2 : IsWord Q2 (a + 4) := I2.eq (fun x h1 h2 => U2 x (by omega))
  have r2 : sR Q2 a 1 = some (a + 4) := by rw [R2, if_pos rfl]
  refine ⟨⟨G2.cok (by decide), by decide, by decide⟩, fun Q e g d => ?_⟩
  subst e d
  have N3 := gw_new 5 0 G2 (by decide) (q := a + 1 + 6) (by omega)
  refine ⟨⟨N3.cok (by decide), by decide, by decide⟩, ?_⟩
  refine uc_X5 (ob_new _ _ _ _) (fun Q2 g3 H3 I3 p3_0 => ?_)
  have S3 := gr_sub N3 H3 (by omega) (by decide) (by decide)
  refine ⟨S3.ob ho, fun Q3 e3 => ?_⟩
  obtain ⟨G3, L3, U3, T3, R3⟩ := gr_child G2 (by decide) (by decide) (by omega) H3 (Nat.le_refl a) (by omega) e3
  replace J1 : IsWord Q3 (a + 1) := J1.eq (fun x h1 h2 => L3 x (by omega) (by omega))
  replace p1_0 : g3 (a + 1) 1 = 2 := (congrFun (L3 (a + 1) (by omega) (by omega)).2.2.2.2 _).trans p1_0
  replace p1_1 : g3 (a + 1) 2 = 0 := (congrFun (L3 (a + 1) (by omega) (by omega)).2.2.2.2 _).trans p1_1
  replace r1 : sR Q3 a 0 = some (a + 1) := by rw [R3, if_neg (by decide)]; exact r1
  replace J2 : IsWord Q3 (a + 4) := J2.eq (fun x h1 h2 => L3 x (by omega) (by omega))
  replace p2_0 : g3 (a + 4) 1 = 2 := (congrFun (L3 (a + 4) (by omega) (by omega)).2.2.2.2 _).trans p2_0
  replace p2_1 : g3 (a + 4) 2 = 0 := (congrFun (L3 (a + 4) (by omega) (by omega)).2.2.2.2 _).trans p2_1
  replace r2 : sR Q3 a 1 = some (a + 4) := by rw [R3, if_neg (by decide)]; exact r2
  have J3 : IsTrace Q3 (a + 7) := I3.eq (fun x h1 h2 => U3 x (by omega))
  have r3 : sR Q3 a 2 = some (a + 7) := by rw [R3, if_pos rfl]
  refine ⟨⟨by decide, by decide⟩, ?_⟩
  exact hK _ _ (G3) ⟨G3.ob ho, r1, J1, r2, J2, r3, J3⟩ 
def vX4_init (P : Sk) (f : St) (sz : Nat) (a : Nat) (K : Sk → St → Prop) : Prop :=
  (COk P P sz (0) ∧ (0 + 1 ≤ 2 ∧ 0 + 1 ≤ 61)) ∧ (∀ P5 : Sk, P5 = pNew P (sz + 0) 3 0 → ∀ g5 : St, g5 = va_up f (sz + 0) z0 → (COk P P5 sz (1) ∧ (1 + 1 ≤ 2 ∧ 1 + 60 ≤ 61)) ∧ (kX3_init P5 g5 (sz + 1) (sz + 0) 60 (fun P11 g11 => (Ob P11 a 4) ∧ (∀ P14 : Sk, P14 = pRef P11 a 0 (sz + 0) → (Ob P14 a 4) ∧ (∀ g19 : St, g19 = setf g11 a 1 0 → (2 ≤ 2 ∧ 61 ≤ 61) ∧ K P14 g19)))))
abbrev rmC_X4_init : Room := { frames := 2, cells := 2, slots := 61, locals := 41 }
set_option maxRecDepth 20000 in
set_option maxHeartbeats 4000000 in
theorem mX4_init (l : Launch) (G : Gl) (P : Sk) (f : St) (sz : Nat) (a : Nat) (K : Sk → St → Prop) (h : vX4_init P f sz a K) : Met l yX4_init (wU yX4_init cX4_init 1 none) (rmC_X4_init) (PcC G P f sz [.ref a]) (QcC G P sz K) (2) (61) (frA P sz) := by
  refine v_metc (own := RX4) [.ref a] (by decide +kernel) rfl rfl (Nat.le_of_ble_eq_true rfl) (fun p e s m args below meth c hsz o hr hnm hO => ?_)
  refine v_lv (lv2 := [(0, .ref a)]) rfl ?_
  unfold vX4_init at h
  refine v_aload_n o 0 dX4_init_0 rfl ?_
  refine v_obj o (mU 55 (by decide +kernel) rfl) (mU 48 (by decide +kernel) rfl) (mU 49 (by decide +kernel) rfl) ⟨Nat.le_of_ble_eq_true rfl, Nat.le_of_ble_eq_true rfl⟩ dX4_init_1 ?_
  refine v_aload_n o 0 dX4_init_4 rfl ?_
  refine v_new o hsz rfl h.1.1.1 h.1.1.2 lnX4_9 h.1.2 dX4_init_5 ?_
  replace h := h.2
  generalize eP5 : pNew P (sz + 0) 3 0 = P5
  replace h := h P5 eP5.symm
  generalize eg5 : va_up f (sz + 0) z0 = g5
  replace h := h g5 eg5.symm
  refine v_eqc (c2 := 1) (s2 := 1) (by first | rfl | omega) (by first | rfl | omega) ?_
  refine v_dup o dX4_init_8 rfl ?_
  refine v_bipush o (v := 60) dX4_init_9 (by decide) ?_
  have hq := h.1
  replace h := h.2
  refine v_cI o hsz rfl hq.1.1 hq.1.2 hO [.int 60] [.ref (sz + 0), .ref a] (metX3_init l G P5 g5 (sz + 1) (sz + 0) 60 _ h) (cwI 1 o.1.2.2.2.2 (gUc (mU 60 (by decide +kernel) rfl)) rfl rfl rfl (o.1.2.2.2.2 _ (mU 28 (by decide +kernel) rfl)) (o.1.2.2.2.2 _ (mU 58 (by decide +kernel) rfl)) (o.1.2.2.2.2 _ (mU 59 (by decide +kernel) rfl)) rfl ⟨by decide +kernel, by decide +kernel, by decide +kernel⟩ ⟨Nat.le_of_ble_eq_true rfl, Nat.le_of_ble_eq_true rfl⟩) rfl (Nat.le_of_ble_eq_true rfl) hq.2 dX4_init_11 rfl (fun P11 g11 h => ?_)
  refine v_eqc (c2 := 2) (s2 := 61) (by first | rfl | omega) (by first | rfl | omega | decide) ?_
  refine v_pfR o lgX4_14 hnm h.1 dX4_init_14 ?_
  replace h := h.2
  generalize eP14 : pRef P11 a 0 (sz + 0) = P14
  replace h := h P14 eP14.symm
  refine v_aload_n o 0 dX4_init_17 rfl ?_
  refine v_iconst o (v := 0) dX4_init_18 (by decide) ?_
  refine v_pf o lpX4_20 h.1 ⟨rfl, rfl⟩ dX4_init_19 ?_
  replace h := h.2
  generalize eg19 : setf g11 a 1 0 = g19
  replace h := h g19 eg19.symm
  refine v_widen (k := 2) (n := 61) h.1.1 h.1.2 ?_
  exact v_vretC o rfl hr dX4_init_22 h.2
abbrev kX4_init := @vX4_init
abbrev metX4_init := @mX4_init
theorem uc_X4 {P : Sk} {f : St} {a : Nat} {K : Sk → St → Prop} (ho : Ob P a 4) (hK : ∀ P2 f2, Gr P P2 f f2 a 3 → IsText P2 a → f2 a 1 = 0 → K P2 f2) : kX4_init P f (a + 1) a K := by
  show vX4_init P f (a + 1) a K
  unfold vX4_init
  have G0 := Gr.refl P f a
  refine ⟨⟨G0.cok (by decide), by decide, by decide⟩, fun Q e g d => ?_⟩
  subst e d
  have N1 := gw_new 3 0 G0 (by decide) (q := a + 1 + 0) (by omega)
  refine ⟨⟨N1.cok (by decide), by decide, by decide⟩, ?_⟩
  refine uc_X3 (L := 60) (ob_new _ _ _ _) (by decide) (by decide) (by decide) (fun Q2 g1 H1 I1 n1 => ?_)
  have S1 := gr_sub N1 H1 (by omega) (by decide) (by decide)
  refine ⟨S1.ob ho, fun Q1 e1 => ?_⟩
  obtain ⟨G1, L1, U1, T1, R1⟩ := gr_child G0 (by decide) (by decide) (by omega) H1 (Nat.le_refl a) (by omega) e1
  have J1 : IsRow Q1 (a + 1) := I1.eq (fun x h1 h2 => U1 x (by omega))
  have m1 : sN Q1 (a + 1 + 1) = 60 := (U1 _ (by omega)).2.2.1.trans n1
  have r1 : sR Q1 a 0 = some (a + 1) := by rw [R1, if_pos rfl]
  refine ⟨G1.ob ho, fun s0 d0' => ?_⟩
  refine ⟨⟨by decide, by decide⟩, ?_⟩
  subst d0'
  exact hK _ _ ((G1).set (Nat.le_refl a)) ⟨G1.ob ho, r1, J1, m1⟩ (by rw [setf_same])
