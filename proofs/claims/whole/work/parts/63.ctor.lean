def vX7_init (P : Sk) (f : St) (sz : Nat) (a : Nat) (K : Sk → St → Prop) : Prop :=
  (COk P P sz (0) ∧ (0 + 1 ≤ 1437 ∧ 0 + 2 ≤ 10285)) ∧ (∀ P5 : Sk, P5 = pNew P (sz + 0) 4 0 → ∀ g5 : St, g5 = va_up f (sz + 0) z0 → (COk P P5 sz (1) ∧ (1 + 2 ≤ 1437 ∧ 2 + 61 ≤ 10285)) ∧ (kX4_init P5 g5 (sz + 1) (sz + 0)  (fun P9 g9 => (Ob P9 a 7) ∧ (∀ P12 : Sk, P12 = pRef P9 a 0 (sz + 0) → (COk P P12 sz (3) ∧ (3 + 1 ≤ 1437 ∧ 63 + 6 ≤ 10285)) ∧ (∀ P16 : Sk, P16 = pNew P12 (sz + 3) 0 0 → ∀ g16 : St, g16 = va_up g9 (sz + 3) z0 → (COk P P16 sz (4) ∧ (4 + 155 ≤ 1437 ∧ 69 + 1105 ≤ 10285)) ∧ (kX0_init P16 g16 (sz + 4) (sz + 3)  (fun P20 g20 => (Ob P20 a 7) ∧ (∀ P23 : Sk, P23 = pRef P20 a 1 (sz + 3) → (COk P P23 sz (159) ∧ (159 + 1 ≤ 1437 ∧ 1174 + 4 ≤ 10285)) ∧ (∀ P27 : Sk, P27 = pNew P23 (sz + 159) 1 0 → ∀ g27 : St, g27 = va_up g20 (sz + 159) z0 → (COk P P27 sz (160) ∧ (160 + 1093 ≤ 1437 ∧ 1178 + 7783 ≤ 10285)) ∧ (kX1_init P27 g27 (sz + 160) (sz + 159)  (fun P31 g31 => (Ob P31 a 7) ∧ (∀ P34 : Sk, P34 = pRef P31 a 2 (sz + 159) → (COk P P34 sz (1253) ∧ (1253 + 1 ≤ 1437 ∧ 8961 + 6 ≤ 10285)) ∧ (∀ P38 : Sk, P38 = pNew P34 (sz + 1253) 0 0 → ∀ g38 : St, g38 = va_up g31 (sz + 1253) z0 → (COk P P38 sz (1254) ∧ (1254 + 155 ≤ 1437 ∧ 8967 + 1105 ≤ 10285)) ∧ (kX0_init P38 g38 (sz + 1254) (sz + 1253)  (fun P42 g42 => (Ob P42 a 7) ∧ (∀ P45 : Sk, P45 = pRef P42 a 3 (sz + 1253) → (Ob P45 a 7) ∧ (∀ g50 : St, g50 = setf g42 a 4 0 → (COk P P45 sz (1409) ∧ (1409 + 1 ≤ 1437 ∧ 10072 + 3 ≤ 10285)) ∧ (∀ P54 : Sk, P54 = pNew P45 (sz + 1409) 2 0 → ∀ g54 : St, g54 = va_up g50 (sz + 1409) z0 → (COk P P54 sz (1410) ∧ (1410 + 21 ≤ 1437 ∧ 10075 + 154 ≤ 10285)) ∧ (kX2_init P54 g54 (sz + 1410) (sz + 1409)  (fun P58 g58 => (Ob P58 a 7) ∧ (∀ P61 : Sk, P61 = pRef P58 a 5 (sz + 1409) → (COk P P61 sz (1431) ∧ (1431 + 1 ≤ 1437 ∧ 10229 + 3 ≤ 10285)) ∧ (∀ P65 : Sk, P65 = pNew P61 (sz + 1431) 6 0 → ∀ g65 : St, g65 = va_up g58 (sz + 1431) z0 → (COk P P65 sz (1432) ∧ (1432 + 2 ≤ 1437 ∧ 10232 + 25 ≤ 10285)) ∧ (kX6_init P65 g65 (sz + 1432) (sz + 1431)  (fun P69 g69 => (Ob P69 a 7) ∧ (∀ P72 : Sk, P72 = pRef P69 a 6 (sz + 1431) → (COk P P72 sz (1434) ∧ (1434 + 1 ≤ 1437 ∧ 10257 + 3 ≤ 10285)) ∧ (∀ P76 : Sk, P76 = pNew P72 (sz + 1434) 6 0 → ∀ g76 : St, g76 = va_up g69 (sz + 1434) z0 → (COk P P76 sz (1435) ∧ (1435 + 2 ≤ 1437 ∧ 10260 + 25 ≤ 10285)) ∧ (kX6_init P76 g76 (sz + 1435) (sz + 1434)  (fun P80 g80 => (Ob P80 a 7) ∧ (∀ P83 : Sk, P83 = pRef P80 a 7 (sz + 1434) → (1437 ≤ 1437 ∧ 10285 ≤ 10285) ∧ K P83 g80)))))))))))))))))))))))))))))
abbrev rmC_X7_init : Room := { frames := 6, cells := 1437, slots := 10285, locals := 123 }
set_option maxRecDepth 20000 in
set_option maxHeartbeats 4000000 in
theorem mX7_init (l : Launch) (G : Gl) (P : Sk) (f : St) (sz : Nat) (a : Nat) (K : Sk → St → Prop) (h : vX7_init P f sz a K) : Met l yX7_init (wU yX7_init cX7_init 1 none) (rmC_X7_init) (PcC G P f sz [.ref a]) (QcC G P sz K) (1437) (10285) (frA P sz) := by
  refine v_metc (own := RX7) [.ref a] (by decide +kernel) rfl rfl (Nat.le_of_ble_eq_true rfl) (fun p e s m args below meth c hsz o hr hnm hO => ?_)
  refine v_lv (lv2 := [(0, .ref a)]) rfl ?_
  unfold vX7_init at h
  refine v_aload_n o 0 dX7_init_0 rfl ?_
  refine v_obj o (mU 105 (by decide +kernel) rfl) (mU 106 (by decide +kernel) rfl) (mU 107 (by decide +kernel) rfl) ⟨Nat.le_of_ble_eq_true rfl, Nat.le_of_ble_eq_true rfl⟩ dX7_init_1 ?_
  refine v_aload_n o 0 dX7_init_4 rfl ?_
  refine v_new o hsz rfl h.1.1.1 h.1.1.2 lnX7_7 h.1.2 dX7_init_5 ?_
  replace h := h.2
  generalize eP5 : pNew P (sz + 0) 4 0 = P5
  replace h := h P5 eP5.symm
  generalize eg5 : va_up f (sz + 0) z0 = g5
  replace h := h g5 eg5.symm
  refine v_eqc (c2 := 1) (s2 := 2) (by first | rfl | omega) (by first | rfl | omega) ?_
  refine v_dup o dX7_init_8 rfl ?_
  have hq := h.1
  replace h := h.2
  refine v_cIN (host := "StrandLoaves") o hsz rfl hq.1.1 hq.1.2 hO [] [.ref (sz + 0), .ref a] (metX4_init l G P5 g5 (sz + 1) (sz + 0)  _ h) ⟨va_cnB 0 o.1.2.2.2.2 (gUc (mU 112 (by decide +kernel) rfl)) rfl rfl rfl (hO.2.2 _ (mN 110 (by decide +kernel) rfl)) (o.1.2.2.2.2 _ (mU 83 (by decide +kernel) rfl)) ⟨by decide +kernel, by decide +kernel, by decide +kernel⟩ ⟨Nat.le_of_ble_eq_true rfl, Nat.le_of_ble_eq_true rfl⟩, rfl, (o.1.2.2.2.2 _ (mU 111 (by decide +kernel) rfl))⟩ rfl (Nat.le_of_ble_eq_true rfl) hq.2 dX7_init_9 rfl (fun P9 g9 h => ?_)
  refine v_eqc (c2 := 3) (s2 := 63) (by first | rfl | omega) (by first | rfl | omega | decide) ?_
  refine v_pfR o lgX7_10 hnm h.1 dX7_init_12 ?_
  replace h := h.2
  generalize eP12 : pRef P9 a 0 (sz + 0) = P12
  replace h := h P12 eP12.symm
  refine v_aload_n o 0 dX7_init_15 rfl ?_
  refine v_new o hsz rfl h.1.1.1 h.1.1.2 lnX7_16 h.1.2 dX7_init_16 ?_
  replace h := h.2
  generalize eP16 : pNew P12 (sz + 3) 0 0 = P16
  replace h := h P16 eP16.symm
  generalize eg16 : va_up g9 (sz + 3) z0 = g16
  replace h := h g16 eg16.symm
  refine v_eqc (c2 := 4) (s2 := 69) (by first | rfl | omega) (by first | rfl | omega) ?_
  refine v_dup o dX7_init_19 rfl ?_
  have hq := h.1
  replace h := h.2
  refine v_cI o hsz rfl hq.1.1 hq.1.2 hO [] [.ref (sz + 3), .ref a] (metX0_init l G P16 g16 (sz + 4) (sz + 3)  _ h) (cwI 0 o.1.2.2.2.2 (gUc (mU 136 (by decide +kernel) rfl)) rfl rfl rfl (o.1.2.2.2.2 _ (mU 85 (by decide +kernel) rfl)) (o.1.2.2.2.2 _ (mU 134 (by decide +kernel) rfl)) (o.1.2.2.2.2 _ (mU 135 (by decide +kernel) rfl)) rfl ⟨by decide +kernel, by decide +kernel, by decide +kernel⟩ ⟨Nat.le_of_ble_eq_true rfl, Nat.le_of_ble_eq_true rfl⟩) rfl (Nat.le_of_ble_eq_true rfl) hq.2 dX7_init_20 rfl (fun P20 g20 h => ?_)
  refine v_eqc (c2 := 159) (s2 := 1174) (by first | rfl | omega) (by first | rfl | omega | decide) ?_
  refine v_pfR o lgX7_19 hnm h.1 dX7_init_23 ?_
  replace h := h.2
  generalize eP23 : pRef P20 a 1 (sz + 3) = P23
  replace h := h P23 eP23.symm
  refine v_aload_n o 0 dX7_init_26 rfl ?_
  refine v_new o hsz rfl h.1.1.1 h.1.1.2 lnX7_23 h.1.2 dX7_init_27 ?_
  replace h := h.2
  generalize eP27 : pNew P23 (sz + 159) 1 0 = P27
  replace h := h P27 eP27.symm
  generalize eg27 : va_up g20 (sz + 159) z0 = g27
  replace h := h g27 eg27.symm
  refine v_eqc (c2 := 160) (s2 := 1178) (by first | rfl | omega) (by first | rfl | omega) ?_
  refine v_dup o dX7_init_30 rfl ?_
  have hq := h.1
  replace h := h.2
  refine v_cI o hsz rfl hq.1.1 hq.1.2 hO [] [.ref (sz + 159), .ref a] (metX1_init l G P27 g27 (sz + 160) (sz + 159)  _ h) (cwI 0 o.1.2.2.2.2 (gUc (mU 229 (by decide +kernel) rfl)) rfl rfl rfl (o.1.2.2.2.2 _ (mU 89 (by decide +kernel) rfl)) (o.1.2.2.2.2 _ (mU 227 (by decide +kernel) rfl)) (o.1.2.2.2.2 _ (mU 228 (by decide +kernel) rfl)) rfl ⟨by decide +kernel, by decide +kernel, by decide +kernel⟩ ⟨Nat.le_of_ble_eq_true rfl, Nat.le_of_ble_eq_true rfl⟩) rfl (Nat.le_of_ble_eq_true rfl) hq.2 dX7_init_31 rfl (fun P31 g31 h => ?_)
  refine v_eqc (c2 := 1253) (s2 := 8961) (by first | rfl | omega) (by first | rfl | omega | decide) ?_
  refine v_pfR o lgX7_26 hnm h.1 dX7_init_34 ?_
  replace h := h.2
  generalize eP34 : pRef P31 a 2 (sz + 159) = P34
  replace h := h P34 eP34.symm
  refine v_aload_n o 0 dX7_init_37 rfl ?_
  refine v_new o hsz rfl h.1.1.1 h.1.1.2 lnX7_16 h.1.2 dX7_init_38 ?_
  replace h := h.2
  generalize eP38 : pNew P34 (sz + 1253) 0 0 = P38
  replace h := h P38 eP38.symm
  generalize eg38 : va_up g31 (sz + 1253) z0 = g38
  replace h := h g38 eg38.symm
  refine v_eqc (c2 := 1254) (s2 := 8967) (by first | rfl | omega) (by first | rfl | omega) ?_
  refine v_dup o dX7_init_41 rfl ?_
  have hq := h.1
  replace h := h.2
  refine v_cI o hsz rfl hq.1.1 hq.1.2 hO [] [.ref (sz + 1253), .ref a] (metX0_init l G P38 g38 (sz + 1254) (sz + 1253)  _ h) (cwI 0 o.1.2.2.2.2 (gUc (mU 136 (by decide +kernel) rfl)) rfl rfl rfl (o.1.2.2.2.2 _ (mU 85 (by decide +kernel) rfl)) (o.1.2.2.2.2 _ (mU 134 (by decide +kernel) rfl)) (o.1.2.2.2.2 _ (mU 135 (by decide +kernel) rfl)) rfl ⟨by decide +kernel, by decide +kernel, by decide +kernel⟩ ⟨Nat.le_of_ble_eq_true rfl, Nat.le_of_ble_eq_true rfl⟩) rfl (Nat.le_of_ble_eq_true rfl) hq.2 dX7_init_42 rfl (fun P42 g42 h => ?_)
  refine v_eqc (c2 := 1409) (s2 := 10072) (by first | rfl | omega) (by first | rfl | omega | decide) ?_
  refine v_pfR o lgX7_30 hnm h.1 dX7_init_45 ?_
  replace h := h.2
  generalize eP45 : pRef P42 a 3 (sz + 1253) = P45
  replace h := h P45 eP45.symm
  refine v_aload_n o 0 dX7_init_48 rfl ?_
  refine v_iconst o (v := 0) dX7_init_49 (by decide) ?_
  refine v_pf o lpX7_33 h.1 bz0 dX7_init_50 ?_
  replace h := h.2
  generalize eg50 : setf g42 a 4 0 = g50
  replace h := h g50 eg50.symm
  refine v_aload_n o 0 dX7_init_53 rfl ?_
  refine v_new o hsz rfl h.1.1.1 h.1.1.2 lnX7_37 h.1.2 dX7_init_54 ?_
  replace h := h.2
  generalize eP54 : pNew P45 (sz + 1409) 2 0 = P54
  replace h := h P54 eP54.symm
  generalize eg54 : va_up g50 (sz + 1409) z0 = g54
  replace h := h g54 eg54.symm
  refine v_eqc (c2 := 1410) (s2 := 10075) (by first | rfl | omega) (by first | rfl | omega) ?_
  refine v_dup o dX7_init_57 rfl ?_
  have hq := h.1
  replace h := h.2
  refine v_cIN (host := "StrandLoaves") o hsz rfl hq.1.1 hq.1.2 hO [] [.ref (sz + 1409), .ref a] (metX2_init l G P54 g54 (sz + 1410) (sz + 1409)  _ h) ⟨va_cnB 0 o.1.2.2.2.2 (gUc (mU 143 (by decide +kernel) rfl)) rfl rfl rfl (hO.2.2 _ (mN 248 (by decide +kernel) rfl)) (o.1.2.2.2.2 _ (mU 86 (by decide +kernel) rfl)) ⟨by decide +kernel, by decide +kernel, by decide +kernel⟩ ⟨Nat.le_of_ble_eq_true rfl, Nat.le_of_ble_eq_true rfl⟩, rfl, (o.1.2.2.2.2 _ (mU 142 (by decide +kernel) rfl))⟩ rfl (Nat.le_of_ble_eq_true rfl) hq.2 dX7_init_58 rfl (fun P58 g58 h => ?_)
  refine v_eqc (c2 := 1431) (s2 := 10229) (by first | rfl | omega) (by first | rfl | omega | decide) ?_
  refine v_pfR o lgX7_40 hnm h.1 dX7_init_61 ?_
  replace h := h.2
  generalize eP61 : pRef P58 a 5 (sz + 1409) = P61
  replace h := h P61 eP61.symm
  refine v_aload_n o 0 dX7_init_64 rfl ?_
  refine v_new o hsz rfl h.1.1.1 h.1.1.2 lnX7_44 h.1.2 dX7_init_65 ?_
  replace h := h.2
  generalize eP65 : pNew P61 (sz + 1431) 6 0 = P65
  replace h := h P65 eP65.symm
  generalize eg65 : va_up g58 (sz + 1431) z0 = g65
  replace h := h g65 eg65.symm
  refine v_eqc (c2 := 1432) (s2 := 10232) (by first | rfl | omega) (by first | rfl | omega) ?_
  refine v_dup o dX7_init_68 rfl ?_
  have hq := h.1
  replace h := h.2
  refine v_cIN (host := "StrandLoaves") o hsz rfl hq.1.1 hq.1.2 hO [] [.ref (sz + 1431), .ref a] (metX6_init l G P65 g65 (sz + 1432) (sz + 1431)  _ h) ⟨va_cnB 0 o.1.2.2.2.2 (gUc (mU 149 (by decide +kernel) rfl)) rfl rfl rfl (hO.2.2 _ (mN 250 (by decide +kernel) rfl)) (o.1.2.2.2.2 _ (mU 87 (by decide +kernel) rfl)) ⟨by decide +kernel, by decide +kernel, by decide +kernel⟩ ⟨Nat.le_of_ble_eq_true rfl, Nat.le_of_ble_eq_true rfl⟩, rfl, (o.1.2.2.2.2 _ (mU 148 (by decide +kernel) rfl))⟩ rfl (Nat.le_of_ble_eq_true rfl) hq.2 dX7_init_69 rfl (fun P69 g69 h => ?_)
  refine v_eqc (c2 := 1434) (s2 := 10257) (by first | rfl | omega) (by first | rfl | omega | decide) ?_
  refine v_pfR o lgX7_47 hnm h.1 dX7_init_72 ?_
  replace h := h.2
  generalize eP72 : pRef P69 a 6 (sz + 1431) = P72
  replace h := h P72 eP72.symm
  refine v_aload_n o 0 dX7_init_75 rfl ?_
  refine v_new o hsz rfl h.1.1.1 h.1.1.2 lnX7_44 h.1.2 dX7_init_76 ?_
  replace h := h.2
  generalize eP76 : pNew P72 (sz + 1434) 6 0 = P76
  replace h := h P76 eP76.symm
  generalize eg76 : va_up g69 (sz + 1434) z0 = g76
  replace h := h g76 eg76.symm
  refine v_eqc (c2 := 1435) (s2 := 10260) (by first | rfl | omega) (by first | rfl | omega) ?_
  refine v_dup o dX7_init_79 rfl ?_
  have hq := h.1
  replace h := h.2
  refine v_cIN (host := "StrandLoaves") o hsz rfl hq.1.1 hq.1.2 hO [] [.ref (sz + 1434), .ref a] (metX6_init l G P76 g76 (sz + 1435) (sz + 1434)  _ h) ⟨va_cnB 0 o.1.2.2.2.2 (gUc (mU 149 (by decide +kernel) rfl)) rfl rfl rfl (hO.2.2 _ (mN 250 (by decide +kernel) rfl)) (o.1.2.2.2.2 _ (mU 87 (by decide +kernel) rfl)) ⟨by decide +kernel, by decide +kernel, by decide +kernel⟩ ⟨Nat.le_of_ble_eq_true rfl, Nat.le_of_ble_eq_true rfl⟩, rfl, (o.1.2.2.2.2 _ (mU 148 (by decide +kernel) rfl))⟩ rfl (Nat.le_of_ble_eq_true rfl) hq.2 dX7_init_80 rfl (fun P80 g80 h => ?_)
  refine v_eqc (c2 := 1437) (s2 := 10285) (by first | rfl | omega) (by first | rfl | omega | decide) ?_
  refine v_pfR o lgX7_51 hnm h.1 dX7_init_83 ?_
  replace h := h.2
  generalize eP83 : pRef P80 a 7 (sz + 1434) = P83
  replace h := h P83 eP83.symm
  refine v_widen (k := 1437) (n := 10285) h.1.1 h.1.2 ?_
  exact v_vretC o rfl hr dX7_init_86 h.2
abbrev kX7_init := @vX7_init
abbrev metX7_init := @mX7_init
theorem uc_X7 {P : Sk} {f : St} {a : Nat} {K : Sk → St → Prop} (ho : Ob P a 7) (hK : ∀ P2 f2, Gr P P2 f f2 a 1438 → IsComp P2 a → f2 (a + 1) 1 = 0 → f2 (a + 4) 2 = 0 → f2 (a + 4) 3 = 0 → f2 (a + 4) 4 = (-1) → f2 (a + 4) 5 = (-1) → f2 (a + 160) 2 = 0 → f2 (a + 160) 3 = 0 → f2 a 4 = 0 → K P2 f2) : kX7_init P f (a + 1) a K := by
  show vX7_init P f (a + 1) a K
  unfold vX7_init
  have G0 := Gr.refl P f a
  refine ⟨⟨G0.cok (by decide), by decide, by decide⟩, fun Q e g d => ?_⟩
  subst e d
  have N1 := gw_new 4 0 G0 (by decide) (q := a + 1 + 0) (by omega)
  refine ⟨⟨N1.cok (by decide), by decide, by decide⟩, ?_⟩
  refine uc_X4 (ob_new _ _ _ _) (fun Q2 g1 H1 I1 p1_0 => ?_)
  have S1 := gr_sub N1 H1 (by omega) (by decide) (by decide)
  refine ⟨S1.ob ho, fun Q1 e1 => ?_⟩
  obtain ⟨G1, L1, U1, T1, R1⟩ := gr_child G0 (by decide) (by decide) (by omega) H1 (Nat.le_refl a) (by omega) e1
  have J1 : IsText Q1 (a + 1) := I1.eq (fun x h1 h2 => U1 x (by omega))
  have r1 : sR Q1 a 0 = some (a + 1) := by rw [R1, if_pos rfl]
  refine ⟨⟨G1.cok (by decide), by decide, by decide⟩, fun Q e g d => ?_⟩
  subst e d
  have N2 := gw_new 0 0 G1 (by decide) (q := a + 1 + 3) (by omega)
  refine ⟨⟨N2.cok (by decide), by decide, by decide⟩, ?_⟩
  refine ⟨rfl, ob_new _ _ _ _, fun Q2 g2 H2 I2 p2_0 p2_1 p2_2 p2_3 => ?_⟩
  have S2 := gr_sub N2 H2 (by omega) (by decide) (by decide)
  refine ⟨S2.ob ho, fun Q2 e2 => ?_⟩
  obtain ⟨G2, L2, U2, T2, R2⟩ := gr_child G1 (by decide) (by decide) (by omega) H2 (Nat.le_refl a) (by omega) e2
  replace J1 : IsText Q2 (a + 1) := J1.eq (fun x h1 h2 => L2 x (by omega) (by omega))
  replace p1_0 : g2 (a + 1) 1 = 0 := (congrFun (L2 (a + 1) (by omega) (by omega)).2.2.2.2 _).trans p1_0
  replace r1 : sR Q2 a 0 = some (a + 1) := by rw [R2, if_neg (by decide)]; exact r1
  have J2 : IsBoard Q2 (a + 4) := I2.eq (fun x h1 h2 => U2 x (by omega))
  have r2 : sR Q2 a 1 = some (a + 4) := by rw [R2, if_pos rfl]
  refine ⟨⟨G2.cok (by decide), by decide, by decide⟩, fun Q e g d => ?_⟩
  subst e d
  have N3 := gw_new 1 0 G2 (by decide) (q := a + 1 + 159) (by omega)
  refine ⟨⟨N3.cok (by decide), by decide, by decide⟩, ?_⟩
  refine ⟨rfl, ob_new _ _ _ _, fun Q2 g3 H3 I3 p3_0 p3_1 => ?_⟩
  have S3 := gr_sub N3 H3 (by omega) (by decide) (by decide)
  refine ⟨S3.ob ho, fun Q3 e3 => ?_⟩
  obtain ⟨G3, L3, U3, T3, R3⟩ := gr_child G2 (by decide) (by decide) (by omega) H3 (Nat.le_refl a) (by omega) e3
  replace J1 : IsText Q3 (a + 1) := J1.eq (fun x h1 h2 => L3 x (by omega) (by omega))
  replace p1_0 : g3 (a + 1) 1 = 0 := (congrFun (L3 (a + 1) (by omega) (by omega)).2.2.2.2 _).trans p1_0
  replace r1 : sR Q3 a 0 = some (a + 1) := by rw [R3, if_neg (by decide)]; exact r1
  replace J2 : IsBoard Q3 (a + 4) := J2.eq (fun x h1 h2 => L3 x (by omega) (by omega))
  replace p2_0 : g3 (a + 4) 2 = 0 := (congrFun (L3 (a + 4) (by omega) (by omega)).2.2.2.2 _).trans p2_0
  replace p2_1 : g3 (a + 4) 3 = 0 := (congrFun (L3 (a + 4) (by omega) (by omega)).2.2.2.2 _).trans p2_1
  replace p2_2 : g3 (a + 4) 4 = (-1) := (congrFun (L3 (a + 4) (by omega) (by omega)).2.2.2.2 _).trans p2_2
  replace p2_3 : g3 (a + 4) 5 = (-1) := (congrFun (L3 (a + 4) (by omega) (by omega)).2.2.2.2 _).trans p2_3
  replace r2 : sR Q3 a 1 = some (a + 4) := by rw [R3, if_neg (by decide)]; exact r2
  have J3 : IsHist Q3 (a + 160) := I3.eq (fun x h1 h2 => U3 x (by omega))
  have r3 : sR Q3 a 2 = some (a + 160) := by rw [R3, if_pos rfl]
  refine ⟨⟨G3.cok (by decide), by decide, by decide⟩, fun Q e g d => ?_⟩
  subst e d
  have N4 := gw_new 0 0 G3 (by decide) (q := a + 1 + 1253) (by omega)
  refine ⟨⟨N4.cok (by decide), by decide, by decide⟩, ?_⟩
  refine ⟨rfl, ob_new _ _ _ _, fun Q2 g4 H4 I4 p4_0 p4_1 p4_2 p4_3 => ?_⟩
  have S4 := gr_sub N4 H4 (by omega) (by decide) (by decide)
  refine ⟨S4.ob ho, fun Q4 e4 => ?_⟩
  obtain ⟨G4, L4, U4, T4, R4⟩ := gr_child G3 (by decide) (by decide) (by omega) H4 (Nat.le_refl a) (by omega) e4
  replace J1 : IsText Q4 (a + 1) := J1.eq (fun x h1 h2 => L4 x (by omega) (by omega))
  replace p1_0 : g4 (a + 1) 1 = 0 := (congrFun (L4 (a + 1) (by omega) (by omega)).2.2.2.2 _).trans p1_0
  replace r1 : sR Q4 a 0 = some (a + 1) := by rw [R4, if_neg (by decide)]; exact r1
  replace J2 : IsBoard Q4 (a + 4) := J2.eq (fun x h1 h2 => L4 x (by omega) (by omega))
  replace p2_0 : g4 (a + 4) 2 = 0 := (congrFun (L4 (a + 4) (by omega) (by omega)).2.2.2.2 _).trans p2_0
  replace p2_1 : g4 (a + 4) 3 = 0 := (congrFun (L4 (a + 4) (by omega) (by omega)).2.2.2.2 _).trans p2_1
  replace p2_2 : g4 (a + 4) 4 = (-1) := (congrFun (L4 (a + 4) (by omega) (by omega)).2.2.2.2 _).trans p2_2
  replace p2_3 : g4 (a + 4) 5 = (-1) := (congrFun (L4 (a + 4) (by omega) (by omega)).2.2.2.2 _).trans p2_3
  replace r2 : sR Q4 a 1 = some (a + 4) := by rw [R4, if_neg (by decide)]; exact r2
  replace J3 : IsHist Q4 (a + 160) := J3.eq (fun x h1 h2 => L4 x (by omega) (by omega))
  replace p3_0 : g4 (a + 160) 2 = 0 := (congrFun (L4 (a + 160) (by omega) (by omega)).2.2.2.2 _).trans p3_0
  replace p3_1 : g4 (a + 160) 3 = 0 := (congrFun (L4 (a + 160) (by omega) (by omega)).2.2.2.2 _).trans p3_1
  replace r3 : sR Q4 a 2 = some (a + 160) := by rw [R4, if_neg (by decide)]; exact r3
  have J4 : IsBoard Q4 (a + 1254) := I4.eq (fun x h1 h2 => U4 x (by omega))
  have r4 : sR Q4 a 3 = some (a + 1254) := by rw [R4, if_pos rfl]
  refine ⟨G4.ob ho, fun s0 ds0 => ?_⟩
  have V4 : s0 a 4 = 0 := by rw [ds0, setf_same]
  have Gs := G4.set (t := a) (j := 4) (v := 0) (Nat.le_refl a)
  rw [← ds0] at Gs
  replace p1_0 : s0 (a + 1) 1 = 0 := by rw [ds0, setf_off (Or.inl (by omega))]; exact p1_0
  replace p2_0 : s0 (a + 4) 2 = 0 := by rw [ds0, setf_off (Or.inl (by omega))]; exact p2_0
  replace p2_1 : s0 (a + 4) 3 = 0 := by rw [ds0, setf_off (Or.inl (by omega))]; exact p2_1
  replace p2_2 : s0 (a + 4) 4 = (-1) := by rw [ds0, setf_off (Or.inl (by omega))]; exact p2_2
  replace p2_3 : s0 (a + 4) 5 = (-1) := by rw [ds0, setf_off (Or.inl (by omega))]; exact p2_3
  replace p3_0 : s0 (a + 160) 2 = 0 := by rw [ds0, setf_off (Or.inl (by omega))]; exact p3_0
  replace p3_1 : s0 (a + 160) 3 = 0 := by rw [ds0, setf_off (Or.inl (by omega))]; exact p3_1
  replace p4_0 : s0 (a + 1254) 2 = 0 := by rw [ds0, setf_off (Or.inl (by omega))]; exact p4_0
  replace p4_1 : s0 (a + 1254) 3 = 0 := by rw [ds0, setf_off (Or.inl (by omega))]; exact p4_1
  replace p4_2 : s0 (a + 1254) 4 = (-1) := by rw [ds0, setf_off (Or.inl (by omega))]; exact p4_2
  replace p4_3 : s0 (a + 1254) 5 = (-1) := by rw [ds0, setf_off (Or.inl (by omega))]; exact p4_3
  clear ds0
  replace G4 := Gs
  refine ⟨⟨G4.cok (by decide), by decide, by decide⟩, fun Q e g d => ?_⟩
  subst e d
  have N5 := gw_new 2 0 G4 (by decide) (q := a + 1 + 1409) (by omega)
  refine ⟨⟨N5.cok (by decide), by decide, by decide⟩, ?_⟩
  refine uc_X2 (ob_new _ _ _ _) (fun Q2 g5 H5 I5  => ?_)
  have S5 := gr_sub N5 H5 (by omega) (by decide) (by decide)
  refine ⟨S5.ob ho, fun Q5 e5 => ?_⟩
  obtain ⟨G5, L5, U5, T5, R5⟩ := gr_child G4 (by decide) (by decide) (by omega) H5 (Nat.le_refl a) (by omega) e5
  replace J1 : IsText Q5 (a + 1) := J1.eq (fun x h1 h2 => L5 x (by omega) (by omega))
  replace p1_0 : g5 (a + 1) 1 = 0 := (congrFun (L5 (a + 1) (by omega) (by omega)).2.2.2.2 _).trans p1_0
  replace r1 : sR Q5 a 0 = some (a + 1) := by rw [R5, if_neg (by decide)]; exact r1
  replace J2 : IsBoard Q5 (a + 4) := J2.eq (fun x h1 h2 => L5 x (by omega) (by omega))
  replace p2_0 : g5 (a + 4) 2 = 0 := (congrFun (L5 (a + 4) (by omega) (by omega)).2.2.2.2 _).trans p2_0
  replace p2_1 : g5 (a + 4) 3 = 0 := (congrFun (L5 (a + 4) (by omega) (by omega)).2.2.2.2 _).trans p2_1
  replace p2_2 : g5 (a + 4) 4 = (-1) := (congrFun (L5 (a + 4) (by omega) (by omega)).2.2.2.2 _).trans p2_2
  replace p2_3 : g5 (a + 4) 5 = (-1) := (congrFun (L5 (a + 4) (by omega) (by omega)).2.2.2.2 _).trans p2_3
  replace r2 : sR Q5 a 1 = some (a + 4) := by rw [R5, if_neg (by decide)]; exact r2
  replace J3 : IsHist Q5 (a + 160) := J3.eq (fun x h1 h2 => L5 x (by omega) (by omega))
  replace p3_0 : g5 (a + 160) 2 = 0 := (congrFun (L5 (a + 160) (by omega) (by omega)).2.2.2.2 _).trans p3_0
  replace p3_1 : g5 (a + 160) 3 = 0 := (congrFun (L5 (a + 160) (by omega) (by omega)).2.2.2.2 _).trans p3_1
  replace r3 : sR Q5 a 2 = some (a + 160) := by rw [R5, if_neg (by decide)]; exact r3
  replace J4 : IsBoard Q5 (a + 1254) := J4.eq (fun x h1 h2 => L5 x (by omega) (by omega))
  replace p4_0 : g5 (a + 1254) 2 = 0 := (congrFun (L5 (a + 1254) (by omega) (by omega)).2.2.2.2 _).trans p4_0
  replace p4_1 : g5 (a + 1254) 3 = 0 := (congrFun (L5 (a + 1254) (by omega) (by omega)).2.2.2.2 _).trans p4_1
  replace p4_2 : g5 (a + 1254) 4 = (-1) := (congrFun (L5 (a + 1254) (by omega) (by omega)).2.2.2.2 _).trans p4_2
  replace p4_3 : g5 (a + 1254) 5 = (-1) := (congrFun (L5 (a + 1254) (by omega) (by omega)).2.2.2.2 _).trans p4_3
  replace r4 : sR Q5 a 3 = some (a + 1254) := by rw [R5, if_neg (by decide)]; exact r4
  replace V4 : g5 a 4 = 0 := (congrFun T5.2.2.2 _).trans V4
  have J5 : IsLoaf Q5 (a + 1410) := I5.eq (fun x h1 h2 => U5 x (by omega))
  have r5 : sR Q5 a 5 = some (a + 1410) := by rw [R5, if_pos rfl]
  refine ⟨⟨G5.cok (by decide), by decide, by decide⟩, fun Q e g d => ?_⟩
  subst e d
  have N6 := gw_new 6 0 G5 (by decide) (q := a + 1 + 1431) (by omega)
  refine ⟨⟨N6.cok (by decide), by decide, by decide⟩, ?_⟩
  refine uc_X6 (ob_new _ _ _ _) (fun Q2 g6 H6 I6 p6_0 p6_1 => ?_)
  have S6 := gr_sub N6 H6 (by omega) (by decide) (by decide)
  refine ⟨S6.ob ho, fun Q6 e6 => ?_⟩
  obtain ⟨G6, L6, U6, T6, R6⟩ := gr_child G5 (by decide) (by decide) (by omega) H6 (Nat.le_refl a) (by omega) e6
  replace J1 : IsText Q6 (a + 1) := J1.eq (fun x h1 h2 => L6 x (by omega) (by omega))
  replace p1_0 : g6 (a + 1) 1 = 0 := (congrFun (L6 (a + 1) (by omega) (by omega)).2.2.2.2 _).trans p1_0
  replace r1 : sR Q6 a 0 = some (a + 1) := by rw [R6, if_neg (by decide)]; exact r1
  replace J2 : IsBoard Q6 (a + 4) := J2.eq (fun x h1 h2 => L6 x (by omega) (by omega))
  replace p2_0 : g6 (a + 4) 2 = 0 := (congrFun (L6 (a + 4) (by omega) (by omega)).2.2.2.2 _).trans p2_0
  replace p2_1 : g6 (a + 4) 3 = 0 := (congrFun (L6 (a + 4) (by omega) (by omega)).2.2.2.2 _).trans p2_1
  replace p2_2 : g6 (a + 4) 4 = (-1) := (congrFun (L6 (a + 4) (by omega) (by omega)).2.2.2.2 _).trans p2_2
  replace p2_3 : g6 (a + 4) 5 = (-1) := (congrFun (L6 (a + 4) (by omega) (by omega)).2.2.2.2 _).trans p2_3
  replace r2 : sR Q6 a 1 = some (a + 4) := by rw [R6, if_neg (by decide)]; exact r2
  replace J3 : IsHist Q6 (a + 160) := J3.eq (fun x h1 h2 => L6 x (by omega) (by omega))
  replace p3_0 : g6 (a + 160) 2 = 0 := (congrFun (L6 (a + 160) (by omega) (by omega)).2.2.2.2 _).trans p3_0
  replace p3_1 : g6 (a + 160) 3 = 0 := (congrFun (L6 (a + 160) (by omega) (by omega)).2.2.2.2 _).trans p3_1
  replace r3 : sR Q6 a 2 = some (a + 160) := by rw [R6, if_neg (by decide)]; exact r3
  replace J4 : IsBoard Q6 (a + 1254) := J4.eq (fun x h1 h2 => L6 x (by omega) (by omega))
  replace p4_0 : g6 (a + 1254) 2 = 0 := (congrFun (L6 (a + 1254) (by omega) (by omega)).2.2.2.2 _).trans p4_0
  replace p4_1 : g6 (a + 1254) 3 = 0 := (congrFun (L6 (a + 1254) (by omega) (by omega)).2.2.2.2 _).trans p4_1
  replace p4_2 : g6 (a + 1254) 4 = (-1) := (congrFun (L6 (a + 1254) (by omega) (by omega)).2.2.2.2 _).trans p4_2
  replace p4_3 : g6 (a + 1254) 5 = (-1) := (congrFun (L6 (a + 1254) (by omega) (by omega)).2.2.2.2 _).trans p4_3
  replace r4 : sR Q6 a 3 = some (a + 1254) := by rw [R6, if_neg (by decide)]; exact r4
  replace V4 : g6 a 4 = 0 := (congrFun T6.2.2.2 _).trans V4
  replace J5 : IsLoaf Q6 (a + 1410) := J5.eq (fun x h1 h2 => L6 x (by omega) (by omega))
  replace r5 : sR Q6 a 5 = some (a + 1410) := by rw [R6, if_neg (by decide)]; exact r5
  have J6 : IsWord Q6 (a + 1432) := I6.eq (fun x h1 h2 => U6 x (by omega))
  have r6 : sR Q6 a 6 = some (a + 1432) := by rw [R6, if_pos rfl]
  refine ⟨⟨G6.cok (by decide), by decide, by decide⟩, fun Q e g d => ?_⟩
  subst e d
  have N7 := gw_new 6 0 G6 (by decide) (q := a + 1 + 1434) (by omega)
  refine ⟨⟨N7.cok (by decide), by decide, by decide⟩, ?_⟩
  refine uc_X6 (ob_new _ _ _ _) (fun Q2 g7 H7 I7 p7_0 p7_1 => ?_)
  have S7 := gr_sub N7 H7 (by omega) (by decide) (by decide)
  refine ⟨S7.ob ho, fun Q7 e7 => ?_⟩
  obtain ⟨G7, L7, U7, T7, R7⟩ := gr_child G6 (by decide) (by decide) (by omega) H7 (Nat.le_refl a) (by omega) e7
  replace J1 : IsText Q7 (a + 1) := J1.eq (fun x h1 h2 => L7 x (by omega) (by omega))
  replace p1_0 : g7 (a + 1) 1 = 0 := (congrFun (L7 (a + 1) (by omega) (by omega)).2.2.2.2 _).trans p1_0
  replace r1 : sR Q7 a 0 = some (a + 1) := by rw [R7, if_neg (by decide)]; exact r1
  replace J2 : IsBoard Q7 (a + 4) := J2.eq (fun x h1 h2 => L7 x (by omega) (by omega))
  replace p2_0 : g7 (a + 4) 2 = 0 := (congrFun (L7 (a + 4) (by omega) (by omega)).2.2.2.2 _).trans p2_0
  replace p2_1 : g7 (a + 4) 3 = 0 := (congrFun (L7 (a + 4) (by omega) (by omega)).2.2.2.2 _).trans p2_1
  replace p2_2 : g7 (a + 4) 4 = (-1) := (congrFun (L7 (a + 4) (by omega) (by omega)).2.2.2.2 _).trans p2_2
  replace p2_3 : g7 (a + 4) 5 = (-1) := (congrFun (L7 (a + 4) (by omega) (by omega)).2.2.2.2 _).trans p2_3
  replace r2 : sR Q7 a 1 = some (a + 4) := by rw [R7, if_neg (by decide)]; exact r2
  replace J3 : IsHist Q7 (a + 160) := J3.eq (fun x h1 h2 => L7 x (by omega) (by omega))
  replace p3_0 : g7 (a + 160) 2 = 0 := (congrFun (L7 (a + 160) (by omega) (by omega)).2.2.2.2 _).trans p3_0
  replace p3_1 : g7 (a + 160) 3 = 0 := (congrFun (L7 (a + 160) (by omega) (by omega)).2.2.2.2 _).trans p3_1
  replace r3 : sR Q7 a 2 = some (a + 160) := by rw [R7, if_neg (by decide)]; exact r3
  replace J4 : IsBoard Q7 (a + 1254) := J4.eq (fun x h1 h2 => L7 x (by omega) (by omega))
  replace p4_0 : g7 (a + 1254) 2 = 0 := (congrFun (L7 (a + 1254) (by omega) (by omega)).2.2.2.2 _).trans p4_0
  replace p4_1 : g7 (a + 1254) 3 = 0 := (congrFun (L7 (a + 1254) (by omega) (by omega)).2.2.2.2 _).trans p4_1
  replace p4_2 : g7 (a + 1254) 4 = (-1) := (congrFun (L7 (a + 1254) (by omega) (by omega)).2.2.2.2 _).trans p4_2
  replace p4_3 : g7 (a + 1254) 5 = (-1) := (congrFun (L7 (a + 1254) (by omega) (by omega)).2.2.2.2 _).trans p4_3
  replace r4 : sR Q7 a 3 = some (a + 1254) := by rw [R7, if_neg (by decide)]; exact r4
  replace V4 : g7 a 4 = 0 := (congrFun T7.2.2.2 _).trans V4
  replace J5 : IsLoaf Q7 (a + 1410) := J5.eq (fun x h1 h2 => L7 x (by omega) (by omega))
  replace r5 : sR Q7 a 5 = some (a + 1410) := by rw [R7, if_neg (by decide)]; exact r5
  replace J6 : IsWord Q7 (a + 1432) := J6.eq (fun x h1 h2 => L7 x (by omega) (by omega))
  replace p6_0 : g7 (a + 1432) 1 = 2 := (congrFun (L7 (a + 1432) (by omega) (by omega)).2.2.2.2 _).trans p6_0
  replace p6_1 : g7 (a + 1432) 2 = 0 := (congrFun (L7 (a + 1432) (by omega) (by omega)).2.2.2.2 _).trans p6_1
  replace r6 : sR Q7 a 6 = some (a + 1432) := by rw [R7, if_neg (by decide)]; exact r6
  have J7 : IsWord Q7 (a + 1435) := I7.eq (fun x h1 h2 => U7 x (by omega))
  have r7 : sR Q7 a 7 = some (a + 1435) := by rw [R7, if_pos rfl]
  refine ⟨⟨by decide, by decide⟩, ?_⟩
  exact hK _ _ G7 ⟨G7.ob ho, r1, J1, r2, J2, r3, J3, r4, J4, r5, J5, r6, J6, r7, J7⟩ p1_0 p2_0 p2_1 p2_2 p2_3 p3_0 p3_1 V4
def vX8_init (P : Sk) (f : St) (sz : Nat) (a : Nat) (K : Sk → St → Prop) : Prop :=
  ((¬ (160 : Int32) < 0 ∧ 160 * 4 ≤ 536870912) ∧ COk P P sz (0) ∧ (0 + 1 ≤ 10 ∧ 0 + 160 ≤ 1593)) ∧ (∀ P8 : Sk, P8 = pNew P (sz + 0) 9 (160) → ∀ g8 : St, g8 = va_up f (sz + 0) z0 → (Ob P8 a 8) ∧ (∀ P10 : Sk, P10 = pRef P8 a 1 (sz + 0) → ((¬ (960 : Int32) < 0 ∧ 960 * 4 ≤ 536870912) ∧ COk P P10 sz (1) ∧ (1 + 1 ≤ 10 ∧ 160 + 960 ≤ 1593)) ∧ (∀ P17 : Sk, P17 = pNew P10 (sz + 1) 9 (960) → ∀ g17 : St, g17 = va_up g8 (sz + 1) z0 → (Ob P17 a 8) ∧ (∀ P19 : Sk, P19 = pRef P17 a 2 (sz + 1) → ((¬ (160 : Int32) < 0 ∧ 160 * 4 ≤ 536870912) ∧ COk P P19 sz (2) ∧ (2 + 1 ≤ 10 ∧ 1120 + 160 ≤ 1593)) ∧ (∀ P26 : Sk, P26 = pNew P19 (sz + 2) 9 (160) → ∀ g26 : St, g26 = va_up g17 (sz + 2) z0 → (Ob P26 a 8) ∧ (∀ P28 : Sk, P28 = pRef P26 a 4 (sz + 2) → ((¬ (60 : Int32) < 0 ∧ 60 * 4 ≤ 536870912) ∧ COk P P28 sz (3) ∧ (3 + 1 ≤ 10 ∧ 1280 + 60 ≤ 1593)) ∧ (∀ P34 : Sk, P34 = pNew P28 (sz + 3) 9 (60) → ∀ g34 : St, g34 = va_up g26 (sz + 3) z0 → (Ob P34 a 8) ∧ (∀ P36 : Sk, P36 = pRef P34 a 6 (sz + 3) → ((¬ (50 : Int32) < 0 ∧ 50 * 4 ≤ 536870912) ∧ COk P P36 sz (4) ∧ (4 + 1 ≤ 10 ∧ 1340 + 50 ≤ 1593)) ∧ (∀ P42 : Sk, P42 = pNew P36 (sz + 4) 9 (50) → ∀ g42 : St, g42 = va_up g34 (sz + 4) z0 → (Ob P42 a 8) ∧ (∀ P44 : Sk, P44 = pRef P42 a 8 (sz + 4) → ((¬ (7 : Int32) < 0 ∧ 7 * 4 ≤ 536870912) ∧ COk P P44 sz (5) ∧ (5 + 1 ≤ 10 ∧ 1390 + 7 ≤ 1593)) ∧ (∀ P50 : Sk, P50 = pNew P44 (sz + 5) 9 (7) → ∀ g50 : St, g50 = va_up g42 (sz + 5) z0 → (Ob P50 a 8) ∧ (∀ P52 : Sk, P52 = pRef P50 a 11 (sz + 5) → ((¬ (7 : Int32) < 0 ∧ 7 * 4 ≤ 536870912) ∧ COk P P52 sz (6) ∧ (6 + 1 ≤ 10 ∧ 1397 + 7 ≤ 1593)) ∧ (∀ P58 : Sk, P58 = pNew P52 (sz + 6) 9 (7) → ∀ g58 : St, g58 = va_up g50 (sz + 6) z0 → (Ob P58 a 8) ∧ (∀ P60 : Sk, P60 = pRef P58 a 12 (sz + 6) → ((¬ (7 : Int32) < 0 ∧ 7 * 4 ≤ 536870912) ∧ COk P P60 sz (7) ∧ (7 + 1 ≤ 10 ∧ 1404 + 7 ≤ 1593)) ∧ (∀ P66 : Sk, P66 = pNew P60 (sz + 7) 9 (7) → ∀ g66 : St, g66 = va_up g58 (sz + 7) z0 → (Ob P66 a 8) ∧ (∀ P68 : Sk, P68 = pRef P66 a 13 (sz + 7) → ((¬ (50 : Int32) < 0 ∧ 50 * 4 ≤ 536870912) ∧ COk P P68 sz (8) ∧ (8 + 1 ≤ 10 ∧ 1411 + 50 ≤ 1593)) ∧ (∀ P74 : Sk, P74 = pNew P68 (sz + 8) 9 (50) → ∀ g74 : St, g74 = va_up g66 (sz + 8) z0 → (Ob P74 a 8) ∧ (∀ P76 : Sk, P76 = pRef P74 a 16 (sz + 8) → ((¬ (132 : Int32) < 0 ∧ 132 * 4 ≤ 536870912) ∧ COk P P76 sz (9) ∧ (9 + 1 ≤ 10 ∧ 1461 + 132 ≤ 1593)) ∧ (∀ P83 : Sk, P83 = pNew P76 (sz + 9) 9 (132) → ∀ g83 : St, g83 = va_up g74 (sz + 9) z0 → (Ob P83 a 8) ∧ (∀ P85 : Sk, P85 = pRef P83 a 20 (sz + 9) → (Ob P85 a 8) ∧ (∀ g90 : St, g90 = setf g83 a 0 0 → (Ob P85 a 8 ∧ sR P85 a 1 = some (a + 1)) ∧ ((Ob P85 (a + 1) 9 ∧ sN P85 (a + 1) = 160) ∧ (∀ g99 : St, g99 = setf g90 (a + 1) ((2 : Int32)).toNatClampNeg (-1) → (Ob P85 a 8 ∧ sR P85 a 1 = some (a + 1)) ∧ ((Ob P85 (a + 1) 9 ∧ sN P85 (a + 1) = 160) ∧ (∀ g106 : St, g106 = setf g99 (a + 1) ((3 : Int32)).toNatClampNeg (-1) → (10 ≤ 10 ∧ 1593 ≤ 1593) ∧ K P85 g106)))))))))))))))))))))))))
abbrev rmC_X8_init : Room := { frames := 1, cells := 10, slots := 1593, locals := 20 }
set_option maxRecDepth 20000 in
set_option maxHeartbeats 4000000 in
theorem mX8_init (l : Launch) (G : Gl) (P : Sk) (f : St) (sz : Nat) (a : Nat) (K : Sk → St → Prop) (h : vX8_init P f sz a K) : Met l yX8_init (wU yX8_init cX8_init 1 none) (rmC_X8_init) (PcC G P f sz [.ref a]) (QcC G P sz K) (10) (1593) (frA P sz) := by
  refine v_metc (own := RX8) [.ref a] (by decide +kernel) rfl rfl (Nat.le_of_ble_eq_true rfl) (fun p e s m args below meth c hsz o hr hnm hO => ?_)
  refine v_lv (lv2 := [(0, .ref a)]) rfl ?_
  unfold vX8_init at h
  refine v_aload_n o 0 dX8_init_0 rfl ?_
  refine v_obj o (mU 1013 (by decide +kernel) rfl) (mU 106 (by decide +kernel) rfl) (mU 107 (by decide +kernel) rfl) ⟨Nat.le_of_ble_eq_true rfl, Nat.le_of_ble_eq_true rfl⟩ dX8_init_1 ?_
  refine v_aload_n o 0 dX8_init_4 rfl ?_
  refine v_sipush o (v := 160) dX8_init_5 (by decide) ?_
  refine v_newarr o hsz rfl h.1.2.1.1 h.1.2.1.2 (mU 124 (by decide +kernel) rfl) h.1.1.1 (by decide) h.1.1.2 h.1.2.2 dX8_init_8 ?_
  replace h := h.2
  generalize eP8 : pNew P (sz + 0) 9 (160) = P8
  replace h := h P8 eP8.symm
  generalize eg8 : va_up f (sz + 0) z0 = g8
  replace h := h g8 eg8.symm
  refine v_eqc (c2 := 1) (s2 := 160) (by first | rfl | omega) (by first | rfl | omega) ?_
  refine v_pfR o lgX8_7 hnm h.1 dX8_init_10 ?_
  replace h := h.2
  generalize eP10 : pRef P8 a 1 (sz + 0) = P10
  replace h := h P10 eP10.symm
  refine v_aload_n o 0 dX8_init_13 rfl ?_
  refine v_sipush o (v := 960) dX8_init_14 (by decide) ?_
  refine v_newarr o hsz rfl h.1.2.1.1 h.1.2.1.2 (mU 124 (by decide +kernel) rfl) h.1.1.1 (by decide) h.1.1.2 h.1.2.2 dX8_init_17 ?_
  replace h := h.2
  generalize eP17 : pNew P10 (sz + 1) 9 (960) = P17
  replace h := h P17 eP17.symm
  generalize eg17 : va_up g8 (sz + 1) z0 = g17
  replace h := h g17 eg17.symm
  refine v_eqc (c2 := 2) (s2 := 1120) (by first | rfl | omega) (by first | rfl | omega) ?_
  refine v_pfR o lgX8_13 hnm h.1 dX8_init_19 ?_
  replace h := h.2
  generalize eP19 : pRef P17 a 2 (sz + 1) = P19
  replace h := h P19 eP19.symm
  refine v_aload_n o 0 dX8_init_22 rfl ?_
  refine v_sipush o (v := 160) dX8_init_23 (by decide) ?_
  refine v_newarr o hsz rfl h.1.2.1.1 h.1.2.1.2 (mU 124 (by decide +kernel) rfl) h.1.1.1 (by decide) h.1.1.2 h.1.2.2 dX8_init_26 ?_
  replace h := h.2
  generalize eP26 : pNew P19 (sz + 2) 9 (160) = P26
  replace h := h P26 eP26.symm
  generalize eg26 : va_up g17 (sz + 2) z0 = g26
  replace h := h g26 eg26.symm
  refine v_eqc (c2 := 3) (s2 := 1280) (by first | rfl | omega) (by first | rfl | omega) ?_
  refine v_pfR o lgX8_16 hnm h.1 dX8_init_28 ?_
  replace h := h.2
  generalize eP28 : pRef P26 a 4 (sz + 2) = P28
  replace h := h P28 eP28.symm
  refine v_aload_n o 0 dX8_init_31 rfl ?_
  refine v_bipush o (v := 60) dX8_init_32 (by decide) ?_
  refine v_newarr o hsz rfl h.1.2.1.1 h.1.2.1.2 (mU 124 (by decide +kernel) rfl) h.1.1.1 (by decide) h.1.1.2 h.1.2.2 dX8_init_34 ?_
  replace h := h.2
  generalize eP34 : pNew P28 (sz + 3) 9 (60) = P34
  replace h := h P34 eP34.symm
  generalize eg34 : va_up g26 (sz + 3) z0 = g34
  replace h := h g34 eg34.symm
  refine v_eqc (c2 := 4) (s2 := 1340) (by first | rfl | omega) (by first | rfl | omega) ?_
  refine v_pfR o lgX8_19 hnm h.1 dX8_init_36 ?_
  replace h := h.2
  generalize eP36 : pRef P34 a 6 (sz + 3) = P36
  replace h := h P36 eP36.symm
  refine v_aload_n o 0 dX8_init_39 rfl ?_
  refine v_bipush o (v := 50) dX8_init_40 (by decide) ?_
  refine v_newarr o hsz rfl h.1.2.1.1 h.1.2.1.2 (mU 124 (by decide +kernel) rfl) h.1.1.1 (by decide) h.1.1.2 h.1.2.2 dX8_init_42 ?_
  replace h := h.2
  generalize eP42 : pNew P36 (sz + 4) 9 (50) = P42
  replace h := h P42 eP42.symm
  generalize eg42 : va_up g34 (sz + 4) z0 = g42
  replace h := h g42 eg42.symm
  refine v_eqc (c2 := 5) (s2 := 1390) (by first | rfl | omega) (by first | rfl | omega) ?_
  refine v_pfR o lgX8_22 hnm h.1 dX8_init_44 ?_
  replace h := h.2
  generalize eP44 : pRef P42 a 8 (sz + 4) = P44
  replace h := h P44 eP44.symm
  refine v_aload_n o 0 dX8_init_47 rfl ?_
  refine v_bipush o (v := 7) dX8_init_48 (by decide) ?_
  refine v_newarr o hsz rfl h.1.2.1.1 h.1.2.1.2 (mU 124 (by decide +kernel) rfl) h.1.1.1 (by decide) h.1.1.2 h.1.2.2 dX8_init_50 ?_
  replace h := h.2
  generalize eP50 : pNew P44 (sz + 5) 9 (7) = P50
  replace h := h P50 eP50.symm
  generalize eg50 : va_up g42 (sz + 5) z0 = g50
  replace h := h g50 eg50.symm
  refine v_eqc (c2 := 6) (s2 := 1397) (by first | rfl | omega) (by first | rfl | omega) ?_
  refine v_pfR o lgX8_25 hnm h.1 dX8_init_52 ?_
  replace h := h.2
  generalize eP52 : pRef P50 a 11 (sz + 5) = P52
  replace h := h P52 eP52.symm
  refine v_aload_n o 0 dX8_init_55 rfl ?_
  refine v_bipush o (v := 7) dX8_init_56 (by decide) ?_
  refine v_newarr o hsz rfl h.1.2.1.1 h.1.2.1.2 (mU 124 (by decide +kernel) rfl) h.1.1.1 (by decide) h.1.1.2 h.1.2.2 dX8_init_58 ?_
  replace h := h.2
  generalize eP58 : pNew P52 (sz + 6) 9 (7) = P58
  replace h := h P58 eP58.symm
  generalize eg58 : va_up g50 (sz + 6) z0 = g58
  replace h := h g58 eg58.symm
  refine v_eqc (c2 := 7) (s2 := 1404) (by first | rfl | omega) (by first | rfl | omega) ?_
  refine v_pfR o lgX8_28 hnm h.1 dX8_init_60 ?_
  replace h := h.2
  generalize eP60 : pRef P58 a 12 (sz + 6) = P60
  replace h := h P60 eP60.symm
  refine v_aload_n o 0 dX8_init_63 rfl ?_
  refine v_bipush o (v := 7) dX8_init_64 (by decide) ?_
  refine v_newarr o hsz rfl h.1.2.1.1 h.1.2.1.2 (mU 124 (by decide +kernel) rfl) h.1.1.1 (by decide) h.1.1.2 h.1.2.2 dX8_init_66 ?_
  replace h := h.2
  generalize eP66 : pNew P60 (sz + 7) 9 (7) = P66
  replace h := h P66 eP66.symm
  generalize eg66 : va_up g58 (sz + 7) z0 = g66
  replace h := h g66 eg66.symm
  refine v_eqc (c2 := 8) (s2 := 1411) (by first | rfl | omega) (by first | rfl | omega) ?_
  refine v_pfR o lgX8_31 hnm h.1 dX8_init_68 ?_
  replace h := h.2
  generalize eP68 : pRef P66 a 13 (sz + 7) = P68
  replace h := h P68 eP68.symm
  refine v_aload_n o 0 dX8_init_71 rfl ?_
  refine v_bipush o (v := 50) dX8_init_72 (by decide) ?_
  refine v_newarr o hsz rfl h.1.2.1.1 h.1.2.1.2 (mU 124 (by decide +kernel) rfl) h.1.1.1 (by decide) h.1.1.2 h.1.2.2 dX8_init_74 ?_
  replace h := h.2
  generalize eP74 : pNew P68 (sz + 8) 9 (50) = P74
  replace h := h P74 eP74.symm
  generalize eg74 : va_up g66 (sz + 8) z0 = g74
  replace h := h g74 eg74.symm
  refine v_eqc (c2 := 9) (s2 := 1461) (by first | rfl | omega) (by first | rfl | omega) ?_
  refine v_pfR o lgX8_34 hnm h.1 dX8_init_76 ?_
  replace h := h.2
  generalize eP76 : pRef P74 a 16 (sz + 8) = P76
  replace h := h P76 eP76.symm
  refine v_aload_n o 0 dX8_init_79 rfl ?_
  refine v_sipush o (v := 132) dX8_init_80 (by decide) ?_
  refine v_newarr o hsz rfl h.1.2.1.1 h.1.2.1.2 (mU 124 (by decide +kernel) rfl) h.1.1.1 (by decide) h.1.1.2 h.1.2.2 dX8_init_83 ?_
  replace h := h.2
  generalize eP83 : pNew P76 (sz + 9) 9 (132) = P83
  replace h := h P83 eP83.symm
  generalize eg83 : va_up g74 (sz + 9) z0 = g83
  replace h := h g83 eg83.symm
  refine v_eqc (c2 := 10) (s2 := 1593) (by first | rfl | omega) (by first | rfl | omega) ?_
  refine v_pfR o lgX8_37 hnm h.1 dX8_init_85 ?_
  replace h := h.2
  generalize eP85 : pRef P83 a 20 (sz + 9) = P85
  replace h := h P85 eP85.symm
  refine v_aload_n o 0 dX8_init_88 rfl ?_
  refine v_iconst o (v := 0) dX8_init_89 (by decide) ?_
  refine v_pf o lpX8_40 h.1 ⟨rfl, rfl⟩ dX8_init_90 ?_
  replace h := h.2
  generalize eg90 : setf g83 a 0 0 = g90
  replace h := h g90 eg90.symm
  refine v_aload_n o 0 dX8_init_93 rfl ?_
  refine v_gfR o lkX8_7 (by decide) h.1.1 h.1.2 dX8_init_94 ?_
  replace h := h.2
  refine v_iconst o (v := 2) dX8_init_97 (by decide) ?_
  refine v_iconst o (v := (-1)) dX8_init_98 (by decide) ?_
  refine v_iast o h.1.1 h.1.2 (by unfold vp_in; decide) dX8_init_99 ?_
  replace h := h.2
  generalize eg99 : setf g90 (a + 1) ((2 : Int32)).toNatClampNeg (-1) = g99
  replace h := h g99 eg99.symm
  refine v_aload_n o 0 dX8_init_100 rfl ?_
  refine v_gfR o lkX8_7 (by decide) h.1.1 h.1.2 dX8_init_101 ?_
  replace h := h.2
  refine v_iconst o (v := 3) dX8_init_104 (by decide) ?_
  refine v_iconst o (v := (-1)) dX8_init_105 (by decide) ?_
  refine v_iast o h.1.1 h.1.2 (by unfold vp_in; decide) dX8_init_106 ?_
  replace h := h.2
  generalize eg106 : setf g99 (a + 1) ((3 : Int32)).toNatClampNeg (-1) = g106
  replace h := h g106 eg106.symm
  refine v_widen (k := 10) (n := 1593) h.1.1 h.1.2 ?_
  exact v_vretC o rfl hr dX8_init_107 h.2
abbrev kX8_init := @vX8_init
abbrev metX8_init := @mX8_init
theorem uc_X8 {P : Sk} {f : St} {a : Nat} {K : Sk → St → Prop} (ho : Ob P a 8) (hz : f a = z0) (hK : ∀ P2 f2, Gr P P2 f f2 a 11 → IsModel P2 a → (∀ j, f2 a j = 0) → f2 (a + 1) 0 = 0 → f2 (a + 1) 1 = 0 → f2 (a + 1) 2 = (-1) → f2 (a + 1) 3 = (-1) → K P2 f2) : kX8_init P f (a + 1) a K := by
  show vX8_init P f (a + 1) a K
  unfold vX8_init
  have G0 := Gr.refl P f a
  refine ⟨⟨⟨by decide, by decide⟩, G0.cok (by decide), by decide, by decide⟩, fun Q e g1 d1 => ?_⟩
  subst e
  have N1 := gw_new 9 160 G0 (by decide) (q := a + 1 + 0) (by omega)
  rw [← d1] at N1
  refine ⟨N1.ob ho, fun Q1 e1 => ?_⟩
  have H1 := Gr.refl (pNew P (a + 1 + 0) 9 160) (va_up f (a + 1 + 0) z0) (a + 1 + 0)
  obtain ⟨G1, L1, U1, T1, R1⟩ := gr_child G0 (by decide) (by decide) (by omega) H1 (Nat.le_refl a) (by omega) e1
  rw [← d1] at G1 L1 U1 T1
  replace hz : g1 a = z0 := T1.2.2.2.trans hz
  have o1 : Ob Q1 (a + 1) 9 := ob_sm (ob_new _ (a + 1 + 0) 9 160) (U1 _ (by omega))
  have m1 : sN Q1 (a + 1) = 160 := (U1 _ (by omega)).2.2.1.trans (by simp [pNew, va_up, sN])
  have r1 : sR Q1 a 1 = some (a + 1) := by rw [R1, if_pos rfl]
  have z1 : g1 (a + 1) = z0 := by rw [d1]; simp [va_up]
  refine ⟨⟨⟨by decide, by decide⟩, G1.cok (by decide), by decide, by decide⟩, fun Q e g2 d2 => ?_⟩
  subst e
  have N2 := gw_new 9 960 G1 (by decide) (q := a + 1 + 1) (by omega)
  rw [← d2] at N2
  refine ⟨N2.ob ho, fun Q2 e2 => ?_⟩
  have H2 := Gr.refl (pNew Q1 (a + 1 + 1) 9 960) (va_up g1 (a + 1 + 1) z0) (a + 1 + 1)
  obtain ⟨G2, L2, U2, T2, R2⟩ := gr_child G1 (by decide) (by decide) (by omega) H2 (Nat.le_refl a) (by omega) e2
  rw [← d2] at G2 L2 U2 T2
  replace hz : g2 a = z0 := T2.2.2.2.trans hz
  replace o1 : Ob Q2 (a + 1) 9 := ob_sm o1 (L2 (a + 1) (by omega) (by omega))
  replace m1 : sN Q2 (a + 1) = 160 := (L2 (a + 1) (by omega) (by omega)).2.2.1.trans m1
  replace r1 : sR Q2 a 1 = some (a + 1) := by rw [R2, if_neg (by decide)]; exact r1
  replace z1 : g2 (a + 1) = z0 := (L2 (a + 1) (by omega) (by omega)).2.2.2.2.trans z1
  have o2 : Ob Q2 (a + 2) 9 := ob_sm (ob_new _ (a + 1 + 1) 9 960) (U2 _ (by omega))
  have m2 : sN Q2 (a + 2) = 960 := (U2 _ (by omega)).2.2.1.trans (by simp [pNew, va_up, sN])
  have r2 : sR Q2 a 2 = some (a + 2) := by rw [R2, if_pos rfl]
  have z2 : g2 (a + 2) = z0 := by rw [d2]; simp [va_up]
  refine ⟨⟨⟨by decide, by decide⟩, G2.cok (by decide), by decide, by decide⟩, fun Q e g3 d3 => ?_⟩
  subst e
  have N3 := gw_new 9 160 G2 (by decide) (q := a + 1 + 2) (by omega)
  rw [← d3] at N3
  refine ⟨N3.ob ho, fun Q3 e3 => ?_⟩
  have H3 := Gr.refl (pNew Q2 (a + 1 + 2) 9 160) (va_up g2 (a + 1 + 2) z0) (a + 1 + 2)
  obtain ⟨G3, L3, U3, T3, R3⟩ := gr_child G2 (by decide) (by decide) (by omega) H3 (Nat.le_refl a) (by omega) e3
  rw [← d3] at G3 L3 U3 T3
  replace hz : g3 a = z0 := T3.2.2.2.trans hz
  replace o1 : Ob Q3 (a + 1) 9 := ob_sm o1 (L3 (a + 1) (by omega) (by omega))
  replace m1 : sN Q3 (a + 1) = 160 := (L3 (a + 1) (by omega) (by omega)).2.2.1.trans m1
  replace r1 : sR Q3 a 1 = some (a + 1) := by rw [R3, if_neg (by decide)]; exact r1
  replace z1 : g3 (a + 1) = z0 := (L3 (a + 1) (by omega) (by omega)).2.2.2.2.trans z1
  replace o2 : Ob Q3 (a + 2) 9 := ob_sm o2 (L3 (a + 2) (by omega) (by omega))
  replace m2 : sN Q3 (a + 2) = 960 := (L3 (a + 2) (by omega) (by omega)).2.2.1.trans m2
  replace r2 : sR Q3 a 2 = some (a + 2) := by rw [R3, if_neg (by decide)]; exact r2
  replace z2 : g3 (a + 2) = z0 := (L3 (a + 2) (by omega) (by omega)).2.2.2.2.trans z2
  have o3 : Ob Q3 (a + 3) 9 := ob_sm (ob_new _ (a + 1 + 2) 9 160) (U3 _ (by omega))
  have m3 : sN Q3 (a + 3) = 160 := (U3 _ (by omega)).2.2.1.trans (by simp [pNew, va_up, sN])
  have r3 : sR Q3 a 4 = some (a + 3) := by rw [R3, if_pos rfl]
  have z3 : g3 (a + 3) = z0 := by rw [d3]; simp [va_up]
  refine ⟨⟨⟨by decide, by decide⟩, G3.cok (by decide), by decide, by decide⟩, fun Q e g4 d4 => ?_⟩
  subst e
  have N4 := gw_new 9 60 G3 (by decide) (q := a + 1 + 3) (by omega)
  rw [← d4] at N4
  refine ⟨N4.ob ho, fun Q4 e4 => ?_⟩
  have H4 := Gr.refl (pNew Q3 (a + 1 + 3) 9 60) (va_up g3 (a + 1 + 3) z0) (a + 1 + 3)
  obtain ⟨G4, L4, U4, T4, R4⟩ := gr_child G3 (by decide) (by decide) (by omega) H4 (Nat.le_refl a) (by omega) e4
  rw [← d4] at G4 L4 U4 T4
  replace hz : g4 a = z0 := T4.2.2.2.trans hz
  replace o1 : Ob Q4 (a + 1) 9 := ob_sm o1 (L4 (a + 1) (by omega) (by omega))
  replace m1 : sN Q4 (a + 1) = 160 := (L4 (a + 1) (by omega) (by omega)).2.2.1.trans m1
  replace r1 : sR Q4 a 1 = some (a + 1) := by rw [R4, if_neg (by decide)]; exact r1
  replace z1 : g4 (a + 1) = z0 := (L4 (a + 1) (by omega) (by omega)).2.2.2.2.trans z1
  replace o2 : Ob Q4 (a + 2) 9 := ob_sm o2 (L4 (a + 2) (by omega) (by omega))
  replace m2 : sN Q4 (a + 2) = 960 := (L4 (a + 2) (by omega) (by omega)).2.2.1.trans m2
  replace r2 : sR Q4 a 2 = some (a + 2) := by rw [R4, if_neg (by decide)]; exact r2
  replace z2 : g4 (a + 2) = z0 := (L4 (a + 2) (by omega) (by omega)).2.2.2.2.trans z2
  replace o3 : Ob Q4 (a + 3) 9 := ob_sm o3 (L4 (a + 3) (by omega) (by omega))
  replace m3 : sN Q4 (a + 3) = 160 := (L4 (a + 3) (by omega) (by omega)).2.2.1.trans m3
  replace r3 : sR Q4 a 4 = some (a + 3) := by rw [R4, if_neg (by decide)]; exact r3
  replace z3 : g4 (a + 3) = z0 := (L4 (a + 3) (by omega) (by omega)).2.2.2.2.trans z3
  have o4 : Ob Q4 (a + 4) 9 := ob_sm (ob_new _ (a + 1 + 3) 9 60) (U4 _ (by omega))
  have m4 : sN Q4 (a + 4) = 60 := (U4 _ (by omega)).2.2.1.trans (by simp [pNew, va_up, sN])
  have r4 : sR Q4 a 6 = some (a + 4) := by rw [R4, if_pos rfl]
  have z4 : g4 (a + 4) = z0 := by rw [d4]; simp [va_up]
  refine ⟨⟨⟨by decide, by decide⟩, G4.cok (by decide), by decide, by decide⟩, fun Q e g5 d5 => ?_⟩
  subst e
  have N5 := gw_new 9 50 G4 (by decide) (q := a + 1 + 4) (by omega)
  rw [← d5] at N5
  refine ⟨N5.ob ho, fun Q5 e5 => ?_⟩
  have H5 := Gr.refl (pNew Q4 (a + 1 + 4) 9 50) (va_up g4 (a + 1 + 4) z0) (a + 1 + 4)
  obtain ⟨G5, L5, U5, T5, R5⟩ := gr_child G4 (by decide) (by decide) (by omega) H5 (Nat.le_refl a) (by omega) e5
  rw [← d5] at G5 L5 U5 T5
  replace hz : g5 a = z0 := T5.2.2.2.trans hz
  replace o1 : Ob Q5 (a + 1) 9 := ob_sm o1 (L5 (a + 1) (by omega) (by omega))
  replace m1 : sN Q5 (a + 1) = 160 := (L5 (a + 1) (by omega) (by omega)).2.2.1.trans m1
  replace r1 : sR Q5 a 1 = some (a + 1) := by rw [R5, if_neg (by decide)]; exact r1
  replace z1 : g5 (a + 1) = z0 := (L5 (a + 1) (by omega) (by omega)).2.2.2.2.trans z1
  replace o2 : Ob Q5 (a + 2) 9 := ob_sm o2 (L5 (a + 2) (by omega) (by omega))
  replace m2 : sN Q5 (a + 2) = 960 := (L5 (a + 2) (by omega) (by omega)).2.2.1.trans m2
  replace r2 : sR Q5 a 2 = some (a + 2) := by rw [R5, if_neg (by decide)]; exact r2
  replace z2 : g5 (a + 2) = z0 := (L5 (a + 2) (by omega) (by omega)).2.2.2.2.trans z2
  replace o3 : Ob Q5 (a + 3) 9 := ob_sm o3 (L5 (a + 3) (by omega) (by omega))
  replace m3 : sN Q5 (a + 3) = 160 := (L5 (a + 3) (by omega) (by omega)).2.2.1.trans m3
  replace r3 : sR Q5 a 4 = some (a + 3) := by rw [R5, if_neg (by decide)]; exact r3
  replace z3 : g5 (a + 3) = z0 := (L5 (a + 3) (by omega) (by omega)).2.2.2.2.trans z3
  replace o4 : Ob Q5 (a + 4) 9 := ob_sm o4 (L5 (a + 4) (by omega) (by omega))
  replace m4 : sN Q5 (a + 4) = 60 := (L5 (a + 4) (by omega) (by omega)).2.2.1.trans m4
  replace r4 : sR Q5 a 6 = some (a + 4) := by rw [R5, if_neg (by decide)]; exact r4
  replace z4 : g5 (a + 4) = z0 := (L5 (a + 4) (by omega) (by omega)).2.2.2.2.trans z4
  have o5 : Ob Q5 (a + 5) 9 := ob_sm (ob_new _ (a + 1 + 4) 9 50) (U5 _ (by omega))
  have m5 : sN Q5 (a + 5) = 50 := (U5 _ (by omega)).2.2.1.trans (by simp [pNew, va_up, sN])
  have r5 : sR Q5 a 8 = some (a + 5) := by rw [R5, if_pos rfl]
  have z5 : g5 (a + 5) = z0 := by rw [d5]; simp [va_up]
  refine ⟨⟨⟨by decide, by decide⟩, G5.cok (by decide), by decide, by decide⟩, fun Q e g6 d6 => ?_⟩
  subst e
  have N6 := gw_new 9 7 G5 (by decide) (q := a + 1 + 5) (by omega)
  rw [← d6] at N6
  refine ⟨N6.ob ho, fun Q6 e6 => ?_⟩
  have H6 := Gr.refl (pNew Q5 (a + 1 + 5) 9 7) (va_up g5 (a + 1 + 5) z0) (a + 1 + 5)
  obtain ⟨G6, L6, U6, T6, R6⟩ := gr_child G5 (by decide) (by decide) (by omega) H6 (Nat.le_refl a) (by omega) e6
  rw [← d6] at G6 L6 U6 T6
  replace hz : g6 a = z0 := T6.2.2.2.trans hz
  replace o1 : Ob Q6 (a + 1) 9 := ob_sm o1 (L6 (a + 1) (by omega) (by omega))
  replace m1 : sN Q6 (a + 1) = 160 := (L6 (a + 1) (by omega) (by omega)).2.2.1.trans m1
  replace r1 : sR Q6 a 1 = some (a + 1) := by rw [R6, if_neg (by decide)]; exact r1
  replace z1 : g6 (a + 1) = z0 := (L6 (a + 1) (by omega) (by omega)).2.2.2.2.trans z1
  replace o2 : Ob Q6 (a + 2) 9 := ob_sm o2 (L6 (a + 2) (by omega) (by omega))
  replace m2 : sN Q6 (a + 2) = 960 := (L6 (a + 2) (by omega) (by omega)).2.2.1.trans m2
  replace r2 : sR Q6 a 2 = some (a + 2) := by rw [R6, if_neg (by decide)]; exact r2
  replace z2 : g6 (a + 2) = z0 := (L6 (a + 2) (by omega) (by omega)).2.2.2.2.trans z2
  replace o3 : Ob Q6 (a + 3) 9 := ob_sm o3 (L6 (a + 3) (by omega) (by omega))
  replace m3 : sN Q6 (a + 3) = 160 := (L6 (a + 3) (by omega) (by omega)).2.2.1.trans m3
  replace r3 : sR Q6 a 4 = some (a + 3) := by rw [R6, if_neg (by decide)]; exact r3
  replace z3 : g6 (a + 3) = z0 := (L6 (a + 3) (by omega) (by omega)).2.2.2.2.trans z3
  replace o4 : Ob Q6 (a + 4) 9 := ob_sm o4 (L6 (a + 4) (by omega) (by omega))
  replace m4 : sN Q6 (a + 4) = 60 := (L6 (a + 4) (by omega) (by omega)).2.2.1.trans m4
  replace r4 : sR Q6 a 6 = some (a + 4) := by rw [R6, if_neg (by decide)]; exact r4
  replace z4 : g6 (a + 4) = z0 := (L6 (a + 4) (by omega) (by omega)).2.2.2.2.trans z4
  replace o5 : Ob Q6 (a + 5) 9 := ob_sm o5 (L6 (a + 5) (by omega) (by omega))
  replace m5 : sN Q6 (a + 5) = 50 := (L6 (a + 5) (by omega) (by omega)).2.2.1.trans m5
  replace r5 : sR Q6 a 8 = some (a + 5) := by rw [R6, if_neg (by decide)]; exact r5
  replace z5 : g6 (a + 5) = z0 := (L6 (a + 5) (by omega) (by omega)).2.2.2.2.trans z5
  have o6 : Ob Q6 (a + 6) 9 := ob_sm (ob_new _ (a + 1 + 5) 9 7) (U6 _ (by omega))
  have m6 : sN Q6 (a + 6) = 7 := (U6 _ (by omega)).2.2.1.trans (by simp [pNew, va_up, sN])
  have r6 : sR Q6 a 11 = some (a + 6) := by rw [R6, if_pos rfl]
  have z6 : g6 (a + 6) = z0 := by rw [d6]; simp [va_up]
  refine ⟨⟨⟨by decide, by decide⟩, G6.cok (by decide), by decide, by decide⟩, fun Q e g7 d7 => ?_⟩
  subst e
  have N7 := gw_new 9 7 G6 (by decide) (q := a + 1 + 6) (by omega)
  rw [← d7] at N7
  refine ⟨N7.ob ho, fun Q7 e7 => ?_⟩
  have H7 := Gr.refl (pNew Q6 (a + 1 + 6) 9 7) (va_up g6 (a + 1 + 6) z0) (a + 1 + 6)
  obtain ⟨G7, L7, U7, T7, R7⟩ := gr_child G6 (by decide) (by decide) (by omega) H7 (Nat.le_refl a) (by omega) e7
  rw [← d7] at G7 L7 U7 T7
  replace hz : g7 a = z0 := T7.2.2.2.trans hz
  replace o1 : Ob Q7 (a + 1) 9 := ob_sm o1 (L7 (a + 1) (by omega) (by omega))
  replace m1 : sN Q7 (a + 1) = 160 := (L7 (a + 1) (by omega) (by omega)).2.2.1.trans m1
  replace r1 : sR Q7 a 1 = some (a + 1) := by rw [R7, if_neg (by decide)]; exact r1
  replace z1 : g7 (a + 1) = z0 := (L7 (a + 1) (by omega) (by omega)).2.2.2.2.trans z1
  replace o2 : Ob Q7 (a + 2) 9 := ob_sm o2 (L7 (a + 2) (by omega) (by omega))
  replace m2 : sN Q7 (a + 2) = 960 := (L7 (a + 2) (by omega) (by omega)).2.2.1.trans m2
  replace r2 : sR Q7 a 2 = some (a + 2) := by rw [R7, if_neg (by decide)]; exact r2
  replace z2 : g7 (a + 2) = z0 := (L7 (a + 2) (by omega) (by omega)).2.2.2.2.trans z2
  replace o3 : Ob Q7 (a + 3) 9 := ob_sm o3 (L7 (a + 3) (by omega) (by omega))
  replace m3 : sN Q7 (a + 3) = 160 := (L7 (a + 3) (by omega) (by omega)).2.2.1.trans m3
  replace r3 : sR Q7 a 4 = some (a + 3) := by rw [R7, if_neg (by decide)]; exact r3
  replace z3 : g7 (a + 3) = z0 := (L7 (a + 3) (by omega) (by omega)).2.2.2.2.trans z3
  replace o4 : Ob Q7 (a + 4) 9 := ob_sm o4 (L7 (a + 4) (by omega) (by omega))
  replace m4 : sN Q7 (a + 4) = 60 := (L7 (a + 4) (by omega) (by omega)).2.2.1.trans m4
  replace r4 : sR Q7 a 6 = some (a + 4) := by rw [R7, if_neg (by decide)]; exact r4
  replace z4 : g7 (a + 4) = z0 := (L7 (a + 4) (by omega) (by omega)).2.2.2.2.trans z4
  replace o5 : Ob Q7 (a + 5) 9 := ob_sm o5 (L7 (a + 5) (by omega) (by omega))
  replace m5 : sN Q7 (a + 5) = 50 := (L7 (a + 5) (by omega) (by omega)).2.2.1.trans m5
  replace r5 : sR Q7 a 8 = some (a + 5) := by rw [R7, if_neg (by decide)]; exact r5
  replace z5 : g7 (a + 5) = z0 := (L7 (a + 5) (by omega) (by omega)).2.2.2.2.trans z5
  replace o6 : Ob Q7 (a + 6) 9 := ob_sm o6 (L7 (a + 6) (by omega) (by omega))
  replace m6 : sN Q7 (a + 6) = 7 := (L7 (a + 6) (by omega) (by omega)).2.2.1.trans m6
  replace r6 : sR Q7 a 11 = some (a + 6) := by rw [R7, if_neg (by decide)]; exact r6
  replace z6 : g7 (a + 6) = z0 := (L7 (a + 6) (by omega) (by omega)).2.2.2.2.trans z6
  have o7 : Ob Q7 (a + 7) 9 := ob_sm (ob_new _ (a + 1 + 6) 9 7) (U7 _ (by omega))
  have m7 : sN Q7 (a + 7) = 7 := (U7 _ (by omega)).2.2.1.trans (by simp [pNew, va_up, sN])
  have r7 : sR Q7 a 12 = some (a + 7) := by rw [R7, if_pos rfl]
  have z7 : g7 (a + 7) = z0 := by rw [d7]; simp [va_up]
  refine ⟨⟨⟨by decide, by decide⟩, G7.cok (by decide), by decide, by decide⟩, fun Q e g8 d8 => ?_⟩
  subst e
  have N8 := gw_new 9 7 G7 (by decide) (q := a + 1 + 7) (by omega)
  rw [← d8] at N8
  refine ⟨N8.ob ho, fun Q8 e8 => ?_⟩
  have H8 := Gr.refl (pNew Q7 (a + 1 + 7) 9 7) (va_up g7 (a + 1 + 7) z0) (a + 1 + 7)
  obtain ⟨G8, L8, U8, T8, R8⟩ := gr_child G7 (by decide) (by decide) (by omega) H8 (Nat.le_refl a) (by omega) e8
  rw [← d8] at G8 L8 U8 T8
  replace hz : g8 a = z0 := T8.2.2.2.trans hz
  replace o1 : Ob Q8 (a + 1) 9 := ob_sm o1 (L8 (a + 1) (by omega) (by omega))
  replace m1 : sN Q8 (a + 1) = 160 := (L8 (a + 1) (by omega) (by omega)).2.2.1.trans m1
  replace r1 : sR Q8 a 1 = some (a + 1) := by rw [R8, if_neg (by decide)]; exact r1
  replace z1 : g8 (a + 1) = z0 := (L8 (a + 1) (by omega) (by omega)).2.2.2.2.trans z1
  replace o2 : Ob Q8 (a + 2) 9 := ob_sm o2 (L8 (a + 2) (by omega) (by omega))
  replace m2 : sN Q8 (a + 2) = 960 := (L8 (a + 2) (by omega) (by omega)).2.2.1.trans m2
  replace r2 : sR Q8 a 2 = some (a + 2) := by rw [R8, if_neg (by decide)]; exact r2
  replace z2 : g8 (a + 2) = z0 := (L8 (a + 2) (by omega) (by omega)).2.2.2.2.trans z2
  replace o3 : Ob Q8 (a + 3) 9 := ob_sm o3 (L8 (a + 3) (by omega) (by omega))
  replace m3 : sN Q8 (a + 3) = 160 := (L8 (a + 3) (by omega) (by omega)).2.2.1.trans m3
  replace r3 : sR Q8 a 4 = some (a + 3) := by rw [R8, if_neg (by decide)]; exact r3
  replace z3 : g8 (a + 3) = z0 := (L8 (a + 3) (by omega) (by omega)).2.2.2.2.trans z3
  replace o4 : Ob Q8 (a + 4) 9 := ob_sm o4 (L8 (a + 4) (by omega) (by omega))
  replace m4 : sN Q8 (a + 4) = 60 := (L8 (a + 4) (by omega) (by omega)).2.2.1.trans m4
  replace r4 : sR Q8 a 6 = some (a + 4) := by rw [R8, if_neg (by decide)]; exact r4
  replace z4 : g8 (a + 4) = z0 := (L8 (a + 4) (by omega) (by omega)).2.2.2.2.trans z4
  replace o5 : Ob Q8 (a + 5) 9 := ob_sm o5 (L8 (a + 5) (by omega) (by omega))
  replace m5 : sN Q8 (a + 5) = 50 := (L8 (a + 5) (by omega) (by omega)).2.2.1.trans m5
  replace r5 : sR Q8 a 8 = some (a + 5) := by rw [R8, if_neg (by decide)]; exact r5
  replace z5 : g8 (a + 5) = z0 := (L8 (a + 5) (by omega) (by omega)).2.2.2.2.trans z5
  replace o6 : Ob Q8 (a + 6) 9 := ob_sm o6 (L8 (a + 6) (by omega) (by omega))
  replace m6 : sN Q8 (a + 6) = 7 := (L8 (a + 6) (by omega) (by omega)).2.2.1.trans m6
  replace r6 : sR Q8 a 11 = some (a + 6) := by rw [R8, if_neg (by decide)]; exact r6
  replace z6 : g8 (a + 6) = z0 := (L8 (a + 6) (by omega) (by omega)).2.2.2.2.trans z6
  replace o7 : Ob Q8 (a + 7) 9 := ob_sm o7 (L8 (a + 7) (by omega) (by omega))
  replace m7 : sN Q8 (a + 7) = 7 := (L8 (a + 7) (by omega) (by omega)).2.2.1.trans m7
  replace r7 : sR Q8 a 12 = some (a + 7) := by rw [R8, if_neg (by decide)]; exact r7
  replace z7 : g8 (a + 7) = z0 := (L8 (a + 7) (by omega) (by omega)).2.2.2.2.trans z7
  have o8 : Ob Q8 (a + 8) 9 := ob_sm (ob_new _ (a + 1 + 7) 9 7) (U8 _ (by omega))
  have m8 : sN Q8 (a + 8) = 7 := (U8 _ (by omega)).2.2.1.trans (by simp [pNew, va_up, sN])
  have r8 : sR Q8 a 13 = some (a + 8) := by rw [R8, if_pos rfl]
  have z8 : g8 (a + 8) = z0 := by rw [d8]; simp [va_up]
  refine ⟨⟨⟨by decide, by decide⟩, G8.cok (by decide), by decide, by decide⟩, fun Q e g9 d9 => ?_⟩
  subst e
  have N9 := gw_new 9 50 G8 (by decide) (q := a + 1 + 8) (by omega)
  rw [← d9] at N9
  refine ⟨N9.ob ho, fun Q9 e9 => ?_⟩
  have H9 := Gr.refl (pNew Q8 (a + 1 + 8) 9 50) (va_up g8 (a + 1 + 8) z0) (a + 1 + 8)
  obtain ⟨G9, L9, U9, T9, R9⟩ := gr_child G8 (by decide) (by decide) (by omega) H9 (Nat.le_refl a) (by omega) e9
  rw [← d9] at G9 L9 U9 T9
  replace hz : g9 a = z0 := T9.2.2.2.trans hz
  replace o1 : Ob Q9 (a + 1) 9 := ob_sm o1 (L9 (a + 1) (by omega) (by omega))
  replace m1 : sN Q9 (a + 1) = 160 := (L9 (a + 1) (by omega) (by omega)).2.2.1.trans m1
  replace r1 : sR Q9 a 1 = some (a + 1) := by rw [R9, if_neg (by decide)]; exact r1
  replace z1 : g9 (a + 1) = z0 := (L9 (a + 1) (by omega) (by omega)).2.2.2.2.trans z1
  replace o2 : Ob Q9 (a + 2) 9 := ob_sm o2 (L9 (a + 2) (by omega) (by omega))
  replace m2 : sN Q9 (a + 2) = 960 := (L9 (a + 2) (by omega) (by omega)).2.2.1.trans m2
  replace r2 : sR Q9 a 2 = some (a + 2) := by rw [R9, if_neg (by decide)]; exact r2
  replace z2 : g9 (a + 2) = z0 := (L9 (a + 2) (by omega) (by omega)).2.2.2.2.trans z2
  replace o3 : Ob Q9 (a + 3) 9 := ob_sm o3 (L9 (a + 3) (by omega) (by omega))
  replace m3 : sN Q9 (a + 3) = 160 := (L9 (a + 3) (by omega) (by omega)).2.2.1.trans m3
  replace r3 : sR Q9 a 4 = some (a + 3) := by rw [R9, if_neg (by decide)]; exact r3
  replace z3 : g9 (a + 3) = z0 := (L9 (a + 3) (by omega) (by omega)).2.2.2.2.trans z3
  replace o4 : Ob Q9 (a + 4) 9 := ob_sm o4 (L9 (a + 4) (by omega) (by omega))
  replace m4 : sN Q9 (a + 4) = 60 := (L9 (a + 4) (by omega) (by omega)).2.2.1.trans m4
  replace r4 : sR Q9 a 6 = some (a + 4) := by rw [R9, if_neg (by decide)]; exact r4
  replace z4 : g9 (a + 4) = z0 := (L9 (a + 4) (by omega) (by omega)).2.2.2.2.trans z4
  replace o5 : Ob Q9 (a + 5) 9 := ob_sm o5 (L9 (a + 5) (by omega) (by omega))
  replace m5 : sN Q9 (a + 5) = 50 := (L9 (a + 5) (by omega) (by omega)).2.2.1.trans m5
  replace r5 : sR Q9 a 8 = some (a + 5) := by rw [R9, if_neg (by decide)]; exact r5
  replace z5 : g9 (a + 5) = z0 := (L9 (a + 5) (by omega) (by omega)).2.2.2.2.trans z5
  replace o6 : Ob Q9 (a + 6) 9 := ob_sm o6 (L9 (a + 6) (by omega) (by omega))
  replace m6 : sN Q9 (a + 6) = 7 := (L9 (a + 6) (by omega) (by omega)).2.2.1.trans m6
  replace r6 : sR Q9 a 11 = some (a + 6) := by rw [R9, if_neg (by decide)]; exact r6
  replace z6 : g9 (a + 6) = z0 := (L9 (a + 6) (by omega) (by omega)).2.2.2.2.trans z6
  replace o7 : Ob Q9 (a + 7) 9 := ob_sm o7 (L9 (a + 7) (by omega) (by omega))
  replace m7 : sN Q9 (a + 7) = 7 := (L9 (a + 7) (by omega) (by omega)).2.2.1.trans m7
  replace r7 : sR Q9 a 12 = some (a + 7) := by rw [R9, if_neg (by decide)]; exact r7
  replace z7 : g9 (a + 7) = z0 := (L9 (a + 7) (by omega) (by omega)).2.2.2.2.trans z7
  replace o8 : Ob Q9 (a + 8) 9 := ob_sm o8 (L9 (a + 8) (by omega) (by omega))
  replace m8 : sN Q9 (a + 8) = 7 := (L9 (a + 8) (by omega) (by omega)).2.2.1.trans m8
  replace r8 : sR Q9 a 13 = some (a + 8) := by rw [R9, if_neg (by decide)]; exact r8
  replace z8 : g9 (a + 8) = z0 := (L9 (a + 8) (by omega) (by omega)).2.2.2.2.trans z8
  have o9 : Ob Q9 (a + 9) 9 := ob_sm (ob_new _ (a + 1 + 8) 9 50) (U9 _ (by omega))
  have m9 : sN Q9 (a + 9) = 50 := (U9 _ (by omega)).2.2.1.trans (by simp [pNew, va_up, sN])
  have r9 : sR Q9 a 16 = some (a + 9) := by rw [R9, if_pos rfl]
  have z9 : g9 (a + 9) = z0 := by rw [d9]; simp [va_up]
  refine ⟨⟨⟨by decide, by decide⟩, G9.cok (by decide), by decide, by decide⟩, fun Q e g10 d10 => ?_⟩
  subst e
  have N10 := gw_new 9 132 G9 (by decide) (q := a + 1 + 9) (by omega)
  rw [← d10] at N10
  refine ⟨N10.ob ho, fun Q10 e10 => ?_⟩
  have H10 := Gr.refl (pNew Q9 (a + 1 + 9) 9 132) (va_up g9 (a + 1 + 9) z0) (a + 1 + 9)
  obtain ⟨G10, L10, U10, T10, R10⟩ := gr_child G9 (by decide) (by decide) (by omega) H10 (Nat.le_refl a) (by omega) e10
  rw [← d10] at G10 L10 U10 T10
  replace hz : g10 a = z0 := T10.2.2.2.trans hz
  replace o1 : Ob Q10 (a + 1) 9 := ob_sm o1 (L10 (a + 1) (by omega) (by omega))
  replace m1 : sN Q10 (a + 1) = 160 := (L10 (a + 1) (by omega) (by omega)).2.2.1.trans m1
  replace r1 : sR Q10 a 1 = some (a + 1) := by rw [R10, if_neg (by decide)]; exact r1
  replace z1 : g10 (a + 1) = z0 := (L10 (a + 1) (by omega) (by omega)).2.2.2.2.trans z1
  replace o2 : Ob Q10 (a + 2) 9 := ob_sm o2 (L10 (a + 2) (by omega) (by omega))
  replace m2 : sN Q10 (a + 2) = 960 := (L10 (a + 2) (by omega) (by omega)).2.2.1.trans m2
  replace r2 : sR Q10 a 2 = some (a + 2) := by rw [R10, if_neg (by decide)]; exact r2
  replace z2 : g10 (a + 2) = z0 := (L10 (a + 2) (by omega) (by omega)).2.2.2.2.trans z2
  replace o3 : Ob Q10 (a + 3) 9 := ob_sm o3 (L10 (a + 3) (by omega) (by omega))
  replace m3 : sN Q10 (a + 3) = 160 := (L10 (a + 3) (by omega) (by omega)).2.2.1.trans m3
  replace r3 : sR Q10 a 4 = some (a + 3) := by rw [R10, if_neg (by decide)]; exact r3
  replace z3 : g10 (a + 3) = z0 := (L10 (a + 3) (by omega) (by omega)).2.2.2.2.trans z3
  replace o4 : Ob Q10 (a + 4) 9 := ob_sm o4 (L10 (a + 4) (by omega) (by omega))
  replace m4 : sN Q10 (a + 4) = 60 := (L10 (a + 4) (by omega) (by omega)).2.2.1.trans m4
  replace r4 : sR Q10 a 6 = some (a + 4) := by rw [R10, if_neg (by decide)]; exact r4
  replace z4 : g10 (a + 4) = z0 := (L10 (a + 4) (by omega) (by omega)).2.2.2.2.trans z4
  replace o5 : Ob Q10 (a + 5) 9 := ob_sm o5 (L10 (a + 5) (by omega) (by omega))
  replace m5 : sN Q10 (a + 5) = 50 := (L10 (a + 5) (by omega) (by omega)).2.2.1.trans m5
  replace r5 : sR Q10 a 8 = some (a + 5) := by rw [R10, if_neg (by decide)]; exact r5
  replace z5 : g10 (a + 5) = z0 := (L10 (a + 5) (by omega) (by omega)).2.2.2.2.trans z5
  replace o6 : Ob Q10 (a + 6) 9 := ob_sm o6 (L10 (a + 6) (by omega) (by omega))
  replace m6 : sN Q10 (a + 6) = 7 := (L10 (a + 6) (by omega) (by omega)).2.2.1.trans m6
  replace r6 : sR Q10 a 11 = some (a + 6) := by rw [R10, if_neg (by decide)]; exact r6
  replace z6 : g10 (a + 6) = z0 := (L10 (a + 6) (by omega) (by omega)).2.2.2.2.trans z6
  replace o7 : Ob Q10 (a + 7) 9 := ob_sm o7 (L10 (a + 7) (by omega) (by omega))
  replace m7 : sN Q10 (a + 7) = 7 := (L10 (a + 7) (by omega) (by omega)).2.2.1.trans m7
  replace r7 : sR Q10 a 12 = some (a + 7) := by rw [R10, if_neg (by decide)]; exact r7
  replace z7 : g10 (a + 7) = z0 := (L10 (a + 7) (by omega) (by omega)).2.2.2.2.trans z7
  replace o8 : Ob Q10 (a + 8) 9 := ob_sm o8 (L10 (a + 8) (by omega) (by omega))
  replace m8 : sN Q10 (a + 8) = 7 := (L10 (a + 8) (by omega) (by omega)).2.2.1.trans m8
  replace r8 : sR Q10 a 13 = some (a + 8) := by rw [R10, if_neg (by decide)]; exact r8
  replace z8 : g10 (a + 8) = z0 := (L10 (a + 8) (by omega) (by omega)).2.2.2.2.trans z8
  replace o9 : Ob Q10 (a + 9) 9 := ob_sm o9 (L10 (a + 9) (by omega) (by omega))
  replace m9 : sN Q10 (a + 9) = 50 := (L10 (a + 9) (by omega) (by omega)).2.2.1.trans m9
  replace r9 : sR Q10 a 16 = some (a + 9) := by rw [R10, if_neg (by decide)]; exact r9
  replace z9 : g10 (a + 9) = z0 := (L10 (a + 9) (by omega) (by omega)).2.2.2.2.trans z9
  have o10 : Ob Q10 (a + 10) 9 := ob_sm (ob_new _ (a + 1 + 9) 9 132) (U10 _ (by omega))
  have m10 : sN Q10 (a + 10) = 132 := (U10 _ (by omega)).2.2.1.trans (by simp [pNew, va_up, sN])
  have r10 : sR Q10 a 20 = some (a + 10) := by rw [R10, if_pos rfl]
  have z10 : g10 (a + 10) = z0 := by rw [d10]; simp [va_up]
  refine ⟨G10.ob ho, fun s0 ds0 => ⟨⟨G10.ob ho, r1⟩, ⟨o1, m1⟩, fun s1 ds1 => ⟨⟨G10.ob ho, r1⟩, ⟨o1, m1⟩, fun s2 ds2 => ⟨⟨by decide, by decide⟩, ?_⟩⟩⟩⟩
  have c2 : (2 : Int32).toNatClampNeg = 2 := by decide
  have c3 : (3 : Int32).toNatClampNeg = 3 := by decide
  rw [c2] at ds1
  rw [c3] at ds2
  have F : ∀ j, s2 a j = 0 := fun j => by
    rw [ds2, setf_off (Or.inl (by omega)), ds1, setf_off (Or.inl (by omega)), ds0]
    by_cases c : j = 0
    · rw [c, setf_same]
    · rw [setf_off (Or.inr c), hz]
  have E : ∀ j, s2 (a + 1) j = if j = 3 then -1 else if j = 2 then -1 else 0 := fun j => by
    rw [ds2]
    by_cases c : j = 3
    · rw [c, setf_same, if_pos rfl]
    · rw [setf_off (Or.inr c), if_neg c, ds1]
      by_cases c2 : j = 2
      · rw [c2, setf_same, if_pos rfl]
      · rw [setf_off (Or.inr c2), if_neg c2, ds0, setf_off (Or.inl (by omega)), z1]
  have Gs := ((G10.set (t := a) (j := 0) (v := 0) (Nat.le_refl a)).set (t := a + 1) (j := 2) (v := -1) (by omega)).set (t := a + 1) (j := 3) (v := -1) (by omega)
  rw [← ds0, ← ds1, ← ds2] at Gs
  exact hK _ _ Gs ⟨G10.ob ho, r1, o1, m1, r2, o2, m2, r3, o3, m3, r4, o4, m4, r5, o5, m5, r6, o6, m6, r7, o7, m7, r8, o8, m8, r9, o9, m9, r10, o10, m10⟩ F (E 0) (E 1) (E 2) (E 3)
