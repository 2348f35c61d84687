def vX7_init (P : Sk) (f : St) (sz : Nat) (a : Nat) (K : Sk → St → Prop) : Prop :=
  (COk P P sz (0) ∧ (0 + 1 ≤ 1437 ∧ 0 + 2 ≤ 10285)) ∧ (∀ P5 : Sk, P5 = pNew P (sz + 0) 4 0 → ∀ g5 : St, g5 = va_up f (sz + 0) z0 → (COk P P5 sz (1) ∧ (1 + 2 ≤ 1437 ∧ 2 + 61 ≤ 10285)) ∧ (kX4_init P5 g5 (sz + 1) (sz + 0)  (fun P9 g9 => (Ob P9 a 7) ∧ (∀ P12 : Sk, P12 = pRef P9 a 0 (sz + 0) → (COk P P12 sz (3) ∧ (3 + 1 ≤ 1437 ∧ 63 + 6 ≤ 10285)) ∧ (∀ P16 : Sk, P16 = pNew P12 (sz + 3) 0 0 → ∀ g16 : St, g16 = va_up g9 (sz + 3) z0 → (COk P P16 sz (4) ∧ (4 + 155 ≤ 1437 ∧ 69 + 1105 ≤ 10285)) ∧ (kX0_init P16 g16 (sz + 4) (sz + 3)  (fun P20 g20 => (Ob P20 a 7) ∧ (∀ P23 : Sk, P23 = pRef P20 a 1 (sz + 3) → (COk P P23 sz (159) ∧ (159 + 1 ≤ 1437 ∧ 1174 + 4 ≤ 10285)) ∧ (∀ P27 : Sk, P27 = pNew P23 (sz + 159) 1 0 → ∀ g27 : St, g27 = va_up g20 (sz + 159) z0 → (COk P P27 sz (160) ∧ (160 + 1093 ≤ 1437 ∧ 1178 + 7783 ≤ 10285)) ∧ (kX1_init P27 g27 (sz + 160) (sz + 159)  (fun P31 g31 => (Ob P31 a 7) ∧ (∀ P34 : Sk, P34 = pRef P31 a 2 (sz + 159) → (COk P P34 sz (1253) ∧ (1253 + 1 ≤ 1437 ∧ 8961 + 6 ≤ 10285)) ∧ (∀ P38 : Sk, P38 = pNew P34 (sz + 1253) 0 0 → ∀ g38 : St, g38 = va_up g31 (sz + 1253) z0 → (COk P P38 sz (1254) ∧ (1254 + 155 ≤ 1437 ∧ 8967 + 1105 ≤ 10285)) ∧ (kX0_init P38 g38 (sz + 1254) (sz + 1253)  (fun P42 g42 => (Ob P42 a 7) ∧ (∀ P45 : Sk, P45 = pRef P42 a 3 (sz + 1253) → (Ob P45 a 7) ∧ (∀ g50 : St, g50 = setf g42 a 4 0 → (COk P P45 sz (1409) ∧ (1409 + 1 ≤ 1437 ∧ 10072 + 3 ≤ 10285)) ∧ (∀ P54 : Sk, P54 = pNew P45 (sz + 1409) 2 0 → ∀ g54 : St, g54 = va_up g50 (sz + 1409) z0 → (COk P P54 sz (1410) ∧ (1410 + 21 ≤ 1437 ∧ 10075 + 154 ≤ 10285)) ∧ (kX2_init P54 g54 (sz + 1410) (sz + 1409)  (fun P58 g58 => (Ob P58 a 7) ∧ (∀ P61 : Sk, P61 = pRef P58 a 5 (sz + 1409) → (COk P P61 sz (1431) ∧ (1431 + 1 ≤ 1437 ∧ 10229 + 3 ≤ 10285)) ∧ (∀ P65 : Sk, P65 = pNew P61 (sz + 1431) 6 0 → ∀ g65 : St, g65 = va_up g58 (sz + 1431) z0 → (COk P P65 sz (1432) ∧ (1432 + 2 ≤ 1437 ∧ 10232 + 25 ≤ 10285)) ∧ (kX6_init P65 g65 (sz + 1432) (sz + 1431)  (fun P69 g69 => (Ob P69 a 7) ∧ (∀ P72 : Sk, P72 = pRef P69 a 6 (sz + 1431) → (COk P P72 sz (1434) ∧ (1434 + 1 ≤ 1437 ∧ 10257 + 3 ≤ 10285)) ∧ (∀ P76 : Sk, P76 = pNew P72 (sz + 1434) 6 0 → ∀ g76 : St, g76 = va_up g69 (sz + 1434) z0 → (COk P P76 sz (1435) ∧ (1435 + 2 ≤ 1437 ∧ 10260 + 25 ≤ 10285)) ∧ (kX6_init P76 g76 (sz + 1435) (sz + 1434)  (fun P80 g80 => (Ob P80 a 7) ∧ (∀ P83 : Sk, P83 = pRef P80 a 7 (sz + 1434) → (1437 ≤ 1437 ∧ 10285 ≤ 10285) ∧ K P83 g80)))))))))))))))))))))))))))))
abbrev rmC_X7_init : Room := { frames := 6, cells := 1437, slots := 10285, locals := 123 }
set_option maxRecDepth 20000 in
set_option maxHeartbeats 4000000 in
theorem mX7_init (l : Launch) (G : Gl) (P : Sk) (f : St) (sz : Nat) (a : Nat) (K : Sk → St → Prop) (h : vX7_init P f sz a K) : Met l yX7_init (wU yX7_init cX7_init 1 none) (rmC_X7_init) (PcC G P f sz [.ref a]) (QcC G P sz K) (1437) (10285) (frA P sz) := by
  refine v_metc (own := RX7) [.ref a] (by decide +kernel) rfl rfl (Nat.le_of_ble_eq_true rfl) (fun p e s m args below meth c hsz o hr hnm hO => ?_)
  refine v_lv (lv2 := [(0, .ref a)]) rfl ?_
  unfold vX7_init at h
  refine v_aload_n o 0 dX7_init_0 rfl ?_
  refine v_obj o (mU 47 (by decide +kernel) rfl) (mU 48 (by decide +kernel) rfl) (mU 49 (by decide +kernel) rfl) ⟨Nat.le_of_ble_eq_true rfl, Nat.le_of_ble_eq_true rfl⟩ dX7_init_1 ?_
  refine v_aload_n o 0 dX7_init_4 rfl ?_
  refine v_new o hsz rfl h.1.1.1 h.1.1.2 lnX7_7 h.1.2 dX7_init_5 ?_
  replace h := h.2
  generalize eP5 : pNew P (sz + 0) 4 0 = P5
  replace h := h P5 eP5.symm
  generalize eg5 : va_up f (sz + 0) z0 = g5
  replace h := h g5 eg5.symm
  refine v_eqc (c2 := 1) (s2 := 2) (by first | rfl | omega) (by first | rfl | omega) ?_
  refine v_dup o dX7_init_8 rfl ?_
  have hq := h.1
  replace h := h.2
  refine v_cIN (host := "StrandLoaves") o hsz rfl hq.1.1 hq.1.2 hO [] [.ref (sz + 0), .ref a] (metX4_init l G P5 g5 (sz + 1) (sz + 0)  _ h) ⟨va_cnB 0 o.1.2.2.2.2 (gUc (mU 54 (by decide +kernel) rfl)) rfl rfl rfl (hO.2.2 _ (mN 52 (by decide +kernel) rfl)) (o.1.2.2.2.2 _ (mU 27 (by decide +kernel) rfl)) ⟨by decide +kernel, by decide +kernel, by decide +kernel⟩ ⟨Nat.le_of_ble_eq_true rfl, Nat.le_of_ble_eq_true rfl⟩, rfl, (o.1.2.2.2.2 _ (mU 53 (by decide +kernel) rfl))⟩ rfl (Nat.le_of_ble_eq_true rfl) hq.2 dX7_init_9 rfl (fun P9 g9 h => ?_)
  refine v_eqc (c2 := 3) (s2 := 63) (by first | rfl | omega) (by first | rfl | omega | decide) ?_
  refine v_pfR o lgX7_10 hnm h.1 dX7_init_12 ?_
  replace h := h.2
  generalize eP12 : pRef P9 a 0 (sz + 0) = P12
  replace h := h P12 eP12.symm
  refine v_aload_n o 0 dX7_init_15 rfl ?_
  refine v_new o hsz rfl h.1.1.1 h.1.1.2 lnX7_16 h.1.2 dX7_init_16 ?_
  replace h := h.2
  generalize eP16 : pNew P12 (sz + 3) 0 0 = P16
  replace h := h P16 eP16.symm
  generalize eg16 : va_up g9 (sz + 3) z0 = g16
  replace h := h g16 eg16.symm
  refine v_eqc (c2 := 4) (s2 := 69) (by first | rfl | omega) (by first | rfl | omega) ?_
  refine v_dup o dX7_init_19 rfl ?_
  have hq := h.1
  replace h := h.2
  refine v_cI o hsz rfl hq.1.1 hq.1.2 hO [] [.ref (sz + 3), .ref a] (metX0_init l G P16 g16 (sz + 4) (sz + 3)  _ h) (cwI 0 o.1.2.2.2.2 (gUc (mU 78 (by decide +kernel) rfl)) rfl rfl rfl (o.1.2.2.2.2 _ (mU 29 (by decide +kernel) rfl)) (o.1.2.2.2.2 _ (mU 76 (by decide +kernel) rfl)) (o.1.2.2.2.2 _ (mU 77 (by decide +kernel) rfl)) rfl ⟨by decide +kernel, by decide +kernel, by decide +kernel⟩ ⟨Nat.le_of_ble_eq_true rfl, Nat.le_of_ble_eq_true rfl⟩) rfl (Nat.le_of_ble_eq_true rfl) hq.2 dX7_init_20 rfl (fun P20 g20 h => ?_)
  refine v_eqc (c2 := 159) (s2 := 1174) (by first | rfl | omega) (by first | rfl | omega | decide) ?_
  refine v_pfR o lgX7_19 hnm h.1 dX7_init_23 ?_
  replace h := h.2
  generalize eP23 : pRef P20 a 1 (sz + 3) = P23
  replace h := h P23 eP23.symm
  refine v_aload_n o 0 dX7_init_26 rfl ?_
  refine v_new o hsz rfl h.1.1.1 h.1.1.2 lnX7_23 h.1.2 dX7_init_27 ?_
  replace h := h.2
  generalize eP27 : pNew P23 (sz + 159) 1 0 = P27
  replace h := h P27 eP27.symm
  generalize eg27 : va_up g20 (sz + 159) z0 = g27
  replace h := h g27 eg27.symm
  refine v_eqc (c2 := 160) (s2 := 1178) (by first | rfl | omega) (by first | rfl | omega) ?_
  refine v_dup o dX7_init_30 rfl ?_
  have hq := h.1
  replace h := h.2
  refine v_cI o hsz rfl hq.1.1 hq.1.2 hO [] [.ref (sz + 159), .ref a] (metX1_init l G P27 g27 (sz + 160) (sz + 159)  _ h) (cwI 0 o.1.2.2.2.2 (gUc (mU 171 (by decide +kernel) rfl)) rfl rfl rfl (o.1.2.2.2.2 _ (mU 33 (by decide +kernel) rfl)) (o.1.2.2.2.2 _ (mU 169 (by decide +kernel) rfl)) (o.1.2.2.2.2 _ (mU 170 (by decide +kernel) rfl)) rfl ⟨by decide +kernel, by decide +kernel, by decide +kernel⟩ ⟨Nat.le_of_ble_eq_true rfl, Nat.le_of_ble_eq_true rfl⟩) rfl (Nat.le_of_ble_eq_true rfl) hq.2 dX7_init_31 rfl (fun P31 g31 h => ?_)
  refine v_eqc (c2 := 1253) (s2 := 8961) (by first | rfl | omega) (by first | rfl | omega | decide) ?_
  refine v_pfR o lgX7_26 hnm h.1 dX7_init_34 ?_
  replace h := h.2
  generalize eP34 : pRef P31 a 2 (sz + 159) = P34
  replace h := h P34 eP34.symm
  refine v_aload_n o 0 dX7_init_37 rfl ?_
  refine v_new o hsz rfl h.1.1.1 h.1.1.2 lnX7_16 h.1.2 dX7_init_38 ?_
  replace h := h.2
  generalize eP38 : pNew P34 (sz + 1253) 0 0 = P38
  replace h := h P38 eP38.symm
  generalize eg38 : va_up g31 (sz + 1253) z0 = g38
  replace h := h g38 eg38.symm
  refine v_eqc (c2 := 1254) (s2 := 8967) (by first | rfl | omega) (by first | rfl | omega) ?_
  refine v_dup o dX7_init_41 rfl ?_
  have hq := h.1
  replace h := h.2
  refine v_cI o hsz rfl hq.1.1 hq.1.2 hO [] [.ref (sz + 1253), .ref a] (metX0_init l G P38 g38 (sz + 1254) (sz + 1253)  _ h) (cwI 0 o.1.2.2.2.2 (gUc (mU 78 (by decide +kernel) rfl)) rfl rfl rfl (o.1.2.2.2.2 _ (mU 29 (by decide +kernel) rfl)) (o.1.2.2.2.2 _ (mU 76 (by decide +kernel) rfl)) (o.1.2.2.2.2 _ (mU 77 (by decide +kernel) rfl)) rfl ⟨by decide +kernel, by decide +kernel, by decide +kernel⟩ ⟨Nat.le_of_ble_eq_true rfl, Nat.le_of_ble_eq_true rfl⟩) rfl (Nat.le_of_ble_eq_true rfl) hq.2 dX7_init_42 rfl (fun P42 g42 h => ?_)
  refine v_eqc (c2 := 1409) (s2 := 10072) (by first | rfl | omega) (by first | rfl | omega | decide) ?_
  refine v_pfR o lgX7_30 hnm h.1 dX7_init_45 ?_
  replace h := h.2
  generalize eP45 : pRef P42 a 3 (sz + 1253) = P45
  replace h := h P45 eP45.symm
  refine v_aload_n o 0 dX7_init_48 rfl ?_
  refine v_iconst o (v := 0) dX7_init_49 (by decide) ?_
  refine v_pf o lpX7_33 h.1 bz0 dX7_init_50 ?_
  replace h := h.2
  generalize eg50 : setf g42 a 4 0 = g50
  replace h := h g50 eg50.symm
  refine v_aload_n o 0 dX7_init_53 rfl ?_
  refine v_new o hsz rfl h.1.1.1 h.1.1.2 lnX7_37 h.1.2 dX7_init_54 ?_
  replace h := h.2
  generalize eP54 : pNew P45 (sz + 1409) 2 0 = P54
  replace h := h P54 eP54.symm
  generalize eg54 : va_up g50 (sz + 1409) z0 = g54
  replace h := h g54 eg54.symm
  refine v_eqc (c2 := 1410) (s2 := 10075) (by first | rfl | omega) (by first | rfl | omega) ?_
  refine v_dup o dX7_init_57 rfl ?_
  have hq := h.1
  replace h := h.2
  refine v_cIN (host := "StrandLoaves") o hsz rfl hq.1.1 hq.1.2 hO [] [.ref (sz + 1409), .ref a] (metX2_init l G P54 g54 (sz + 1410) (sz + 1409)  _ h) ⟨va_cnB 0 o.1.2.2.2.2 (gUc (mU 85 (by decide +kernel) rfl)) rfl rfl rfl (hO.2.2 _ (mN 190 (by decide +kernel) rfl)) (o.1.2.2.2.2 _ (mU 30 (by decide +kernel) rfl)) ⟨by decide +kernel, by decide +kernel, by decide +kernel⟩ ⟨Nat.le_of_ble_eq_true rfl, Nat.le_of_ble_eq_true rfl⟩, rfl, (o.1.2.2.2.2 _ (mU 84 (by decide +kernel) rfl))⟩ rfl (Nat.le_of_ble_eq_true rfl) hq.2 dX7_init_58 rfl (fun P58 g58 h => ?_)
  refine v_eqc (c2 := 1431) (s2 := 10229) (by first | rfl | omega) (by first | rfl | omega | decide) ?_
  refine v_pfR o lgX7_40 hnm h.1 dX7_init_61 ?_
  replace h := h.2
  generalize eP61 : pRef P58 a 5 (sz + 1409) = P61
  replace h := h P61 eP61.symm
  refine v_aload_n o 0 dX7_init_64 rfl ?_
  refine v_new o hsz rfl h.1.1.1 h.1.1.2 lnX7_44 h.1.2 dX7_init_65 ?_
  replace h := h.2
  generalize eP65 : pNew P61 (sz + 1431) 6 0 = P65
  replace h := h P65 eP65.symm
  generalize eg65 : va_up g58 (sz + 1431) z0 = g65
  replace h := h g65 eg65.symm
  refine v_eqc (c2 := 1432) (s2 := 10232) (by first | rfl | omega) (by first | rfl | omega) ?_
  refine v_dup o dX7_init_68 rfl ?_
  have hq := h.1
  replace h := h.2
  refine v_cIN (host := "StrandLoaves") o hsz rfl hq.1.1 hq.1.2 hO [] [.ref (sz + 1431), .ref a] (metX6_init l G P65 g65 (sz + 1432) (sz + 1431)  _ h) ⟨va_cnB 0 o.1.2.2.2.2 (gUc (mU 91 (by decide +kernel) rfl)) rfl rfl rfl (hO.2.2 _ (mN 192 (by decide +kernel) rfl)) (o.1.2.2.2.2 _ (mU 31 (by decide +kernel) rfl)) ⟨by decide +kernel, by decide +kernel, by decide +kernel⟩ ⟨Nat.le_of_ble_eq_true rfl, Nat.le_of_ble_eq_true rfl⟩, rfl, (o.1.2.2.2.2 _ (mU 90 (by decide +kernel) rfl))⟩ rfl (Nat.le_of_ble_eq_true rfl) hq.2 dX7_init_69 rfl (fun P69 g69 h => ?_)
  refine v_eqc (c2 := 1434) (s2 := 10257) (by first | rfl | omega) (by first | rfl | omega | decide) ?_
  refine v_pfR o lgX7_47 hnm h.1 dX7_init_72 ?_
  replace h := h.2
  generalize eP72 : pRef P69 a 6 (sz + 1431) = P72
  replace h := h P72 eP72.symm
  refine v_aload_n o 0 dX7_init_75 rfl ?_
  refine v_new o hsz rfl h.1.1.1 h.1.1.2 lnX7_44 h.1.2 dX7_init_76 ?_
  replace h := h.2
  generalize eP76 : pNew P72 (sz + 1434) 6 0 = P76
  replace h := h P76 eP76.symm
  generalize eg76 : va_up g69 (sz + 1434) z0 = g76
  replace h := h g76 eg76.symm
  refine v_eqc (c2 := 1435) (s2 := 10260) (by first | rfl | omega) (by first | rfl | omega) ?_
  refine v_dup o dX7_init_79 rfl ?_
  have hq := h.1
  replace h := h.2
  refine v_cIN (host := "StrandLoaves") o hsz rfl hq.1.1 hq.1.2 hO [] [.ref (sz + 1434), .ref a] (metX6_init l G P76 g76 (sz + 1435) (sz + 1434)  _ h) ⟨va_cnB 0 o.1.2.2.2.2 (gUc (mU 91 (by decide +kernel) rfl)) rfl rfl rfl (hO.2.2 _ (mN 192 (by decide +kernel) rfl)) (o.1.2.2.2.2 _ (mU 31 (by decide +kernel) rfl)) ⟨by decide +kernel, by decide +kernel, by decide +kernel⟩ ⟨Nat.le_of_ble_eq_true rfl, Nat.le_of_ble_eq_true rfl⟩, rfl, (o.1.2.2.2.2 _ (mU 90 (by decide +kernel) rfl))⟩ rfl (Nat.le_of_ble_eq_true rfl) hq.2 dX7_init_80 rfl (fun P80 g80 h => ?_)
  refine v_eqc (c2 := 1437) (s2 := 10285) (by first | rfl | omega) (by first | rfl | omega | decide) ?_
  refine v_pfR o lgX7_51 hnm h.1 dX7_init_83 ?_
  replace h := h.2
  generalize eP83 : pRef P80 a 7 (sz + 1434) = P83
  replace h := h P83 eP83.symm
  refine v_widen (k := 1437) (n := 10285) h.1.1 h.1.2 ?_
  exact v_vretC o rfl hr dX7_init_86 h.2
abbrev kX7_init := @vX7_init
abbrev metX7_init := @mX7_init
theorem uc_X7 {P : Sk} {f : St} {a : Nat} {K : Sk → St → Prop} (ho : Ob P a 7) (hK : ∀ P2 f2, Gr P P2 f f2 a 1438 → IsComp P2 a → f2 (a + 1) 1 = 0 → f2 (a + 4) 2 = 0 → f2 (a + 4) 3 = 0 → f2 (a + 4) 4 = (-1) → f2 (a + 4) 5 = (-1) → f2 (a + 160) 2 = 0 → f2 (a + 160) 3 = 0 → f2 a 4 = 0 → K P2 f2) : kX7_init P f (a + 1) a K := by
  show vX7_init P f (a + 1) a K
  unfold vX7_init
  have G0 := Gr.refl P f a
  refine ⟨⟨G0.cok (by decide), by decide, by decide⟩, fun Q e g d => ?_⟩
  subst e d
  have N1 := gw_new 4 0 G0 (by decide) (q := a + 1 + 0) (by omega)
  refine ⟨⟨N1.cok (by decide), by decide, by decide⟩, ?_⟩
  refine uc_X4 (ob_new _ _ _ _) (fun Q2 g1 H1 I1 p1_0 => ?_)
  have S1 := gr_sub N1 H1 (by omega) (by decide) (by decide)
  refine ⟨S1.ob ho, fun Q1 e1 => ?_⟩
  obtain ⟨G1, L1, U1, T1, R1⟩ := gr_child G0 (by decide) (by decide) (by omega) H1 (Nat.le_refl a) (by omega) e1
  have J1 : IsText Q1 (a + 1) := I1.eq (fun x h1 h2 => U1 x (by omega))
  have r1 : sR Q1 a 0 = some (a + 1) := by rw [R1, if_pos rfl]
  refine ⟨⟨G1.cok (by decide), by decide, by decide⟩, fun Q e g d => ?_⟩
  subst e d
  have N2 := gw_new 0 0 G1 (by decide) (q := a + 1 + 3) (by omega)
  refine ⟨⟨N2.cok (by decide), by decide, by decide⟩, ?_⟩
  refine ⟨rfl, ob_new _ _ _ _, fun Q2 g2 H2 I2 p2_0 p2_1 p2_2 p2_3 => ?_⟩
  have S2 := gr_sub N2 H2 (by omega) (by decide) (by decide)
  refine ⟨S2.ob ho, fun Q2 e2 => ?_⟩
  obtain ⟨G2, L2, U2, T2, R2⟩ := gr_child G1 (by decide) (by decide) (by omega) H2 (Nat.le_refl a) (by omega) e2
  replace J1 : IsText Q2 (a + 1) := J1.eq (fun x h1 h2 => L2 x (by omega) (by omega))
  replace p1_0 : g2 (a + 1) 1 = 0 := (congrFun (L2 (a + 1) (by omega) (by omega)).2.2.2.2 _).trans p1_0
  replace r1 : sR Q2 a 0 = some (a + 1) := by rw [R2, if_neg (by decide)]; exact r1
  have J2 : IsBoard Q2 (a + 4) := I2.eq (fun x h1 h2 => U2 x (by omega))
  have r2 : sR Q2 a 1 = some (a + 4) := by rw [R2, if_pos rfl]
  refine ⟨⟨G2.cok (by decide), by decide, by decide⟩, fun Q e g d => ?_⟩
  subst e d
  have N3 := gw_new 1 0 G2 (by decide) (q := a + 1 + 159) (by omega)
  refine ⟨⟨N3.cok (by decide), by decide, by decide⟩, ?_⟩
  refine ⟨rfl, ob_new _ _ _ _, fun Q2 g3 H3 I3 p3_0 p3_1 => ?_⟩
  have S3 := gr_sub N3 H3 (by omega) (by decide) (by decide)
  refine ⟨S3.ob ho, fun Q3 e3 => ?_⟩
  obtain ⟨G3, L3, U3, T3, R3⟩ := gr_child G2 (by decide) (by decide) (by omega) H3 (Nat.le_refl a) (by omega) e3
  replace J1 : IsText Q3 (a + 1) := J1.eq (fun x h1 h2 => L3 x (by omega) (by omega))
  replace p1_0 : g3 (a + 1) 1 = 0 := (congrFun (L3 (a + 1) (by omega) (by omega)).2.2.2.2 _).trans p1_0
  replace r1 : sR Q3 a 0 = some (a + 1) := by rw [R3, if_neg (by decide)]; exact r1
  replace J2 : IsBoard Q3 (a + 4) := J2.eq (fun x h1 h2 => L3 x (by omega) (by omega))
  replace p2_0 : g3 (a + 4) 2 = 0 := (congrFun (L3 (a + 4) (by omega) (by omega)).2.2.2.2 _).trans p2_0
  replace p2_1 : g3 (a + 4) 3 = 0 := (congrFun (L3 (a + 4) (by omega) (by omega)).2.2.2.2 _).trans p2_1
  replace p2_2 : g3 (a + 4) 4 = (-1) := (congrFun (L3 (a + 4) (by omega) (by omega)).2.2.2.2 _).trans p2_2
  replace p2_3 : g3 (a + 4) 5 = (-1) := (congrFun (L3 (a + 4) (by omega) (by omega)).2.2.2.2 _).trans p2_3
  replace r2 : sR Q3 a 1 = some (a + 4) := by rw [R3, if_neg (by decide)]; exact r2
  have J3 : IsHist Q3 (a + 160) := I3.eq (fun x h1 h2 => U3 x (by omega))
  have r3 : sR Q3 a 2 = some (a + 160) := by rw [R3, if_pos rfl]
  refine ⟨⟨G3.cok (by decide), by decide, by decide⟩, fun Q e g d => ?_⟩
  subst e d
  have N4 := gw_new 0 0 G3 (by decide) (q := a + 1 + 1253) (by omega)
  refine ⟨⟨N4.cok (by decide), by decide, by decide⟩, ?_⟩
  refine ⟨rfl, ob_new _ _ _ _, fun Q2 g4 H4 I4 p4_0 p4_1 p4_2 p4_3 => ?_⟩
  have S4 := gr_sub N4 H4 (by omega) (by decide) (by decide)
  refine ⟨S4.ob ho, fun Q4 e4 => ?_⟩
  obtain ⟨G4, L4, U4, T4, R4⟩ := gr_child G3 (by decide) (by decide) (by omega) H4 (Nat.le_refl a) (by omega) e4
  replace J1 : IsText Q4 (a + 1) := J1.eq (fun x h1 h2 => L4 x (by omega) (by omega))
  replace p1_0 : g4 (a + 1) 1 = 0 := (congrFun (L4 (a + 1) (by omega) (by omega)).2.2.2.2 _).trans p1_0
  replace r1 : sR Q4 a 0 = some (a + 1) := by rw [R4, if_neg (by decide)]; exact r1
  replace J2 : IsBoard Q4 (a + 4) := J2.eq (fun x h1 h2 => L4 x (by omega) (by omega))
  replace p2_0 : g4 (a + 4) 2 = 0 := (congrFun (L4 (a + 4) (by omega) (by omega)).2.2.2.2 _).trans p2_0
  replace p2_1 : g4 (a + 4) 3 = 0 := (congrFun (L4 (a + 4) (by omega) (by omega)).2.2.2.2 _).trans p2_1
  replace p2_2 : g4 (a + 4) 4 = (-1) := (congrFun (L4 (a + 4) (by omega) (by omega)).2.2.2.2 _).trans p2_2
  replace p2_3 : g4 (a + 4) 5 = (-1) := (congrFun (L4 (a + 4) (by omega) (by omega)).2.2.2.2 _).trans p2_3
  replace r2 : sR Q4 a 1 = some (a + 4) := by rw [R4, if_neg (by decide)]; exact r2
  replace J3 : IsHist Q4 (a + 160) := J3.eq (fun x h1 h2 => L4 x (by omega) (by omega))
  replace p3_0 : g4 (a + 160) 2 = 0 := (congrFun (L4 (a + 160) (by omega) (by omega)).2.2.2.2 _).trans p3_0
  replace p3_1 : g4 (a + 160) 3 = 0 := (congrFun (L4 (a + 160) (by omega) (by omega)).2.2.2.2 _).trans p3_1
  replace r3 : sR Q4 a 2 = some (a + 160) := by rw [R4, if_neg (by decide)]; exact r3
  have J4 : IsBoard Q4 (a + 1254) := I4.eq (fun x h1 h2 => U4 x (by omega))
  have r4 : sR Q4 a 3 = some (a + 1254) := by rw [R4, if_pos rfl]
  refine ⟨G4.ob ho, fun s0 ds0 => ?_⟩
  have V4 : s0 a 4 = 0 := by rw [ds0, setf_same]
  have Gs := G4.set (t := a) (j := 4) (v := 0) (Nat.le_refl a)
  rw [← ds0] at Gs
  replace p1_0 : s0 (a + 1) 1 = 0 := by rw [ds0, setf_off (Or.inl (by omega))]; exact p1_0
  replace p2_0 : s0 (a + 4) 2 = 0 := by rw [ds0, setf_off (Or.inl (by omega))]; exact p2_0
  replace p2_1 : s0 (a + 4) 3 = 0 := by rw [ds0, setf_off (Or.inl (by omega))]; exact p2_1
  replace p2_2 : s0 (a + 4) 4 = (-1) := by rw [ds0, setf_off (Or.inl (by omega))]; exact p2_2
  replace p2_3 : s0 (a + 4) 5 = (-1) := by rw [ds0, setf_off (Or.inl (by omega))]; exact p2_3
  replace p3_0 : s0 (a + 160) 2 = 0 := by rw [ds0, setf_off (Or.inl (by omega))]; exact p3_0
  replace p3_1 : s0 (a + 160) 3 = 0 := by rw [ds0, setf_off (Or.inl (by omega))]; exact p3_1
  replace p4_0 : s0 (a + 1254) 2 = 0 := by rw [ds0, setf_off (Or.inl (by omega))]; exact p4_0
  replace p4_1 : s0 (a + 1254) 3 = 0 := by rw [ds0, setf_off (Or.inl (by omega))]; exact p4_1
  replace p4_2 : s0 (a + 1254) 4 = (-1) := by rw [ds0, setf_off (Or.inl (by omega))]; exact p4_2
  replace p4_3 : s0 (a + 1254) 5 = (-1) := by rw [ds0, setf_off (Or.inl (by omega))]; exact p4_3
  clear ds0
  replace G4 := Gs
  refine ⟨⟨G4.cok (by decide), by decide, by decide⟩, fun Q e g d => ?_⟩
  subst e d
  have N5 := gw_new 2 0 G4 (by decide) (q := a + 1 + 1409) (by omega)
  refine ⟨⟨N5.cok (by decide), by decide, by decide⟩, ?_⟩
  refine uc_X2 (ob_new _ _ _ _) (fun Q2 g5 H5 I5  => ?_)
  have S5 := gr_sub N5 H5 (by omega) (by decide) (by decide)
  refine ⟨S5.ob ho, fun Q5 e5 => ?_⟩
  obtain ⟨G5, L5, U5, T5, R5⟩ := gr_child G4 (by decide) (by decide) (by omega) H5 (Nat.le_refl a) (by omega) e5
  replace J1 : IsText Q5 (a + 1) := J1.eq (fun x h1 h2 => L5 x (by omega) (by omega))
  replace p1_0 : g5 (a + 1) 1 = 0 := (congrFun (L5 (a + 1) (by omega) (by omega)).2.2.2.2 _).trans p1_0
  replace r1 : sR Q5 a 0 = some (a + 1) := by rw [R5, if_neg (by decide)]; exact r1
  replace J2 : IsBoard Q5 (a + 4) := J2.eq (fun x h1 h2 => L5 x (by omega) (by omega))
  replace p2_0 : g5 (a + 4) 2 = 0 := (congrFun (L5 (a + 4) (by omega) (by omega)).2.2.2.2 _).trans p2_0
  replace p2_1 : g5 (a + 4) 3 = 0 := (congrFun (L5 (a + 4) (by omega) (by omega)).2.2.2.2 _).trans p2_1
  replace p2_2 : g5 (a + 4) 4 = (-1) := (congrFun (L5 (a + 4) (by omega) (by omega)).2.2.2.2 _).trans p2_2
  replace p2_3 : g5 (a + 4) 5 = (-1) := (congrFun (L5 (a + 4) (by omega) (by omega)).2.2.2.2 _).trans p2_3
  replace r2 : sR Q5 a 1 = some (a + 4) := by rw [R5, if_neg (by decide)]; exact r2
  replace J3 : IsHist Q5 (a + 160) := J3.eq (fun x h1 h2 => L5 x (by omega) (by omega))
  replace p3_0 : g5 (a + 160) 2 = 0 := (congrFun (L5 (a + 160) (by omega) (by omega)).2.2.2.2 _).trans p3_0
  replace p3_1 : g5 (a + 160) 3 = 0 := (congrFun (L5 (a + 160) (by omega) (by omega)).2.2.2.2 _).trans p3_1
  replace r3 : sR Q5 a 2 = some (a + 160) := by rw [R5, if_neg (by decide)]; exact r3
  replace J4 : IsBoard Q5 (a + 1254) := J4.eq (fun x h1 h2 => L5 x (by omega) (by omega))
  replace p4_0 : g5 (a + 1254) 2 = 0 := (congrFun (L5 (a + 1254) (by omega) (by omega)).2.2.2.2 _).trans p4_0
  replace p4_1 : g5 (a + 1254) 3 = 0 := (congrFun (L5 (a + 1254) (by omega) (by omega)).2.2.2.2 _).trans p4_1
  replace p4_2 : g5 (a + 1254) 4 = (-1) := (congrFun (L5 (a + 1254) (by omega) (by omega)).2.2.2.2 _).trans p4_2
  replace p4_3 : g5 (a + 1254) 5 = (-1) := (congrFun (L5 (a + 1254) (by omega) (by omega)).2.2.2.2 _).trans p4_3
  replace r4 : sR Q5 a 3 = some (a + 1254) := by rw [R5, if_neg (by decide)]; exact r4
  replace V4 : g5 a 4 = 0 := (congrFun T5.2.2.2 _).trans V4
  have J5 : IsLoaf Q5 (a + 1410) := I5.eq (fun x h1 h2 => U5 x (by omega))
  have r5 : sR Q5 a 5 = some (a + 1410) := by rw [R5, if_pos rfl]
  refine ⟨⟨G5.cok (by decide), by decide, by decide⟩, fun Q e g d => ?_⟩
  subst e d
  have N6 := gw_new 6 0 G5 (by decide) (q := a + 1 + 1431) (by omega)
  refine ⟨⟨N6.cok (by decide), by decide, by decide⟩, ?_⟩
  refine uc_X6 (ob_new _ _ _ _) (fun Q2 g6 H6 I6 p6_0 p6_1 => ?_)
  have S6 := gr_sub N6 H6 (by omega) (by decide) (by decide)
  refine ⟨S6.ob ho, fun Q6 e6 => ?_⟩
  obtain ⟨G6, L6, U6, T6, R6⟩ := gr_child G5 (by decide) (by decide) (by omega) H6 (Nat.le_refl a) (by omega) e6
  replace J1 : IsText Q6 (a + 1) := J1.eq (fun x h1 h2 => L6 x (by omega) (by omega))
  replace p1_0 : g6 (a + 1) 1 = 0 := (congrFun (L6 (a + 1) (by omega) (by omega)).2.2.2.2 _).trans p1_0
  replace r1 : sR Q6 a 0 = some (a + 1) := by rw [R6, if_neg (by decide)]; exact r1
  replace J2 : IsBoard Q6 (a + 4) := J2.eq (fun x h1 h2 => L6 x (by omega) (by omega))
  replace p2_0 : g6 (a + 4) 2 = 0 := (congrFun (L6 (a + 4) (by omega) (by omega)).2.2.2.2 _).trans p2_0
  replace p2_1 : g6 (a + 4) 3 = 0 := (congrFun (L6 (a + 4) (by omega) (by omega)).2.2.2.2 _).trans p2_1
  replace p2_2 : g6 (a + 4) 4 = (-1) := (congrFun (L6 (a + 4) (by omega) (by omega)).2.2.2.2 _).trans p2_2
  replace p2_3 : g6 (a + 4) 5 = (-1) := (congrFun (L6 (a + 4) (by omega) (by omega)).2.2.2.2 _).trans p2_3
  replace r2 : sR Q6 a 1 = some (a + 4) := by rw [R6, if_neg (by decide)]; exact r2
  replace J3 : IsHist Q6 (a + 160) := J3.eq (fun x h1 h2 => L6 x (by omega) (by omega))
  replace p3_0 : g6 (a + 160) 2 = 0 := (congrFun (L6 (a + 160) (by omega) (by omega)).2.2.2.2 _).trans p3_0
  replace p3_1 : g6 (a + 160) 3 = 0 := (congrFun (L6 (a + 160) (by omega) (by omega)).2.2.2.2 _).trans p3_1
  replace r3 : sR Q6 a 2 = some (a + 160) := by rw [R6, if_neg (by decide)]; exact r3
  replace J4 : IsBoard Q6 (a + 1254) := J4.eq (fun x h1 h2 => L6 x (by omega) (by omega))
  replace p4_0 : g6 (a + 1254) 2 = 0 := (congrFun (L6 (a + 1254) (by omega) (by omega)).2.2.2.2 _).trans p4_0
  replace p4_1 : g6 (a + 1254) 3 = 0 := (congrFun (L6 (a + 1254) (by omega) (by omega)).2.2.2.2 _).trans p4_1
  replace p4_2 : g6 (a + 1254) 4 = (-1) := (congrFun (L6 (a + 1254) (by omega) (by omega)).2.2.2.2 _).trans p4_2
  replace p4_3 : g6 (a + 1254) 5 = (-1) := (congrFun (L6 (a + 1254) (by omega) (by omega)).2.2.2.2 _).trans p4_3
  replace r4 : sR Q6 a 3 = some (a + 1254) := by rw [R6, if_neg (by decide)]; exact r4
  replace V4 : g6 a 4 = 0 := (congrFun T6.2.2.2 _).trans V4
  replace J5 : IsLoaf Q6 (a + 1410) := J5.eq (fun x h1 h2 => L6 x (by omega) (by omega))
  replace r5 : sR Q6 a 5 = some (a + 1410) := by rw [R6, if_neg (by decide)]; exact r5
  have J6 : IsWord Q6 (a + 1432) := I6.eq (fun x h1 h2 => U6 x (by omega))
  have r6 : sR Q6 a 6 = some (a + 1432) := by rw [R6, if_pos rfl]
  refine ⟨⟨G6.cok (by decide), by decide, by decide⟩, fun Q e g d => ?_⟩
  subst e d
  have N7 := gw_new 6 0 G6 (by decide) (q := a + 1 + 1434) (by omega)
  refine ⟨⟨N7.cok (by decide), by decide, by decide⟩, ?_⟩
  refine uc_X6 (ob_new _ _ _ _) (fun Q2 g7 H7 I7 p7_0 p7_1 => ?_)
  have S7 := gr_sub N7 H7 (by omega) (by decide) (by decide)
  refine ⟨S7.ob ho, fun Q7 e7 => ?_⟩
  obtain ⟨G7, L7, U7, T7, R7⟩ := gr_child G6 (by decide) (by decide) (by omega) H7 (Nat.le_refl a) (by omega) e7
  replace J1 : IsText Q7 (a + 1) := J1.eq (fun x h1 h2 => L7 x (by omega) (by omega))
  replace p1_0 : g7 (a + 1) 1 = 0 := (congrFun (L7 (a + 1) (by omega) (by omega)).2.2.2.2 _).trans p1_0
  replace r1 : sR Q7 a 0 = some (a + 1) := by rw [R7, if_neg (by decide)]; exact r1
  replace J2 : IsBoard Q7 (a + 4) := J2.eq (fun x h1 h2 => L7 x (by omega) (by omega))
  replace p2_0 : g7 (a + 4) 2 = 0 := (congrFun (L7 (a + 4) (by omega) (by omega)).2.2.2.2 _).trans p2_0
  replace p2_1 : g7 (a + 4) 3 = 0 := (congrFun (L7 (a + 4) (by omega) (by omega)).2.2.2.2 _).trans p2_1
  replace p2_2 : g7 (a + 4) 4 = (-1) := (congrFun (L7 (a + 4) (by omega) (by omega)).2.2.2.2 _).trans p2_2
  replace p2_3 : g7 (a + 4) 5 = (-1) := (congrFun (L7 (a + 4) (by omega) (by omega)).2.2.2.2 _).trans p2_3
  replace r2 : sR Q7 a 1 = some (a + 4) := by rw [R7, if_neg (by decide)]; exact r2
  replace J3 : IsHist Q7 (a + 160) := J3.eq (fun x h1 h2 => L7 x (by omega) (by omega))
  replace p3_0 : g7 (a + 160) 2 = 0 := (congrFun (L7 (a + 160) (by omega) (by omega)).2.2.2.2 _).trans p3_0
  replace p3_1 : g7 (a + 160) 3 = 0 := (congrFun (L7 (a + 160) (by omega) (by omega)).2.2.2.2 _).trans p3_1
  replace r3 : sR Q7 a 2 = some (a + 160) := by rw [R7, if_neg (by decide)]; exact r3
  replace J4 : IsBoard Q7 (a + 1254) := J4.eq (fun x h1 h2 => L7 x (by omega) (by omega))
  replace p4_0 : g7 (a + 1254) 2 = 0 := (congrFun (L7 (a + 1254) (by omega) (by omega)).2.2.2.2 _).trans p4_0
  replace p4_1 : g7 (a + 1254) 3 = 0 := (congrFun (L7 (a + 1254) (by omega) (by omega)).2.2.2.2 _).trans p4_1
  replace p4_2 : g7 (a + 1254) 4 = (-1) := (congrFun (L7 (a + 1254) (by omega) (by omega)).2.2.2.2 _).trans p4_2
  replace p4_3 : g7 (a + 1254) 5 = (-1) := (congrFun (L7 (a + 1254) (by omega) (by omega)).2.2.2.2 _).trans p4_3
  replace r4 : sR Q7 a 3 = some (a + 1254) := by rw [R7, if_neg (by decide)]; exact r4
  replace V4 : g7 a 4 = 0 := (congrFun T7.2.2.2 _).trans V4
  replace J5 : IsLoaf Q7 (a + 1410) := J5.eq (fun x h1 h2 => L7 x (by omega) (by omega))
  replace r5 : sR Q7 a 5 = some (a + 1410) := by rw [R7, if_neg (by decide)]; exact r5
  replace J6 : IsWord Q7 (a + 1432) := J6.eq (fun x h1 h2 => L7 x (by omega) (by omega))
  replace p6_0 : g7 (a + 1432) 1 = 2 := (congrFun (L7 (a + 1432) (by omega) (by omega)).2.2.2.2 _).trans p6_0
  replace p6_1 : g7 (a + 1432) 2 = 0 := (congrFun (L7 (a + 1432) (by omega) (by omega)).2.2.2.2 _).trans p6_1
  replace r6 : sR Q7 a 6 = some (a + 1432) := by rw [R7, if_neg (by decide)]; exact r6
  have J7 : IsWord Q7 (a + 1435) := I7.eq (fun x h1 h2 => U7 x (by omega))
  have r7 : sR Q7 a 7 = some (a + 1435) := by rw [R7, if_pos rfl]
  refine ⟨⟨by decide, by decide⟩, ?_⟩
  exact hK _ _ G7 ⟨G7.ob ho, r1, J1, r2, J2, r3, J3, r4, J4, r5, J5, r6, J6, r7, J7⟩ p1_0 p2_0 p2_1 p2_2 p2_3 p3_0 p3_1 V4
