def vX3_init (P : Sk) (f : St) (sz : Nat) (a : Nat) (p1 : Int32) (K : Sk → St → Prop) : Prop :=
  (0 ≤ p1 → ((¬ p1 < 0 ∧ p1.toNatClampNeg * 4 ≤ 536870912) ∧ COk P P sz (0) ∧ (0 + 1 ≤ 1 ∧ 0 + p1.toNatClampNeg ≤ p1.toNatClampNeg)) ∧ (∀ P14 : Sk, P14 = pNew P (sz + 0) 9 (p1.toNatClampNeg) → ∀ g14 : St, g14 = va_up f (sz + 0) z0 → (Ob P14 a 3) ∧ (∀ P16 : Sk, P16 = pRef P14 a 0 (sz + 0) → (1 ≤ 1 ∧ 0 + p1.toNatClampNeg ≤ p1.toNatClampNeg) ∧ K P16 g14))) ∧ (¬ 0 ≤ p1 → ((¬ (0 : Int32) < 0 ∧ 0 * 4 ≤ 536870912) ∧ COk P P sz (0) ∧ (0 + 1 ≤ 1 ∧ 0 + 0 ≤ p1.toNatClampNeg)) ∧ (∀ P14 : Sk, P14 = pNew P (sz + 0) 9 (0) → ∀ g14 : St, g14 = va_up f (sz + 0) z0 → (Ob P14 a 3) ∧ (∀ P16 : Sk, P16 = pRef P14 a 0 (sz + 0) → (1 ≤ 1 ∧ 0 ≤ p1.toNatClampNeg) ∧ K P16 g14)))
abbrev rmC_X3_init (p1 : Int32) : Room := { frames := 1, cells := 1, slots := p1.toNatClampNeg, locals := 20 }
set_option maxRecDepth 20000 in
set_option maxHeartbeats 4000000 in
theorem mX3_init (l : Launch) (G : Gl) (P : Sk) (f : St) (sz : Nat) (a : Nat) (p1 : Int32) (K : Sk → St → Prop) (h : vX3_init P f sz a p1 K) : Met l yX3_init (wU yX3_init cX3_init 2 none) (rmC_X3_init p1) (PcC G P f sz [.ref a, .int p1]) (QcC G P sz K) (1) (p1.toNatClampNeg) (frA P sz) := by
  refine v_metc (own := RX3) [.ref a, .int p1] (by decide +kernel) rfl rfl (Nat.le_of_ble_eq_true rfl) (fun p e s m args below meth c hsz o hr hnm hO => ?_)
  refine v_lv (lv2 := [(0, .ref a), (1, .int p1)]) rfl ?_
  unfold vX3_init at h
  refine v_aload_n o 0 dX3_init_0 rfl ?_
  refine v_obj o (mU 119 (by decide +kernel) rfl) (mU 106 (by decide +kernel) rfl) (mU 107 (by decide +kernel) rfl) ⟨Nat.le_of_ble_eq_true rfl, Nat.le_of_ble_eq_true rfl⟩ dX3_init_1 ?_
  refine v_aload_n o 0 dX3_init_4 rfl ?_
  refine v_iload_n o 1 dX3_init_5 rfl ?_
  refine v_if_ge o (tgt := 13) dX3_init_6 (by decide) (fun c6 => ?_) (fun c6 => ?_)
  · replace h := h.1 c6
    refine v_iload_n o 1 dX3_init_13 rfl ?_
    refine v_newarr o hsz rfl h.1.2.1.1 h.1.2.1.2 (mU 124 (by decide +kernel) rfl) h.1.1.1 rfl h.1.1.2 h.1.2.2 dX3_init_14 ?_
    replace h := h.2
    generalize eP14 : pNew P (sz + 0) 9 (p1.toNatClampNeg) = P14
    replace h := h P14 eP14.symm
    generalize eg14 : va_up f (sz + 0) z0 = g14
    replace h := h g14 eg14.symm
    refine v_eqc (c2 := 1) (s2 := 0 + p1.toNatClampNeg) (by first | rfl | omega) (by first | rfl | omega) ?_
    refine v_pfR o lgX3_7 hnm h.1 dX3_init_16 ?_
    replace h := h.2
    generalize eP16 : pRef P14 a 0 (sz + 0) = P16
    replace h := h P16 eP16.symm
    refine v_widen (k := 1) (n := p1.toNatClampNeg) h.1.1 h.1.2 ?_
    exact v_vretC o rfl hr dX3_init_19 h.2
  · replace h := h.2 c6
    refine v_iconst o (v := 0) dX3_init_9 (by decide) ?_
    refine v_goto o (tgt := 14) dX3_init_10 (by decide) ?_
    refine v_newarr o hsz rfl h.1.2.1.1 h.1.2.1.2 (mU 124 (by decide +kernel) rfl) h.1.1.1 (by decide) h.1.1.2 h.1.2.2 dX3_init_14 ?_
    replace h := h.2
    generalize eP14 : pNew P (sz + 0) 9 (0) = P14
    replace h := h P14 eP14.symm
    generalize eg14 : va_up f (sz + 0) z0 = g14
    replace h := h g14 eg14.symm
    refine v_eqc (c2 := 1) (s2 := 0) (by first | rfl | omega) (by first | rfl | omega) ?_
    refine v_pfR o lgX3_7 hnm h.1 dX3_init_16 ?_
    replace h := h.2
    generalize eP16 : pRef P14 a 0 (sz + 0) = P16
    replace h := h P16 eP16.symm
    refine v_widen (k := 1) (n := p1.toNatClampNeg) h.1.1 h.1.2 ?_
    exact v_vretC o rfl hr dX3_init_19 h.2
abbrev kX3_init := @vX3_init
abbrev metX3_init := @mX3_init

def vX6_init (P : Sk) (f : St) (sz : Nat) (a : Nat) (K : Sk → St → Prop) : Prop :=
  (COk P P sz (0) ∧ (0 + 1 ≤ 2 ∧ 0 + 1 ≤ 25)) ∧ (∀ P5 : Sk, P5 = pNew P (sz + 0) 3 0 → ∀ g5 : St, g5 = va_up f (sz + 0) z0 → (COk P P5 sz (1) ∧ (1 + 1 ≤ 2 ∧ 1 + 24 ≤ 25)) ∧ (kX3_init P5 g5 (sz + 1) (sz + 0) 24 (fun P11 g11 => (Ob P11 a 6) ∧ (∀ P14 : Sk, P14 = pRef P11 a 0 (sz + 0) → (Ob P14 a 6) ∧ (∀ g19 : St, g19 = setf g11 a 1 2 → (Ob P14 a 6) ∧ (∀ g24 : St, g24 = setf g19 a 2 0 → (2 ≤ 2 ∧ 25 ≤ 25) ∧ K P14 g24))))))
abbrev rmC_X6_init : Room := { frames := 2, cells := 2, slots := 25, locals := 41 }
set_option maxRecDepth 20000 in
set_option maxHeartbeats 4000000 in
theorem mX6_init (l : Launch) (G : Gl) (P : Sk) (f : St) (sz : Nat) (a : Nat) (K : Sk → St → Prop) (h : vX6_init P f sz a K) : Met l yX6_init (wU yX6_init cX6_init 1 none) (rmC_X6_init) (PcC G P f sz [.ref a]) (QcC G P sz K) (2) (25) (frA P sz) := by
  refine v_metc (own := RX6) [.ref a] (by decide +kernel) rfl rfl (Nat.le_of_ble_eq_true rfl) (fun p e s m args below meth c hsz o hr hnm hO => ?_)
  refine v_lv (lv2 := [(0, .ref a)]) rfl ?_
  unfold vX6_init at h
  refine v_aload_n o 0 dX6_init_0 rfl ?_
  refine v_obj o (mU 150 (by decide +kernel) rfl) (mU 106 (by decide +kernel) rfl) (mU 107 (by decide +kernel) rfl) ⟨Nat.le_of_ble_eq_true rfl, Nat.le_of_ble_eq_true rfl⟩ dX6_init_1 ?_
  refine v_aload_n o 0 dX6_init_4 rfl ?_
  refine v_new o hsz rfl h.1.1.1 h.1.1.2 lnX6_9 h.1.2 dX6_init_5 ?_
  replace h := h.2
  generalize eP5 : pNew P (sz + 0) 3 0 = P5
  replace h := h P5 eP5.symm
  generalize eg5 : va_up f (sz + 0) z0 = g5
  replace h := h g5 eg5.symm
  refine v_eqc (c2 := 1) (s2 := 1) (by first | rfl | omega) (by first | rfl | omega) ?_
  refine v_dup o dX6_init_8 rfl ?_
  refine v_bipush o (v := 24) dX6_init_9 (by decide) ?_
  have hq := h.1
  replace h := h.2
  refine v_cI o hsz rfl hq.1.1 hq.1.2 hO [.int 24] [.ref (sz + 0), .ref a] (metX3_init l G P5 g5 (sz + 1) (sz + 0) 24 _ h) (cwI 1 o.1.2.2.2.2 (gUc (mU 118 (by decide +kernel) rfl)) rfl rfl rfl (o.1.2.2.2.2 _ (mU 84 (by decide +kernel) rfl)) (o.1.2.2.2.2 _ (mU 152 (by decide +kernel) rfl)) (o.1.2.2.2.2 _ (mU 117 (by decide +kernel) rfl)) rfl ⟨by decide +kernel, by decide +kernel, by decide +kernel⟩ ⟨Nat.le_of_ble_eq_true rfl, Nat.le_of_ble_eq_true rfl⟩) rfl (Nat.le_of_ble_eq_true rfl) hq.2 dX6_init_11 rfl (fun P11 g11 h => ?_)
  refine v_eqc (c2 := 2) (s2 := 25) (by first | rfl | omega) (by first | rfl | omega | decide) ?_
  refine v_pfR o lgX6_14 hnm h.1 dX6_init_14 ?_
  replace h := h.2
  generalize eP14 : pRef P11 a 0 (sz + 0) = P14
  replace h := h P14 eP14.symm
  refine v_aload_n o 0 dX6_init_17 rfl ?_
  refine v_iconst o (v := 2) dX6_init_18 (by decide) ?_
  refine v_pf o lpX6_20 h.1 ⟨rfl, rfl⟩ dX6_init_19 ?_
  replace h := h.2
  generalize eg19 : setf g11 a 1 2 = g19
  replace h := h g19 eg19.symm
  refine v_aload_n o 0 dX6_init_22 rfl ?_
  refine v_iconst o (v := 0) dX6_init_23 (by decide) ?_
  refine v_pf o lpX6_24 h.1 ⟨rfl, rfl⟩ dX6_init_24 ?_
  replace h := h.2
  generalize eg24 : setf g19 a 2 0 = g24
  replace h := h g24 eg24.symm
  refine v_widen (k := 2) (n := 25) h.1.1 h.1.2 ?_
  exact v_vretC o rfl hr dX6_init_27 h.2
abbrev kX6_init := @vX6_init
abbrev metX6_init := @mX6_init

def vX5_init (P : Sk) (f : St) (sz : Nat) (a : Nat) (K : Sk → St → Prop) : Prop :=
  (COk P P sz (0) ∧ (0 + 1 ≤ 14 ∧ 0 + 1 ≤ 90)) ∧ (∀ P5 : Sk, P5 = pNew P (sz + 0) 3 0 → ∀ g5 : St, g5 = va_up f (sz + 0) z0 → (COk P P5 sz (1) ∧ (1 + 1 ≤ 14 ∧ 1 + 24 ≤ 90)) ∧ (kX3_init P5 g5 (sz + 1) (sz + 0) 24 (fun P11 g11 => (Ob P11 a 5) ∧ (∀ P14 : Sk, P14 = pRef P11 a 0 (sz + 0) → (COk P P14 sz (2) ∧ (2 + 1 ≤ 14 ∧ 25 + 1 ≤ 90)) ∧ (∀ P18 : Sk, P18 = pNew P14 (sz + 2) 3 0 → ∀ g18 : St, g18 = va_up g11 (sz + 2) z0 → (COk P P18 sz (3) ∧ (3 + 1 ≤ 14 ∧ 26 + 24 ≤ 90)) ∧ (kX3_init P18 g18 (sz + 3) (sz + 2) 24 (fun P24 g24 => (Ob P24 a 5) ∧ (∀ P27 : Sk, P27 = pRef P24 a 1 (sz + 2) → (COk P P27 sz (4) ∧ (4 + 1 ≤ 14 ∧ 50 + 1 ≤ 90)) ∧ (∀ P31 : Sk, P31 = pNew P27 (sz + 4) 3 0 → ∀ g31 : St, g31 = va_up g24 (sz + 4) z0 → (COk P P31 sz (5) ∧ (5 + 1 ≤ 14 ∧ 51 + 7 ≤ 90)) ∧ (kX3_init P31 g31 (sz + 5) (sz + 4) 7 (fun P37 g37 => (Ob P37 a 5) ∧ (∀ P40 : Sk, P40 = pRef P37 a 2 (sz + 4) → (COk P P40 sz (6) ∧ (6 + 1 ≤ 14 ∧ 58 + 1 ≤ 90)) ∧ (∀ P44 : Sk, P44 = pNew P40 (sz + 6) 3 0 → ∀ g44 : St, g44 = va_up g37 (sz + 6) z0 → (COk P P44 sz (7) ∧ (7 + 1 ≤ 14 ∧ 59 + 7 ≤ 90)) ∧ (kX3_init P44 g44 (sz + 7) (sz + 6) 7 (fun P50 g50 => (Ob P50 a 5) ∧ (∀ P53 : Sk, P53 = pRef P50 a 3 (sz + 6) → (COk P P53 sz (8) ∧ (8 + 1 ≤ 14 ∧ 66 + 1 ≤ 90)) ∧ (∀ P57 : Sk, P57 = pNew P53 (sz + 8) 3 0 → ∀ g57 : St, g57 = va_up g50 (sz + 8) z0 → (COk P P57 sz (9) ∧ (9 + 1 ≤ 14 ∧ 67 + 7 ≤ 90)) ∧ (kX3_init P57 g57 (sz + 9) (sz + 8) 7 (fun P63 g63 => (Ob P63 a 5) ∧ (∀ P66 : Sk, P66 = pRef P63 a 4 (sz + 8) → (COk P P66 sz (10) ∧ (10 + 1 ≤ 14 ∧ 74 + 1 ≤ 90)) ∧ (∀ P70 : Sk, P70 = pNew P66 (sz + 10) 3 0 → ∀ g70 : St, g70 = va_up g63 (sz + 10) z0 → (COk P P70 sz (11) ∧ (11 + 1 ≤ 14 ∧ 75 + 7 ≤ 90)) ∧ (kX3_init P70 g70 (sz + 11) (sz + 10) 7 (fun P76 g76 => (Ob P76 a 5) ∧ (∀ P79 : Sk, P79 = pRef P76 a 5 (sz + 10) → (COk P P79 sz (12) ∧ (12 + 1 ≤ 14 ∧ 82 + 1 ≤ 90)) ∧ (∀ P83 : Sk, P83 = pNew P79 (sz + 12) 3 0 → ∀ g83 : St, g83 = va_up g76 (sz + 12) z0 → (COk P P83 sz (13) ∧ (13 + 1 ≤ 14 ∧ 83 + 7 ≤ 90)) ∧ (kX3_init P83 g83 (sz + 13) (sz + 12) 7 (fun P89 g89 => (Ob P89 a 5) ∧ (∀ P92 : Sk, P92 = pRef P89 a 6 (sz + 12) → (Ob P92 a 5) ∧ (∀ g97 : St, g97 = setf g89 a 7 2 → (14 ≤ 14 ∧ 90 ≤ 90) ∧ K P92 g97)))))))))))))))))))))))))))))
abbrev rmC_X5_init : Room := { frames := 2, cells := 14, slots := 90, locals := 41 }
set_option maxRecDepth 20000 in
set_option maxHeartbeats 4000000 in
theorem mX5_init (l : Launch) (G : Gl) (P : Sk) (f : St) (sz : Nat) (a : Nat) (K : Sk → St → Prop) (h : vX5_init P f sz a K) : Met l yX5_init (wU yX5_init cX5_init 1 none) (rmC_X5_init) (PcC G P f sz [.ref a]) (QcC G P sz K) (14) (90) (frA P sz) := by
  refine v_metc (own := RX5) [.ref a] (by decide +kernel) rfl rfl (Nat.le_of_ble_eq_true rfl) (fun p e s m args below meth c hsz o hr hnm hO => ?_)
  refine v_lv (lv2 := [(0, .ref a)]) rfl ?_
  unfold vX5_init at h
  refine v_aload_n o 0 dX5_init_0 rfl ?_
  refine v_obj o (mU 168 (by decide +kernel) rfl) (mU 106 (by decide +kernel) rfl) (mU 107 (by decide +kernel) rfl) ⟨Nat.le_of_ble_eq_true rfl, Nat.le_of_ble_eq_true rfl⟩ dX5_init_1 ?_
  refine v_aload_n o 0 dX5_init_4 rfl ?_
  refine v_new o hsz rfl h.1.1.1 h.1.1.2 lnX5_9 h.1.2 dX5_init_5 ?_
  replace h := h.2
  generalize eP5 : pNew P (sz + 0) 3 0 = P5
  replace h := h P5 eP5.symm
  generalize eg5 : va_up f (sz + 0) z0 = g5
  replace h := h g5 eg5.symm
  refine v_eqc (c2 := 1) (s2 := 1) (by first | rfl | omega) (by first | rfl | omega) ?_
  refine v_dup o dX5_init_8 rfl ?_
  refine v_bipush o (v := 24) dX5_init_9 (by decide) ?_
  have hq := h.1
  replace h := h.2
  refine v_cI o hsz rfl hq.1.1 hq.1.2 hO [.int 24] [.ref (sz + 0), .ref a] (metX3_init l G P5 g5 (sz + 1) (sz + 0) 24 _ h) (cwI 1 o.1.2.2.2.2 (gUc (mU 118 (by decide +kernel) rfl)) rfl rfl rfl (o.1.2.2.2.2 _ (mU 84 (by decide +kernel) rfl)) (o.1.2.2.2.2 _ (mU 170 (by decide +kernel) rfl)) (o.1.2.2.2.2 _ (mU 117 (by decide +kernel) rfl)) rfl ⟨by decide +kernel, by decide +kernel, by decide +kernel⟩ ⟨Nat.le_of_ble_eq_true rfl, Nat.le_of_ble_eq_true rfl⟩) rfl (Nat.le_of_ble_eq_true rfl) hq.2 dX5_init_11 rfl (fun P11 g11 h => ?_)
  refine v_eqc (c2 := 2) (s2 := 25) (by first | rfl | omega) (by first | rfl | omega | decide) ?_
  refine v_pfR o lgX5_14 hnm h.1 dX5_init_14 ?_
  replace h := h.2
  generalize eP14 : pRef P11 a 0 (sz + 0) = P14
  replace h := h P14 eP14.symm
  refine v_aload_n o 0 dX5_init_17 rfl ?_
  refine v_new o hsz rfl h.1.1.1 h.1.1.2 lnX5_9 h.1.2 dX5_init_18 ?_
  replace h := h.2
  generalize eP18 : pNew P14 (sz + 2) 3 0 = P18
  replace h := h P18 eP18.symm
  generalize eg18 : va_up g11 (sz + 2) z0 = g18
  replace h := h g18 eg18.symm
  refine v_eqc (c2 := 3) (s2 := 26) (by first | rfl | omega) (by first | rfl | omega) ?_
  refine v_dup o dX5_init_21 rfl ?_
  refine v_bipush o (v := 24) dX5_init_22 (by decide) ?_
  have hq := h.1
  replace h := h.2
  refine v_cI o hsz rfl hq.1.1 hq.1.2 hO [.int 24] [.ref (sz + 2), .ref a] (metX3_init l G P18 g18 (sz + 3) (sz + 2) 24 _ h) (cwI 1 o.1.2.2.2.2 (gUc (mU 118 (by decide +kernel) rfl)) rfl rfl rfl (o.1.2.2.2.2 _ (mU 84 (by decide +kernel) rfl)) (o.1.2.2.2.2 _ (mU 170 (by decide +kernel) rfl)) (o.1.2.2.2.2 _ (mU 117 (by decide +kernel) rfl)) rfl ⟨by decide +kernel, by decide +kernel, by decide +kernel⟩ ⟨Nat.le_of_ble_eq_true rfl, Nat.le_of_ble_eq_true rfl⟩) rfl (Nat.le_of_ble_eq_true rfl) hq.2 dX5_init_24 rfl (fun P24 g24 h => ?_)
  refine v_eqc (c2 := 4) (s2 := 50) (by first | rfl | omega) (by first | rfl | omega | decide) ?_
  refine v_pfR o lgX5_20 hnm h.1 dX5_init_27 ?_
  replace h := h.2
  generalize eP27 : pRef P24 a 1 (sz + 2) = P27
  replace h := h P27 eP27.symm
  refine v_aload_n o 0 dX5_init_30 rfl ?_
  refine v_new o hsz rfl h.1.1.1 h.1.1.2 lnX5_9 h.1.2 dX5_init_31 ?_
  replace h := h.2
  generalize eP31 : pNew P27 (sz + 4) 3 0 = P31
  replace h := h P31 eP31.symm
  generalize eg31 : va_up g24 (sz + 4) z0 = g31
  replace h := h g31 eg31.symm
  refine v_eqc (c2 := 5) (s2 := 51) (by first | rfl | omega) (by first | rfl | omega) ?_
  refine v_dup o dX5_init_34 rfl ?_
  refine v_bipush o (v := 7) dX5_init_35 (by decide) ?_
  have hq := h.1
  replace h := h.2
  refine v_cI o hsz rfl hq.1.1 hq.1.2 hO [.int 7] [.ref (sz + 4), .ref a] (metX3_init l G P31 g31 (sz + 5) (sz + 4) 7 _ h) (cwI 1 o.1.2.2.2.2 (gUc (mU 118 (by decide +kernel) rfl)) rfl rfl rfl (o.1.2.2.2.2 _ (mU 84 (by decide +kernel) rfl)) (o.1.2.2.2.2 _ (mU 170 (by decide +kernel) rfl)) (o.1.2.2.2.2 _ (mU 117 (by decide +kernel) rfl)) rfl ⟨by decide +kernel, by decide +kernel, by decide +kernel⟩ ⟨Nat.le_of_ble_eq_true rfl, Nat.le_of_ble_eq_true rfl⟩) rfl (Nat.le_of_ble_eq_true rfl) hq.2 dX5_init_37 rfl (fun P37 g37 h => ?_)
  refine v_eqc (c2 := 6) (s2 := 58) (by first | rfl | omega) (by first | rfl | omega | decide) ?_
  refine v_pfR o lgX5_23 hnm h.1 dX5_init_40 ?_
  replace h := h.2
  generalize eP40 : pRef P37 a 2 (sz + 4) = P40
  replace h := h P40 eP40.symm
  refine v_aload_n o 0 dX5_init_43 rfl ?_
  refine v_new o hsz rfl h.1.1.1 h.1.1.2 lnX5_9 h.1.2 dX5_init_44 ?_
  replace h := h.2
  generalize eP44 : pNew P40 (sz + 6) 3 0 = P44
  replace h := h P44 eP44.symm
  generalize eg44 : va_up g37 (sz + 6) z0 = g44
  replace h := h g44 eg44.symm
  refine v_eqc (c2 := 7) (s2 := 59) (by first | rfl | omega) (by first | rfl | omega) ?_
  refine v_dup o dX5_init_47 rfl ?_
  refine v_bipush o (v := 7) dX5_init_48 (by decide) ?_
  have hq := h.1
  replace h := h.2
  refine v_cI o hsz rfl hq.1.1 hq.1.2 hO [.int 7] [.ref (sz + 6), .ref a] (metX3_init l G P44 g44 (sz + 7) (sz + 6) 7 _ h) (cwI 1 o.1.2.2.2.2 (gUc (mU 118 (by decide +kernel) rfl)) rfl rfl rfl (o.1.2.2.2.2 _ (mU 84 (by decide +kernel) rfl)) (o.1.2.2.2.2 _ (mU 170 (by decide +kernel) rfl)) (o.1.2.2.2.2 _ (mU 117 (by decide +kernel) rfl)) rfl ⟨by decide +kernel, by decide +kernel, by decide +kernel⟩ ⟨Nat.le_of_ble_eq_true rfl, Nat.le_of_ble_eq_true rfl⟩) rfl (Nat.le_of_ble_eq_true rfl) hq.2 dX5_init_50 rfl (fun P50 g50 h => ?_)
  refine v_eqc (c2 := 8) (s2 := 66) (by first | rfl | omega) (by first | rfl | omega | decide) ?_
  refine v_pfR o lgX5_26 hnm h.1 dX5_init_53 ?_
  replace h := h.2
  generalize eP53 : pRef P50 a 3 (sz + 6) = P53
  replace h := h P53 eP53.symm
  refine v_aload_n o 0 dX5_init_56 rfl ?_
  refine v_new o hsz rfl h.1.1.1 h.1.1.2 lnX5_9 h.1.2 dX5_init_57 ?_
  replace h := h.2
  generalize eP57 : pNew P53 (sz + 8) 3 0 = P57
  replace h := h P57 eP57.symm
  generalize eg57 : va_up g50 (sz + 8) z0 = g57
  replace h := h g57 eg57.symm
  refine v_eqc (c2 := 9) (s2 := 67) (by first | rfl | omega) (by first | rfl | omega) ?_
  refine v_dup o dX5_init_60 rfl ?_
  refine v_bipush o (v := 7) dX5_init_61 (by decide) ?_
  have hq := h.1
  replace h := h.2
  refine v_cI o hsz rfl hq.1.1 hq.1.2 hO [.int 7] [.ref (sz + 8), .ref a] (metX3_init l G P57 g57 (sz + 9) (sz + 8) 7 _ h) (cwI 1 o.1.2.2.2.2 (gUc (mU 118 (by decide +kernel) rfl)) rfl rfl rfl (o.1.2.2.2.2 _ (mU 84 (by decide +kernel) rfl)) (o.1.2.2.2.2 _ (mU 170 (by decide +kernel) rfl)) (o.1.2.2.2.2 _ (mU 117 (by decide +kernel) rfl)) rfl ⟨by decide +kernel, by decide +kernel, by decide +kernel⟩ ⟨Nat.le_of_ble_eq_true rfl, Nat.le_of_ble_eq_true rfl⟩) rfl (Nat.le_of_ble_eq_true rfl) hq.2 dX5_init_63 rfl (fun P63 g63 h => ?_)
  refine v_eqc (c2 := 10) (s2 := 74) (by first | rfl | omega) (by first | rfl | omega | decide) ?_
  refine v_pfR o lgX5_29 hnm h.1 dX5_init_66 ?_
  replace h := h.2
  generalize eP66 : pRef P63 a 4 (sz + 8) = P66
  replace h := h P66 eP66.symm
  refine v_aload_n o 0 dX5_init_69 rfl ?_
  refine v_new o hsz rfl h.1.1.1 h.1.1.2 lnX5_9 h.1.2 dX5_init_70 ?_
  replace h := h.2
  generalize eP70 : pNew P66 (sz + 10) 3 0 = P70
  replace h := h P70 eP70.symm
  generalize eg70 : va_up g63 (sz + 10) z0 = g70
  replace h := h g70 eg70.symm
  refine v_eqc (c2 := 11) (s2 := 75) (by first | rfl | omega) (by first | rfl | omega) ?_
  refine v_dup o dX5_init_73 rfl ?_
  refine v_bipush o (v := 7) dX5_init_74 (by decide) ?_
  have hq := h.1
  replace h := h.2
  refine v_cI o hsz rfl hq.1.1 hq.1.2 hO [.int 7] [.ref (sz + 10), .ref a] (metX3_init l G P70 g70 (sz + 11) (sz + 10) 7 _ h) (cwI 1 o.1.2.2.2.2 (gUc (mU 118 (by decide +kernel) rfl)) rfl rfl rfl (o.1.2.2.2.2 _ (mU 84 (by decide +kernel) rfl)) (o.1.2.2.2.2 _ (mU 170 (by decide +kernel) rfl)) (o.1.2.2.2.2 _ (mU 117 (by decide +kernel) rfl)) rfl ⟨by decide +kernel, by decide +kernel, by decide +kernel⟩ ⟨Nat.le_of_ble_eq_true rfl, Nat.le_of_ble_eq_true rfl⟩) rfl (Nat.le_of_ble_eq_true rfl) hq.2 dX5_init_76 rfl (fun P76 g76 h => ?_)
  refine v_eqc (c2 := 12) (s2 := 82) (by first | rfl | omega) (by first | rfl | omega | decide) ?_
  refine v_pfR o lgX5_32 hnm h.1 dX5_init_79 ?_
  replace h := h.2
  generalize eP79 : pRef P76 a 5 (sz + 10) = P79
  replace h := h P79 eP79.symm
  refine v_aload_n o 0 dX5_init_82 rfl ?_
  refine v_new o hsz rfl h.1.1.1 h.1.1.2 lnX5_9 h.1.2 dX5_init_83 ?_
  replace h := h.2
  generalize eP83 : pNew P79 (sz + 12) 3 0 = P83
  replace h := h P83 eP83.symm
  generalize eg83 : va_up g76 (sz + 12) z0 = g83
  replace h := h g83 eg83.symm
  refine v_eqc (c2 := 13) (s2 := 83) (by first | rfl | omega) (by first | rfl | omega) ?_
  refine v_dup o dX5_init_86 rfl ?_
  refine v_bipush o (v := 7) dX5_init_87 (by decide) ?_
  have hq := h.1
  replace h := h.2
  refine v_cI o hsz rfl hq.1.1 hq.1.2 hO [.int 7] [.ref (sz + 12), .ref a] (metX3_init l G P83 g83 (sz + 13) (sz + 12) 7 _ h) (cwI 1 o.1.2.2.2.2 (gUc (mU 118 (by decide +kernel) rfl)) rfl rfl rfl (o.1.2.2.2.2 _ (mU 84 (by decide +kernel) rfl)) (o.1.2.2.2.2 _ (mU 170 (by decide +kernel) rfl)) (o.1.2.2.2.2 _ (mU 117 (by decide +kernel) rfl)) rfl ⟨by decide +kernel, by decide +kernel, by decide +kernel⟩ ⟨Nat.le_of_ble_eq_true rfl, Nat.le_of_ble_eq_true rfl⟩) rfl (Nat.le_of_ble_eq_true rfl) hq.2 dX5_init_89 rfl (fun P89 g89 h => ?_)
  refine v_eqc (c2 := 14) (s2 := 90) (by first | rfl | omega) (by first | rfl | omega | decide) ?_
  refine v_pfR o lgX5_35 hnm h.1 dX5_init_92 ?_
  replace h := h.2
  generalize eP92 : pRef P89 a 6 (sz + 12) = P92
  replace h := h P92 eP92.symm
  refine v_aload_n o 0 dX5_init_95 rfl ?_
  refine v_iconst o (v := 2) dX5_init_96 (by decide) ?_
  refine v_pf o lpX5_38 h.1 ⟨rfl, rfl⟩ dX5_init_97 ?_
  replace h := h.2
  generalize eg97 : setf g89 a 7 2 = g97
  replace h := h g97 eg97.symm
  refine v_widen (k := 14) (n := 90) h.1.1 h.1.2 ?_
  exact v_vretC o rfl hr dX5_init_100 h.2
abbrev kX5_init := @vX5_init
abbrev metX5_init := @mX5_init

def vX2_init (P : Sk) (f : St) (sz : Nat) (a : Nat) (K : Sk → St → Prop) : Prop :=
  (COk P P sz (0) ∧ (0 + 1 ≤ 21 ∧ 0 + 3 ≤ 154)) ∧ (∀ P5 : Sk, P5 = pNew P (sz + 0) 6 0 → ∀ g5 : St, g5 = va_up f (sz + 0) z0 → (COk P P5 sz (1) ∧ (1 + 2 ≤ 21 ∧ 3 + 25 ≤ 154)) ∧ (kX6_init P5 g5 (sz + 1) (sz + 0)  (fun P9 g9 => (Ob P9 a 2) ∧ (∀ P12 : Sk, P12 = pRef P9 a 0 (sz + 0) → (COk P P12 sz (3) ∧ (3 + 1 ≤ 21 ∧ 28 + 3 ≤ 154)) ∧ (∀ P16 : Sk, P16 = pNew P12 (sz + 3) 6 0 → ∀ g16 : St, g16 = va_up g9 (sz + 3) z0 → (COk P P16 sz (4) ∧ (4 + 2 ≤ 21 ∧ 31 + 25 ≤ 154)) ∧ (kX6_init P16 g16 (sz + 4) (sz + 3)  (fun P20 g20 => (Ob P20 a 2) ∧ (∀ P23 : Sk, P23 = pRef P20 a 1 (sz + 3) → (COk P P23 sz (6) ∧ (6 + 1 ≤ 21 ∧ 56 + 8 ≤ 154)) ∧ (∀ P27 : Sk, P27 = pNew P23 (sz + 6) 5 0 → ∀ g27 : St, g27 = va_up g20 (sz + 6) z0 → (COk P P27 sz (7) ∧ (7 + 14 ≤ 21 ∧ 64 + 90 ≤ 154)) ∧ (kX5_init P27 g27 (sz + 7) (sz + 6)  (fun P31 g31 => (Ob P31 a 2) ∧ (∀ P34 : Sk, P34 = pRef P31 a 2 (sz + 6) → (21 ≤ 21 ∧ 154 ≤ 154) ∧ K P34 g31))))))))))))
abbrev rmC_X2_init : Room := { frames := 3, cells := 21, slots := 154, locals := 61 }
set_option maxRecDepth 20000 in
set_option maxHeartbeats 4000000 in
theorem mX2_init (l : Launch) (G : Gl) (P : Sk) (f : St) (sz : Nat) (a : Nat) (K : Sk → St → Prop) (h : vX2_init P f sz a K) : Met l yX2_init (wU yX2_init cX2_init 1 none) (rmC_X2_init) (PcC G P f sz [.ref a]) (QcC G P sz K) (21) (154) (frA P sz) := by
  refine v_metc (own := RX2) [.ref a] (by decide +kernel) rfl rfl (Nat.le_of_ble_eq_true rfl) (fun p e s m args below meth c hsz o hr hnm hO => ?_)
  refine v_lv (lv2 := [(0, .ref a)]) rfl ?_
  unfold vX2_init at h
  refine v_aload_n o 0 dX2_init_0 rfl ?_
  refine v_obj o (mU 144 (by decide +kernel) rfl) (mU 106 (by decide +kernel) rfl) (mU 107 (by decide +kernel) rfl) ⟨Nat.le_of_ble_eq_true rfl, Nat.le_of_ble_eq_true rfl⟩ dX2_init_1 ?_
  refine v_aload_n o 0 dX2_init_4 rfl ?_
  refine v_new o hsz rfl h.1.1.1 h.1.1.2 lnX2_9 h.1.2 dX2_init_5 ?_
  replace h := h.2
  generalize eP5 : pNew P (sz + 0) 6 0 = P5
  replace h := h P5 eP5.symm
  generalize eg5 : va_up f (sz + 0) z0 = g5
  replace h := h g5 eg5.symm
  refine v_eqc (c2 := 1) (s2 := 3) (by first | rfl | omega) (by first | rfl | omega) ?_
  refine v_dup o dX2_init_8 rfl ?_
  have hq := h.1
  replace h := h.2
  refine v_cIN (host := "StrandLoaves") o hsz rfl hq.1.1 hq.1.2 hO [] [.ref (sz + 0), .ref a] (metX6_init l G P5 g5 (sz + 1) (sz + 0)  _ h) ⟨va_cnB 0 o.1.2.2.2.2 (gUc (mU 149 (by decide +kernel) rfl)) rfl rfl rfl (hO.2.2 _ (mN 147 (by decide +kernel) rfl)) (o.1.2.2.2.2 _ (mU 87 (by decide +kernel) rfl)) ⟨by decide +kernel, by decide +kernel, by decide +kernel⟩ ⟨Nat.le_of_ble_eq_true rfl, Nat.le_of_ble_eq_true rfl⟩, rfl, (o.1.2.2.2.2 _ (mU 148 (by decide +kernel) rfl))⟩ rfl (Nat.le_of_ble_eq_true rfl) hq.2 dX2_init_9 rfl (fun P9 g9 h => ?_)
  refine v_eqc (c2 := 3) (s2 := 28) (by first | rfl | omega) (by first | rfl | omega | decide) ?_
  refine v_pfR o lgX2_12 hnm h.1 dX2_init_12 ?_
  replace h := h.2
  generalize eP12 : pRef P9 a 0 (sz + 0) = P12
  replace h := h P12 eP12.symm
  refine v_aload_n o 0 dX2_init_15 rfl ?_
  refine v_new o hsz rfl h.1.1.1 h.1.1.2 lnX2_9 h.1.2 dX2_init_16 ?_
  replace h := h.2
  generalize eP16 : pNew P12 (sz + 3) 6 0 = P16
  replace h := h P16 eP16.symm
  generalize eg16 : va_up g9 (sz + 3) z0 = g16
  replace h := h g16 eg16.symm
  refine v_eqc (c2 := 4) (s2 := 31) (by first | rfl | omega) (by first | rfl | omega) ?_
  refine v_dup o dX2_init_19 rfl ?_
  have hq := h.1
  replace h := h.2
  refine v_cIN (host := "StrandLoaves") o hsz rfl hq.1.1 hq.1.2 hO [] [.ref (sz + 3), .ref a] (metX6_init l G P16 g16 (sz + 4) (sz + 3)  _ h) ⟨va_cnB 0 o.1.2.2.2.2 (gUc (mU 149 (by decide +kernel) rfl)) rfl rfl rfl (hO.2.2 _ (mN 147 (by decide +kernel) rfl)) (o.1.2.2.2.2 _ (mU 87 (by decide +kernel) rfl)) ⟨by decide +kernel, by decide +kernel, by decide +kernel⟩ ⟨Nat.le_of_ble_eq_true rfl, Nat.le_of_ble_eq_true rfl⟩, rfl, (o.1.2.2.2.2 _ (mU 148 (by decide +kernel) rfl))⟩ rfl (Nat.le_of_ble_eq_true rfl) hq.2 dX2_init_20 rfl (fun P20 g20 h => ?_)
  refine v_eqc (c2 := 6) (s2 := 56) (by first | rfl | omega) (by first | rfl | omega | decide) ?_
  refine v_pfR o lgX2_18 hnm h.1 dX2_init_23 ?_
  replace h := h.2
  generalize eP23 : pRef P20 a 1 (sz + 3) = P23
  replace h := h P23 eP23.symm
  refine v_aload_n o 0 dX2_init_26 rfl ?_
  refine v_new o hsz rfl h.1.1.1 h.1.1.2 lnX2_21 h.1.2 dX2_init_27 ?_
  replace h := h.2
  generalize eP27 : pNew P23 (sz + 6) 5 0 = P27
  replace h := h P27 eP27.symm
  generalize eg27 : va_up g20 (sz + 6) z0 = g27
  replace h := h g27 eg27.symm
  refine v_eqc (c2 := 7) (s2 := 64) (by first | rfl | omega) (by first | rfl | omega) ?_
  refine v_dup o dX2_init_30 rfl ?_
  have hq := h.1
  replace h := h.2
  refine v_cIN (host := "StrandLoaves") o hsz rfl hq.1.1 hq.1.2 hO [] [.ref (sz + 6), .ref a] (metX5_init l G P27 g27 (sz + 7) (sz + 6)  _ h) ⟨va_cnB 0 o.1.2.2.2.2 (gUc (mU 167 (by decide +kernel) rfl)) rfl rfl rfl (hO.2.2 _ (mN 165 (by decide +kernel) rfl)) (o.1.2.2.2.2 _ (mU 88 (by decide +kernel) rfl)) ⟨by decide +kernel, by decide +kernel, by decide +kernel⟩ ⟨Nat.le_of_ble_eq_true rfl, Nat.le_of_ble_eq_true rfl⟩, rfl, (o.1.2.2.2.2 _ (mU 166 (by decide +kernel) rfl))⟩ rfl (Nat.le_of_ble_eq_true rfl) hq.2 dX2_init_31 rfl (fun P31 g31 h => ?_)
  refine v_eqc (c2 := 21) (s2 := 154) (by first | rfl | omega) (by first | rfl | omega | decide) ?_
  refine v_pfR o lgX2_24 hnm h.1 dX2_init_34 ?_
  replace h := h.2
  generalize eP34 : pRef P31 a 2 (sz + 6) = P34
  replace h := h P34 eP34.symm
  refine v_widen (k := 21) (n := 154) h.1.1 h.1.2 ?_
  exact v_vretC o rfl hr dX2_init_37 h.2
abbrev kX2_init := @vX2_init
abbrev metX2_init := @mX2_init

def vX4_init (P : Sk) (f : St) (sz : Nat) (a : Nat) (K : Sk → St → Prop) : Prop :=
  (COk P P sz (0) ∧ (0 + 1 ≤ 2 ∧ 0 + 1 ≤ 61)) ∧ (∀ P5 : Sk, P5 = pNew P (sz + 0) 3 0 → ∀ g5 : St, g5 = va_up f (sz + 0) z0 → (COk P P5 sz (1) ∧ (1 + 1 ≤ 2 ∧ 1 + 60 ≤ 61)) ∧ (kX3_init P5 g5 (sz + 1) (sz + 0) 60 (fun P11 g11 => (Ob P11 a 4) ∧ (∀ P14 : Sk, P14 = pRef P11 a 0 (sz + 0) → (Ob P14 a 4) ∧ (∀ g19 : St, g19 = setf g11 a 1 0 → (2 ≤ 2 ∧ 61 ≤ 61) ∧ K P14 g19)))))
abbrev rmC_X4_init : Room := { frames := 2, cells := 2, slots := 61, locals := 41 }
set_option maxRecDepth 20000 in
set_option maxHeartbeats 4000000 in
theorem mX4_init (l : Launch) (G : Gl) (P : Sk) (f : St) (sz : Nat) (a : Nat) (K : Sk → St → Prop) (h : vX4_init P f sz a K) : Met l yX4_init (wU yX4_init cX4_init 1 none) (rmC_X4_init) (PcC G P f sz [.ref a]) (QcC G P sz K) (2) (61) (frA P sz) := by
  refine v_metc (own := RX4) [.ref a] (by decide +kernel) rfl rfl (Nat.le_of_ble_eq_true rfl) (fun p e s m args below meth c hsz o hr hnm hO => ?_)
  refine v_lv (lv2 := [(0, .ref a)]) rfl ?_
  unfold vX4_init at h
  refine v_aload_n o 0 dX4_init_0 rfl ?_
  refine v_obj o (mU 113 (by decide +kernel) rfl) (mU 106 (by decide +kernel) rfl) (mU 107 (by decide +kernel) rfl) ⟨Nat.le_of_ble_eq_true rfl, Nat.le_of_ble_eq_true rfl⟩ dX4_init_1 ?_
  refine v_aload_n o 0 dX4_init_4 rfl ?_
  refine v_new o hsz rfl h.1.1.1 h.1.1.2 lnX4_9 h.1.2 dX4_init_5 ?_
  replace h := h.2
  generalize eP5 : pNew P (sz + 0) 3 0 = P5
  replace h := h P5 eP5.symm
  generalize eg5 : va_up f (sz + 0) z0 = g5
  replace h := h g5 eg5.symm
  refine v_eqc (c2 := 1) (s2 := 1) (by first | rfl | omega) (by first | rfl | omega) ?_
  refine v_dup o dX4_init_8 rfl ?_
  refine v_bipush o (v := 60) dX4_init_9 (by decide) ?_
  have hq := h.1
  replace h := h.2
  refine v_cI o hsz rfl hq.1.1 hq.1.2 hO [.int 60] [.ref (sz + 0), .ref a] (metX3_init l G P5 g5 (sz + 1) (sz + 0) 60 _ h) (cwI 1 o.1.2.2.2.2 (gUc (mU 118 (by decide +kernel) rfl)) rfl rfl rfl (o.1.2.2.2.2 _ (mU 84 (by decide +kernel) rfl)) (o.1.2.2.2.2 _ (mU 116 (by decide +kernel) rfl)) (o.1.2.2.2.2 _ (mU 117 (by decide +kernel) rfl)) rfl ⟨by decide +kernel, by decide +kernel, by decide +kernel⟩ ⟨Nat.le_of_ble_eq_true rfl, Nat.le_of_ble_eq_true rfl⟩) rfl (Nat.le_of_ble_eq_true rfl) hq.2 dX4_init_11 rfl (fun P11 g11 h => ?_)
  refine v_eqc (c2 := 2) (s2 := 61) (by first | rfl | omega) (by first | rfl | omega | decide) ?_
  refine v_pfR o lgX4_14 hnm h.1 dX4_init_14 ?_
  replace h := h.2
  generalize eP14 : pRef P11 a 0 (sz + 0) = P14
  replace h := h P14 eP14.symm
  refine v_aload_n o 0 dX4_init_17 rfl ?_
  refine v_iconst o (v := 0) dX4_init_18 (by decide) ?_
  refine v_pf o lpX4_20 h.1 ⟨rfl, rfl⟩ dX4_init_19 ?_
  replace h := h.2
  generalize eg19 : setf g11 a 1 0 = g19
  replace h := h g19 eg19.symm
  refine v_widen (k := 2) (n := 61) h.1.1 h.1.2 ?_
  exact v_vretC o rfl hr dX4_init_22 h.2
abbrev kX4_init := @vX4_init
abbrev metX4_init := @mX4_init

def bX0_init (P : Sk) (sz : Nat) (a : Nat) (L : Sk → St → Int32 → Prop) (K : Sk → St → Prop) (P1 : Sk) (f : St) (x1 : Int32) : Prop :=
  (Ob P1 a 0 ∧ sR P1 a 0 = some (a + 1)) ∧ ((Ob P1 (a + 1) 11 ∧ sN P1 (a + 1) = 6) ∧ ((nI 6 ≤ x1 → (23 + 22 * x1.toNatClampNeg ≤ 155 ∧ 163 + 157 * x1.toNatClampNeg ≤ 1105) ∧ K P1 f) ∧ (¬ nI 6 ≤ x1 → (Ob P1 a 0 ∧ sR P1 a 0 = some (a + 1)) ∧ ((COk P P1 sz (23 + 22 * x1.toNatClampNeg) ∧ (23 + 22 * x1.toNatClampNeg + 1 ≤ 155 ∧ 163 + 157 * x1.toNatClampNeg + 3 ≤ 1105)) ∧ (∀ P60 : Sk, P60 = pNew P1 (sz + (23 + 22 * x1.toNatClampNeg)) 2 0 → ∀ g60 : St, g60 = va_up f (sz + (23 + 22 * x1.toNatClampNeg)) z0 → (COk P P60 sz (23 + 22 * x1.toNatClampNeg + 1) ∧ (23 + 22 * x1.toNatClampNeg + 1 + 21 ≤ 155 ∧ 163 + 157 * x1.toNatClampNeg + 3 + 154 ≤ 1105)) ∧ (kX2_init P60 g60 (sz + (23 + 22 * x1.toNatClampNeg + 1)) (sz + (23 + 22 * x1.toNatClampNeg))  (fun P64 g64 => (Ob P64 (a + 1) 11 ∧ sN P64 (a + 1) = 6 ∧ vp_in x1 6 ∧ Ob P64 (sz + (23 + 22 * x1.toNatClampNeg)) 2) ∧ (∀ P67 : Sk, P67 = pRef P64 (a + 1) x1.toNatClampNeg (sz + (23 + 22 * x1.toNatClampNeg)) → ∀ x1_68 : Int32, x1_68 = x1 + 1 → (23 + 22 * x1.toNatClampNeg + 1 + 21 ≤ 23 + 22 * x1_68.toNatClampNeg ∧ 163 + 157 * x1.toNatClampNeg + 3 + 154 ≤ 163 + 157 * x1_68.toNatClampNeg) ∧ L P67 g64 x1_68))))))))
def vX0_init (P : Sk) (f : St) (sz : Nat) (a : Nat) (L : Sk → St → Int32 → Prop) (K : Sk → St → Prop) : Prop :=
  (COk P P sz (0) ∧ (0 + 1 ≤ 155 ∧ 0 + 6 ≤ 1105)) ∧ (∀ P7 : Sk, P7 = pNew P (sz + 0) 11 6 → ∀ g7 : St, g7 = va_up f (sz + 0) z0 → (Ob P7 a 0) ∧ (∀ P10 : Sk, P10 = pRef P7 a 0 (sz + 0) → (COk P P10 sz (1) ∧ (1 + 1 ≤ 155 ∧ 6 + 3 ≤ 1105)) ∧ (∀ P14 : Sk, P14 = pNew P10 (sz + 1) 2 0 → ∀ g14 : St, g14 = va_up g7 (sz + 1) z0 → (COk P P14 sz (2) ∧ (2 + 21 ≤ 155 ∧ 9 + 154 ≤ 1105)) ∧ (kX2_init P14 g14 (sz + 2) (sz + 1)  (fun P18 g18 => (Ob P18 a 0) ∧ (∀ P21 : Sk, P21 = pRef P18 a 1 (sz + 1) → (Ob P21 a 0) ∧ (∀ g26 : St, g26 = setf g18 a 2 0 → (Ob P21 a 0) ∧ (∀ g31 : St, g31 = setf g26 a 3 0 → (Ob P21 a 0) ∧ (∀ g36 : St, g36 = setf g31 a 4 (-1) → (Ob P21 a 0) ∧ (∀ g41 : St, g41 = setf g36 a 5 (-1) → (23 ≤ 23 + 22 * ((0 : Int32)).toNatClampNeg ∧ 163 ≤ 163 + 157 * ((0 : Int32)).toNatClampNeg) ∧ L P21 g41 0))))))))))
abbrev rmC_X0_init : Room := { frames := 4, cells := 155, slots := 1105, locals := 81 }
set_option maxRecDepth 20000 in
set_option maxHeartbeats 4000000 in
theorem mX0_init (l : Launch) (G : Gl) (P : Sk) (f : St) (sz : Nat) (a : Nat) (K : Sk → St → Prop) (L : Sk → St → Int32 → Prop) (μ : Sk → St → Int32 → Nat) (h : vX0_init P f sz a L K) (hb : ∀ (P1 : Sk) (g : St) (x1 : Int32), L P1 g x1 → bX0_init P sz a (fun P2 g2 z => L P2 g2 z ∧ μ P2 g2 z < μ P1 g x1) K P1 g x1) : Met l yX0_init (wU yX0_init cX0_init 2 none) (rmC_X0_init) (PcC G P f sz [.ref a]) (QcC G P sz K) (155) (1105) (frA P sz) := by
  refine v_metc (own := RX0) [.ref a] (by decide +kernel) rfl rfl (Nat.le_of_ble_eq_true rfl) (fun p e s m args below meth c hsz o hr hnm hO => ?_)
  refine v_lv (lv2 := [(0, .ref a)]) rfl ?_
  have main : ∀ n : Nat, ∀ (P1 : Sk) (g : St) (x1 : Int32), L P1 g x1 → μ P1 g x1 < n → V p l e (rmC_X0_init) s m args below meth c 2 G (frA P sz) (MQ below (QcC G P sz K) args s (155) (1105) (frA P sz)) (23 + 22 * x1.toNatClampNeg) (163 + 157 * x1.toNatClampNeg) P1 [(0, .ref a), (1, .int x1)] [] 46 g := by
    intro n
    induction n with
    | zero => exact fun P1 g x1 hI hm => absurd hm (Nat.not_lt_zero _)
    | succ n ih =>
      intro P1 g x1 hI hm
      have h := hb P1 g x1 hI
      clear hI
      unfold bX0_init at h
      refine v_iload_n o 1 dX0_init_46 rfl ?_
      refine v_aload_n o 0 dX0_init_47 rfl ?_
      refine v_gfR o lkX0_11 (by decide) h.1.1 h.1.2 dX0_init_48 ?_
      replace h := h.2
      refine v_alen11 o h.1.1 h.1.2 dX0_init_51 ?_
      replace h := h.2
      refine v_icmp_ge o (tgt := 74) dX0_init_52 (by decide) (fun c52 => ?_) (fun c52 => ?_)
      · replace h := h.1 c52
        refine v_widen (k := 155) (n := 1105) h.1.1 h.1.2 ?_
        exact v_vretC o rfl hr dX0_init_74 h.2
      · replace h := h.2 c52
        refine v_aload_n o 0 dX0_init_55 rfl ?_
        refine v_gfR o lkX0_11 (by decide) h.1.1 h.1.2 dX0_init_56 ?_
        replace h := h.2
        refine v_iload_n o 1 dX0_init_59 rfl ?_
        refine v_new o hsz rfl h.1.1.1 h.1.1.2 lnX0_9 h.1.2 dX0_init_60 ?_
        replace h := h.2
        generalize eP60 : pNew P1 (sz + (23 + 22 * x1.toNatClampNeg)) 2 0 = P60
        replace h := h P60 eP60.symm
        generalize eg60 : va_up g (sz + (23 + 22 * x1.toNatClampNeg)) z0 = g60
        replace h := h g60 eg60.symm
        refine v_eqc (c2 := 23 + 22 * x1.toNatClampNeg + 1) (s2 := 163 + 157 * x1.toNatClampNeg + 3) (by first | rfl | omega) (by first | rfl | omega) ?_
        refine v_dup o dX0_init_63 rfl ?_
        have hq := h.1
        replace h := h.2
        refine v_cIN (host := "StrandLoaves") o hsz rfl hq.1.1 hq.1.2 hO [] [.ref (sz + (23 + 22 * x1.toNatClampNeg)), .int x1, .ref (a + 1)] (metX2_init l G P60 g60 (sz + (23 + 22 * x1.toNatClampNeg + 1)) (sz + (23 + 22 * x1.toNatClampNeg))  _ h) ⟨va_cnB 0 o.1.2.2.2.2 (gUc (mU 143 (by decide +kernel) rfl)) rfl rfl rfl (hO.2.2 _ (mN 141 (by decide +kernel) rfl)) (o.1.2.2.2.2 _ (mU 86 (by decide +kernel) rfl)) ⟨by decide +kernel, by decide +kernel, by decide +kernel⟩ ⟨Nat.le_of_ble_eq_true rfl, Nat.le_of_ble_eq_true rfl⟩, rfl, (o.1.2.2.2.2 _ (mU 142 (by decide +kernel) rfl))⟩ rfl (Nat.le_of_ble_eq_true rfl) hq.2 dX0_init_64 rfl (fun P64 g64 h => ?_)
        refine v_eqc (c2 := 23 + 22 * x1.toNatClampNeg + 1 + 21) (s2 := 163 + 157 * x1.toNatClampNeg + 3 + 154) (by first | rfl | omega) (by first | rfl | omega | decide) ?_
        refine v_aast11 o h.1.1 h.1.2.1 h.1.2.2.1 (ci := 2) ⟨_, rfl, rfl⟩ (by decide) h.1.2.2.2 dX0_init_67 ?_
        replace h := h.2
        generalize eP67 : pRef P64 (a + 1) x1.toNatClampNeg (sz + (23 + 22 * x1.toNatClampNeg)) = P67
        replace h := h P67 eP67.symm
        obtain ⟨x1_68, ex1_68⟩ : ∃ y : Int32, y = x1 + 1 := ⟨_, rfl⟩
        replace h := h x1_68 ex1_68
        refine v_iinc o (v := x1_68) (lv' := [(1, .int x1_68), (0, .ref a)]) 1 dX0_init_68 rfl (by rw [ex1_68]; rfl) (by decide) rfl ?_
        refine v_goto o (tgt := 46) dX0_init_71 (by decide) ?_
        refine v_sub [1, 0] (lv2 := [(0, .ref a), (1, .int x1_68)]) rfl ?_
        refine v_widen h.1.1 h.1.2 ?_
        exact ih P67 g64 x1_68 h.2.1 (by have := h.2.2; omega)
  unfold vX0_init at h
  refine v_aload_n o 0 dX0_init_0 rfl ?_
  refine v_obj o (mU 137 (by decide +kernel) rfl) (mU 106 (by decide +kernel) rfl) (mU 107 (by decide +kernel) rfl) ⟨Nat.le_of_ble_eq_true rfl, Nat.le_of_ble_eq_true rfl⟩ dX0_init_1 ?_
  refine v_aload_n o 0 dX0_init_4 rfl ?_
  refine v_bipush o (v := 6) dX0_init_5 (by decide) ?_
  refine v_anew11 o hsz rfl h.1.1.1 h.1.1.2 (mU 138 (by decide +kernel) rfl) hO.1 (by decide) (N := 6) (by decide) (by decide) h.1.2 dX0_init_7 ?_
  replace h := h.2
  generalize eP7 : pNew P (sz + 0) 11 6 = P7
  replace h := h P7 eP7.symm
  generalize eg7 : va_up f (sz + 0) z0 = g7
  replace h := h g7 eg7.symm
  refine v_eqc (c2 := 1) (s2 := 6) (by first | rfl | omega) (by first | rfl | omega) ?_
  refine v_pfR o lgX0_11 hnm h.1 dX0_init_10 ?_
  replace h := h.2
  generalize eP10 : pRef P7 a 0 (sz + 0) = P10
  replace h := h P10 eP10.symm
  refine v_aload_n o 0 dX0_init_13 rfl ?_
  refine v_new o hsz rfl h.1.1.1 h.1.1.2 lnX0_9 h.1.2 dX0_init_14 ?_
  replace h := h.2
  generalize eP14 : pNew P10 (sz + 1) 2 0 = P14
  replace h := h P14 eP14.symm
  generalize eg14 : va_up g7 (sz + 1) z0 = g14
  replace h := h g14 eg14.symm
  refine v_eqc (c2 := 2) (s2 := 9) (by first | rfl | omega) (by first | rfl | omega) ?_
  refine v_dup o dX0_init_17 rfl ?_
  have hq := h.1
  replace h := h.2
  refine v_cIN (host := "StrandLoaves") o hsz rfl hq.1.1 hq.1.2 hO [] [.ref (sz + 1), .ref a] (metX2_init l G P14 g14 (sz + 2) (sz + 1)  _ h) ⟨va_cnB 0 o.1.2.2.2.2 (gUc (mU 143 (by decide +kernel) rfl)) rfl rfl rfl (hO.2.2 _ (mN 141 (by decide +kernel) rfl)) (o.1.2.2.2.2 _ (mU 86 (by decide +kernel) rfl)) ⟨by decide +kernel, by decide +kernel, by decide +kernel⟩ ⟨Nat.le_of_ble_eq_true rfl, Nat.le_of_ble_eq_true rfl⟩, rfl, (o.1.2.2.2.2 _ (mU 142 (by decide +kernel) rfl))⟩ rfl (Nat.le_of_ble_eq_true rfl) hq.2 dX0_init_18 rfl (fun P18 g18 h => ?_)
  refine v_eqc (c2 := 23) (s2 := 163) (by first | rfl | omega) (by first | rfl | omega | decide) ?_
  refine v_pfR o lgX0_18 hnm h.1 dX0_init_21 ?_
  replace h := h.2
  generalize eP21 : pRef P18 a 1 (sz + 1) = P21
  replace h := h P21 eP21.symm
  refine v_aload_n o 0 dX0_init_24 rfl ?_
  refine v_iconst o (v := 0) dX0_init_25 (by decide) ?_
  refine v_pf o lpX0_22 h.1 ⟨rfl, rfl⟩ dX0_init_26 ?_
  replace h := h.2
  generalize eg26 : setf g18 a 2 0 = g26
  replace h := h g26 eg26.symm
  refine v_aload_n o 0 dX0_init_29 rfl ?_
  refine v_iconst o (v := 0) dX0_init_30 (by decide) ?_
  refine v_pf o lpX0_26 h.1 ⟨rfl, rfl⟩ dX0_init_31 ?_
  replace h := h.2
  generalize eg31 : setf g26 a 3 0 = g31
  replace h := h g31 eg31.symm
  refine v_aload_n o 0 dX0_init_34 rfl ?_
  refine v_iconst o (v := (-1)) dX0_init_35 (by decide) ?_
  refine v_pf o lpX0_29 h.1 ⟨rfl, rfl⟩ dX0_init_36 ?_
  replace h := h.2
  generalize eg36 : setf g31 a 4 (-1) = g36
  replace h := h g36 eg36.symm
  refine v_aload_n o 0 dX0_init_39 rfl ?_
  refine v_iconst o (v := (-1)) dX0_init_40 (by decide) ?_
  refine v_pf o lpX0_32 h.1 ⟨rfl, rfl⟩ dX0_init_41 ?_
  replace h := h.2
  generalize eg41 : setf g36 a 5 (-1) = g41
  replace h := h g41 eg41.symm
  refine v_iconst o (v := 0) dX0_init_44 (by decide) ?_
  refine v_istore_n o (lv' := [(1, .int 0), (0, .ref a)]) dX0_init_45 rfl (by decide) rfl ?_
  refine v_sub [1, 0] (lv2 := [(0, .ref a), (1, .int 0)]) rfl ?_
  refine v_widen h.1.1 h.1.2 ?_
  exact main (μ P21 g41 0 + 1) P21 g41 0 h.2 (Nat.lt_succ_self _)
def kX0_init (P : Sk) (f : St) (sz : Nat) (a : Nat) (K : Sk → St → Prop) : Prop := False
theorem metX0_init (l : Launch) (G : Gl) (P : Sk) (f : St) (sz : Nat) (a : Nat) (K : Sk → St → Prop) (h : kX0_init P f sz a K) : Met l yX0_init (wU yX0_init cX0_init 2 none) (rmC_X0_init) (PcC G P f sz [.ref a]) (QcC G P sz K) (155) (1105) (frA P sz) := sorry

def bX1_init (P : Sk) (sz : Nat) (a : Nat) (L : Sk → St → Int32 → Prop) (K : Sk → St → Prop) (P1 : Sk) (f : St) (x1 : Int32) : Prop :=
  (Ob P1 a 1 ∧ sR P1 a 0 = some (a + 1)) ∧ ((Ob P1 (a + 1) 12 ∧ sN P1 (a + 1) = 6) ∧ ((nI 6 ≤ x1 → (157 + 156 * x1.toNatClampNeg ≤ 1093 ∧ 1117 + 1111 * x1.toNatClampNeg ≤ 7783) ∧ K P1 f) ∧ (¬ nI 6 ≤ x1 → (Ob P1 a 1 ∧ sR P1 a 0 = some (a + 1)) ∧ ((COk P P1 sz (157 + 156 * x1.toNatClampNeg) ∧ (157 + 156 * x1.toNatClampNeg + 1 ≤ 1093 ∧ 1117 + 1111 * x1.toNatClampNeg + 6 ≤ 7783)) ∧ (∀ P50 : Sk, P50 = pNew P1 (sz + (157 + 156 * x1.toNatClampNeg)) 0 0 → ∀ g50 : St, g50 = va_up f (sz + (157 + 156 * x1.toNatClampNeg)) z0 → (COk P P50 sz (157 + 156 * x1.toNatClampNeg + 1) ∧ (157 + 156 * x1.toNatClampNeg + 1 + 155 ≤ 1093 ∧ 1117 + 1111 * x1.toNatClampNeg + 6 + 1105 ≤ 7783)) ∧ (kX0_init P50 g50 (sz + (157 + 156 * x1.toNatClampNeg + 1)) (sz + (157 + 156 * x1.toNatClampNeg))  (fun P54 g54 => (Ob P54 (a + 1) 12 ∧ sN P54 (a + 1) = 6 ∧ vp_in x1 6 ∧ Ob P54 (sz + (157 + 156 * x1.toNatClampNeg)) 0) ∧ (∀ P57 : Sk, P57 = pRef P54 (a + 1) x1.toNatClampNeg (sz + (157 + 156 * x1.toNatClampNeg)) → ∀ x1_58 : Int32, x1_58 = x1 + 1 → (157 + 156 * x1.toNatClampNeg + 1 + 155 ≤ 157 + 156 * x1_58.toNatClampNeg ∧ 1117 + 1111 * x1.toNatClampNeg + 6 + 1105 ≤ 1117 + 1111 * x1_58.toNatClampNeg) ∧ L P57 g54 x1_58))))))))
def vX1_init (P : Sk) (f : St) (sz : Nat) (a : Nat) (L : Sk → St → Int32 → Prop) (K : Sk → St → Prop) : Prop :=
  (COk P P sz (0) ∧ (0 + 1 ≤ 1093 ∧ 0 + 6 ≤ 7783)) ∧ (∀ P7 : Sk, P7 = pNew P (sz + 0) 12 6 → ∀ g7 : St, g7 = va_up f (sz + 0) z0 → (Ob P7 a 1) ∧ (∀ P10 : Sk, P10 = pRef P7 a 0 (sz + 0) → (COk P P10 sz (1) ∧ (1 + 1 ≤ 1093 ∧ 6 + 6 ≤ 7783)) ∧ (∀ P14 : Sk, P14 = pNew P10 (sz + 1) 0 0 → ∀ g14 : St, g14 = va_up g7 (sz + 1) z0 → (COk P P14 sz (2) ∧ (2 + 155 ≤ 1093 ∧ 12 + 1105 ≤ 7783)) ∧ (kX0_init P14 g14 (sz + 2) (sz + 1)  (fun P18 g18 => (Ob P18 a 1) ∧ (∀ P21 : Sk, P21 = pRef P18 a 1 (sz + 1) → (Ob P21 a 1) ∧ (∀ g26 : St, g26 = setf g18 a 2 0 → (Ob P21 a 1) ∧ (∀ g31 : St, g31 = setf g26 a 3 0 → (157 ≤ 157 + 156 * ((0 : Int32)).toNatClampNeg ∧ 1117 ≤ 1117 + 1111 * ((0 : Int32)).toNatClampNeg) ∧ L P21 g31 0))))))))
abbrev rmC_X1_init : Room := { frames := 5, cells := 1093, slots := 7783, locals := 102 }
set_option maxRecDepth 20000 in
set_option maxHeartbeats 4000000 in
theorem mX1_init (l : Launch) (G : Gl) (P : Sk) (f : St) (sz : Nat) (a : Nat) (K : Sk → St → Prop) (L : Sk → St → Int32 → Prop) (μ : Sk → St → Int32 → Nat) (h : vX1_init P f sz a L K) (hb : ∀ (P1 : Sk) (g : St) (x1 : Int32), L P1 g x1 → bX1_init P sz a (fun P2 g2 z => L P2 g2 z ∧ μ P2 g2 z < μ P1 g x1) K P1 g x1) : Met l yX1_init (wU yX1_init cX1_init 2 none) (rmC_X1_init) (PcC G P f sz [.ref a]) (QcC G P sz K) (1093) (7783) (frA P sz) := by
  refine v_metc (own := RX1) [.ref a] (by decide +kernel) rfl rfl (Nat.le_of_ble_eq_true rfl) (fun p e s m args below meth c hsz o hr hnm hO => ?_)
  refine v_lv (lv2 := [(0, .ref a)]) rfl ?_
  have main : ∀ n : Nat, ∀ (P1 : Sk) (g : St) (x1 : Int32), L P1 g x1 → μ P1 g x1 < n → V p l e (rmC_X1_init) s m args below meth c 2 G (frA P sz) (MQ below (QcC G P sz K) args s (1093) (7783) (frA P sz)) (157 + 156 * x1.toNatClampNeg) (1117 + 1111 * x1.toNatClampNeg) P1 [(0, .ref a), (1, .int x1)] [] 36 g := by
    intro n
    induction n with
    | zero => exact fun P1 g x1 hI hm => absurd hm (Nat.not_lt_zero _)
    | succ n ih =>
      intro P1 g x1 hI hm
      have h := hb P1 g x1 hI
      clear hI
      unfold bX1_init at h
      refine v_iload_n o 1 dX1_init_36 rfl ?_
      refine v_aload_n o 0 dX1_init_37 rfl ?_
      refine v_gfR o lkX1_11 (by decide) h.1.1 h.1.2 dX1_init_38 ?_
      replace h := h.2
      refine v_alen12 o h.1.1 h.1.2 dX1_init_41 ?_
      replace h := h.2
      refine v_icmp_ge o (tgt := 64) dX1_init_42 (by decide) (fun c42 => ?_) (fun c42 => ?_)
      · replace h := h.1 c42
        refine v_widen (k := 1093) (n := 7783) h.1.1 h.1.2 ?_
        exact v_vretC o rfl hr dX1_init_64 h.2
      · replace h := h.2 c42
        refine v_aload_n o 0 dX1_init_45 rfl ?_
        refine v_gfR o lkX1_11 (by decide) h.1.1 h.1.2 dX1_init_46 ?_
        replace h := h.2
        refine v_iload_n o 1 dX1_init_49 rfl ?_
        refine v_new o hsz rfl h.1.1.1 h.1.1.2 lnX1_9 h.1.2 dX1_init_50 ?_
        replace h := h.2
        generalize eP50 : pNew P1 (sz + (157 + 156 * x1.toNatClampNeg)) 0 0 = P50
        replace h := h P50 eP50.symm
        generalize eg50 : va_up g (sz + (157 + 156 * x1.toNatClampNeg)) z0 = g50
        replace h := h g50 eg50.symm
        refine v_eqc (c2 := 157 + 156 * x1.toNatClampNeg + 1) (s2 := 1117 + 1111 * x1.toNatClampNeg + 6) (by first | rfl | omega) (by first | rfl | omega) ?_
        refine v_dup o dX1_init_53 rfl ?_
        have hq := h.1
        replace h := h.2
        refine v_cI o hsz rfl hq.1.1 hq.1.2 hO [] [.ref (sz + (157 + 156 * x1.toNatClampNeg)), .int x1, .ref (a + 1)] (metX0_init l G P50 g50 (sz + (157 + 156 * x1.toNatClampNeg + 1)) (sz + (157 + 156 * x1.toNatClampNeg))  _ h) (cwI 0 o.1.2.2.2.2 (gUc (mU 136 (by decide +kernel) rfl)) rfl rfl rfl (o.1.2.2.2.2 _ (mU 85 (by decide +kernel) rfl)) (o.1.2.2.2.2 _ (mU 233 (by decide +kernel) rfl)) (o.1.2.2.2.2 _ (mU 135 (by decide +kernel) rfl)) rfl ⟨by decide +kernel, by decide +kernel, by decide +kernel⟩ ⟨Nat.le_of_ble_eq_true rfl, Nat.le_of_ble_eq_true rfl⟩) rfl (Nat.le_of_ble_eq_true rfl) hq.2 dX1_init_54 rfl (fun P54 g54 h => ?_)
        refine v_eqc (c2 := 157 + 156 * x1.toNatClampNeg + 1 + 155) (s2 := 1117 + 1111 * x1.toNatClampNeg + 6 + 1105) (by first | rfl | omega) (by first | rfl | omega | decide) ?_
        refine v_aast12 o h.1.1 h.1.2.1 h.1.2.2.1 (ci := 0) ⟨_, rfl, rfl⟩ (by decide) h.1.2.2.2 dX1_init_57 ?_
        replace h := h.2
        generalize eP57 : pRef P54 (a + 1) x1.toNatClampNeg (sz + (157 + 156 * x1.toNatClampNeg)) = P57
        replace h := h P57 eP57.symm
        obtain ⟨x1_58, ex1_58⟩ : ∃ y : Int32, y = x1 + 1 := ⟨_, rfl⟩
        replace h := h x1_58 ex1_58
        refine v_iinc o (v := x1_58) (lv' := [(1, .int x1_58), (0, .ref a)]) 1 dX1_init_58 rfl (by rw [ex1_58]; rfl) (by decide) rfl ?_
        refine v_goto o (tgt := 36) dX1_init_61 (by decide) ?_
        refine v_sub [1, 0] (lv2 := [(0, .ref a), (1, .int x1_58)]) rfl ?_
        refine v_widen h.1.1 h.1.2 ?_
        exact ih P57 g54 x1_58 h.2.1 (by have := h.2.2; omega)
  unfold vX1_init at h
  refine v_aload_n o 0 dX1_init_0 rfl ?_
  refine v_obj o (mU 230 (by decide +kernel) rfl) (mU 106 (by decide +kernel) rfl) (mU 107 (by decide +kernel) rfl) ⟨Nat.le_of_ble_eq_true rfl, Nat.le_of_ble_eq_true rfl⟩ dX1_init_1 ?_
  refine v_aload_n o 0 dX1_init_4 rfl ?_
  refine v_bipush o (v := 6) dX1_init_5 (by decide) ?_
  refine v_anew12 o hsz rfl h.1.1.1 h.1.1.2 (mU 231 (by decide +kernel) rfl) hO.2.1 (by decide) (N := 6) (by decide) (by decide) h.1.2 dX1_init_7 ?_
  replace h := h.2
  generalize eP7 : pNew P (sz + 0) 12 6 = P7
  replace h := h P7 eP7.symm
  generalize eg7 : va_up f (sz + 0) z0 = g7
  replace h := h g7 eg7.symm
  refine v_eqc (c2 := 1) (s2 := 6) (by first | rfl | omega) (by first | rfl | omega) ?_
  refine v_pfR o lgX1_11 hnm h.1 dX1_init_10 ?_
  replace h := h.2
  generalize eP10 : pRef P7 a 0 (sz + 0) = P10
  replace h := h P10 eP10.symm
  refine v_aload_n o 0 dX1_init_13 rfl ?_
  refine v_new o hsz rfl h.1.1.1 h.1.1.2 lnX1_9 h.1.2 dX1_init_14 ?_
  replace h := h.2
  generalize eP14 : pNew P10 (sz + 1) 0 0 = P14
  replace h := h P14 eP14.symm
  generalize eg14 : va_up g7 (sz + 1) z0 = g14
  replace h := h g14 eg14.symm
  refine v_eqc (c2 := 2) (s2 := 12) (by first | rfl | omega) (by first | rfl | omega) ?_
  refine v_dup o dX1_init_17 rfl ?_
  have hq := h.1
  replace h := h.2
  refine v_cI o hsz rfl hq.1.1 hq.1.2 hO [] [.ref (sz + 1), .ref a] (metX0_init l G P14 g14 (sz + 2) (sz + 1)  _ h) (cwI 0 o.1.2.2.2.2 (gUc (mU 136 (by decide +kernel) rfl)) rfl rfl rfl (o.1.2.2.2.2 _ (mU 85 (by decide +kernel) rfl)) (o.1.2.2.2.2 _ (mU 233 (by decide +kernel) rfl)) (o.1.2.2.2.2 _ (mU 135 (by decide +kernel) rfl)) rfl ⟨by decide +kernel, by decide +kernel, by decide +kernel⟩ ⟨Nat.le_of_ble_eq_true rfl, Nat.le_of_ble_eq_true rfl⟩) rfl (Nat.le_of_ble_eq_true rfl) hq.2 dX1_init_18 rfl (fun P18 g18 h => ?_)
  refine v_eqc (c2 := 157) (s2 := 1117) (by first | rfl | omega) (by first | rfl | omega | decide) ?_
  refine v_pfR o lgX1_18 hnm h.1 dX1_init_21 ?_
  replace h := h.2
  generalize eP21 : pRef P18 a 1 (sz + 1) = P21
  replace h := h P21 eP21.symm
  refine v_aload_n o 0 dX1_init_24 rfl ?_
  refine v_iconst o (v := 0) dX1_init_25 (by decide) ?_
  refine v_pf o lpX1_22 h.1 ⟨rfl, rfl⟩ dX1_init_26 ?_
  replace h := h.2
  generalize eg26 : setf g18 a 2 0 = g26
  replace h := h g26 eg26.symm
  refine v_aload_n o 0 dX1_init_29 rfl ?_
  refine v_iconst o (v := 0) dX1_init_30 (by decide) ?_
  refine v_pf o lpX1_26 h.1 ⟨rfl, rfl⟩ dX1_init_31 ?_
  replace h := h.2
  generalize eg31 : setf g26 a 3 0 = g31
  replace h := h g31 eg31.symm
  refine v_iconst o (v := 0) dX1_init_34 (by decide) ?_
  refine v_istore_n o (lv' := [(1, .int 0), (0, .ref a)]) dX1_init_35 rfl (by decide) rfl ?_
  refine v_sub [1, 0] (lv2 := [(0, .ref a), (1, .int 0)]) rfl ?_
  refine v_widen h.1.1 h.1.2 ?_
  exact main (μ P21 g31 0 + 1) P21 g31 0 h.2 (Nat.lt_succ_self _)
def kX1_init (P : Sk) (f : St) (sz : Nat) (a : Nat) (K : Sk → St → Prop) : Prop := False
theorem metX1_init (l : Launch) (G : Gl) (P : Sk) (f : St) (sz : Nat) (a : Nat) (K : Sk → St → Prop) (h : kX1_init P f sz a K) : Met l yX1_init (wU yX1_init cX1_init 2 none) (rmC_X1_init) (PcC G P f sz [.ref a]) (QcC G P sz K) (1093) (7783) (frA P sz) := sorry

def vX7_init (P : Sk) (f : St) (sz : Nat) (a : Nat) (K : Sk → St → Prop) : Prop :=
  (COk P P sz (0) ∧ (0 + 1 ≤ 1437 ∧ 0 + 2 ≤ 10285)) ∧ (∀ P5 : Sk, P5 = pNew P (sz + 0) 4 0 → ∀ g5 : St, g5 = va_up f (sz + 0) z0 → (COk P P5 sz (1) ∧ (1 + 2 ≤ 1437 ∧ 2 + 61 ≤ 10285)) ∧ (kX4_init P5 g5 (sz + 1) (sz + 0)  (fun P9 g9 => (Ob P9 a 7) ∧ (∀ P12 : Sk, P12 = pRef P9 a 0 (sz + 0) → (COk P P12 sz (3) ∧ (3 + 1 ≤ 1437 ∧ 63 + 6 ≤ 10285)) ∧ (∀ P16 : Sk, P16 = pNew P12 (sz + 3) 0 0 → ∀ g16 : St, g16 = va_up g9 (sz + 3) z0 → (COk P P16 sz (4) ∧ (4 + 155 ≤ 1437 ∧ 69 + 1105 ≤ 10285)) ∧ (kX0_init P16 g16 (sz + 4) (sz + 3)  (fun P20 g20 => (Ob P20 a 7) ∧ (∀ P23 : Sk, P23 = pRef P20 a 1 (sz + 3) → (COk P P23 sz (159) ∧ (159 + 1 ≤ 1437 ∧ 1174 + 4 ≤ 10285)) ∧ (∀ P27 : Sk, P27 = pNew P23 (sz + 159) 1 0 → ∀ g27 : St, g27 = va_up g20 (sz + 159) z0 → (COk P P27 sz (160) ∧ (160 + 1093 ≤ 1437 ∧ 1178 + 7783 ≤ 10285)) ∧ (kX1_init P27 g27 (sz + 160) (sz + 159)  (fun P31 g31 => (Ob P31 a 7) ∧ (∀ P34 : Sk, P34 = pRef P31 a 2 (sz + 159) → (COk P P34 sz (1253) ∧ (1253 + 1 ≤ 1437 ∧ 8961 + 6 ≤ 10285)) ∧ (∀ P38 : Sk, P38 = pNew P34 (sz + 1253) 0 0 → ∀ g38 : St, g38 = va_up g31 (sz + 1253) z0 → (COk P P38 sz (1254) ∧ (1254 + 155 ≤ 1437 ∧ 8967 + 1105 ≤ 10285)) ∧ (kX0_init P38 g38 (sz + 1254) (sz + 1253)  (fun P42 g42 => (Ob P42 a 7) ∧ (∀ P45 : Sk, P45 = pRef P42 a 3 (sz + 1253) → (Ob P45 a 7) ∧ (∀ g50 : St, g50 = setf g42 a 4 0 → (COk P P45 sz (1409) ∧ (1409 + 1 ≤ 1437 ∧ 10072 + 3 ≤ 10285)) ∧ (∀ P54 : Sk, P54 = pNew P45 (sz + 1409) 2 0 → ∀ g54 : St, g54 = va_up g50 (sz + 1409) z0 → (COk P P54 sz (1410) ∧ (1410 + 21 ≤ 1437 ∧ 10075 + 154 ≤ 10285)) ∧ (kX2_init P54 g54 (sz + 1410) (sz + 1409)  (fun P58 g58 => (Ob P58 a 7) ∧ (∀ P61 : Sk, P61 = pRef P58 a 5 (sz + 1409) → (COk P P61 sz (1431) ∧ (1431 + 1 ≤ 1437 ∧ 10229 + 3 ≤ 10285)) ∧ (∀ P65 : Sk, P65 = pNew P61 (sz + 1431) 6 0 → ∀ g65 : St, g65 = va_up g58 (sz + 1431) z0 → (COk P P65 sz (1432) ∧ (1432 + 2 ≤ 1437 ∧ 10232 + 25 ≤ 10285)) ∧ (kX6_init P65 g65 (sz + 1432) (sz + 1431)  (fun P69 g69 => (Ob P69 a 7) ∧ (∀ P72 : Sk, P72 = pRef P69 a 6 (sz + 1431) → (COk P P72 sz (1434) ∧ (1434 + 1 ≤ 1437 ∧ 10257 + 3 ≤ 10285)) ∧ (∀ P76 : Sk, P76 = pNew P72 (sz + 1434) 6 0 → ∀ g76 : St, g76 = va_up g69 (sz + 1434) z0 → (COk P P76 sz (1435) ∧ (1435 + 2 ≤ 1437 ∧ 10260 + 25 ≤ 10285)) ∧ (kX6_init P76 g76 (sz + 1435) (sz + 1434)  (fun P80 g80 => (Ob P80 a 7) ∧ (∀ P83 : Sk, P83 = pRef P80 a 7 (sz + 1434) → (1437 ≤ 1437 ∧ 10285 ≤ 10285) ∧ K P83 g80)))))))))))))))))))))))))))))
abbrev rmC_X7_init : Room := { frames := 6, cells := 1437, slots := 10285, locals := 123 }
set_option maxRecDepth 20000 in
set_option maxHeartbeats 4000000 in
theorem mX7_init (l : Launch) (G : Gl) (P : Sk) (f : St) (sz : Nat) (a : Nat) (K : Sk → St → Prop) (h : vX7_init P f sz a K) : Met l yX7_init (wU yX7_init cX7_init 1 none) (rmC_X7_init) (PcC G P f sz [.ref a]) (QcC G P sz K) (1437) (10285) (frA P sz) := by
  refine v_metc (own := RX7) [.ref a] (by decide +kernel) rfl rfl (Nat.le_of_ble_eq_true rfl) (fun p e s m args below meth c hsz o hr hnm hO => ?_)
  refine v_lv (lv2 := [(0, .ref a)]) rfl ?_
  unfold vX7_init at h
  refine v_aload_n o 0 dX7_init_0 rfl ?_
  refine v_obj o (mU 105 (by decide +kernel) rfl) (mU 106 (by decide +kernel) rfl) (mU 107 (by decide +kernel) rfl) ⟨Nat.le_of_ble_eq_true rfl, Nat.le_of_ble_eq_true rfl⟩ dX7_init_1 ?_
  refine v_aload_n o 0 dX7_init_4 rfl ?_
  refine v_new o hsz rfl h.1.1.1 h.1.1.2 lnX7_7 h.1.2 dX7_init_5 ?_
  replace h := h.2
  generalize eP5 : pNew P (sz + 0) 4 0 = P5
  replace h := h P5 eP5.symm
  generalize eg5 : va_up f (sz + 0) z0 = g5
  replace h := h g5 eg5.symm
  refine v_eqc (c2 := 1) (s2 := 2) (by first | rfl | omega) (by first | rfl | omega) ?_
  refine v_dup o dX7_init_8 rfl ?_
  have hq := h.1
  replace h := h.2
  refine v_cIN (host := "StrandLoaves") o hsz rfl hq.1.1 hq.1.2 hO [] [.ref (sz + 0), .ref a] (metX4_init l G P5 g5 (sz + 1) (sz + 0)  _ h) ⟨va_cnB 0 o.1.2.2.2.2 (gUc (mU 112 (by decide +kernel) rfl)) rfl rfl rfl (hO.2.2 _ (mN 110 (by decide +kernel) rfl)) (o.1.2.2.2.2 _ (mU 83 (by decide +kernel) rfl)) ⟨by decide +kernel, by decide +kernel, by decide +kernel⟩ ⟨Nat.le_of_ble_eq_true rfl, Nat.le_of_ble_eq_true rfl⟩, rfl, (o.1.2.2.2.2 _ (mU 111 (by decide +kernel) rfl))⟩ rfl (Nat.le_of_ble_eq_true rfl) hq.2 dX7_init_9 rfl (fun P9 g9 h => ?_)
  refine v_eqc (c2 := 3) (s2 := 63) (by first | rfl | omega) (by first | rfl | omega | decide) ?_
  refine v_pfR o lgX7_10 hnm h.1 dX7_init_12 ?_
  replace h := h.2
  generalize eP12 : pRef P9 a 0 (sz + 0) = P12
  replace h := h P12 eP12.symm
  refine v_aload_n o 0 dX7_init_15 rfl ?_
  refine v_new o hsz rfl h.1.1.1 h.1.1.2 lnX7_16 h.1.2 dX7_init_16 ?_
  replace h := h.2
  generalize eP16 : pNew P12 (sz + 3) 0 0 = P16
  replace h := h P16 eP16.symm
  generalize eg16 : va_up g9 (sz + 3) z0 = g16
  replace h := h g16 eg16.symm
  refine v_eqc (c2 := 4) (s2 := 69) (by first | rfl | omega) (by first | rfl | omega) ?_
  refine v_dup o dX7_init_19 rfl ?_
  have hq := h.1
  replace h := h.2
  refine v_cI o hsz rfl hq.1.1 hq.1.2 hO [] [.ref (sz + 3), .ref a] (metX0_init l G P16 g16 (sz + 4) (sz + 3)  _ h) (cwI 0 o.1.2.2.2.2 (gUc (mU 136 (by decide +kernel) rfl)) rfl rfl rfl (o.1.2.2.2.2 _ (mU 85 (by decide +kernel) rfl)) (o.1.2.2.2.2 _ (mU 134 (by decide +kernel) rfl)) (o.1.2.2.2.2 _ (mU 135 (by decide +kernel) rfl)) rfl ⟨by decide +kernel, by decide +kernel, by decide +kernel⟩ ⟨Nat.le_of_ble_eq_true rfl, Nat.le_of_ble_eq_true rfl⟩) rfl (Nat.le_of_ble_eq_true rfl) hq.2 dX7_init_20 rfl (fun P20 g20 h => ?_)
  refine v_eqc (c2 := 159) (s2 := 1174) (by first | rfl | omega) (by first | rfl | omega | decide) ?_
  refine v_pfR o lgX7_19 hnm h.1 dX7_init_23 ?_
  replace h := h.2
  generalize eP23 : pRef P20 a 1 (sz + 3) = P23
  replace h := h P23 eP23.symm
  refine v_aload_n o 0 dX7_init_26 rfl ?_
  refine v_new o hsz rfl h.1.1.1 h.1.1.2 lnX7_23 h.1.2 dX7_init_27 ?_
  replace h := h.2
  generalize eP27 : pNew P23 (sz + 159) 1 0 = P27
  replace h := h P27 eP27.symm
  generalize eg27 : va_up g20 (sz + 159) z0 = g27
  replace h := h g27 eg27.symm
  refine v_eqc (c2 := 160) (s2 := 1178) (by first | rfl | omega) (by first | rfl | omega) ?_
  refine v_dup o dX7_init_30 rfl ?_
  have hq := h.1
  replace h := h.2
  refine v_cI o hsz rfl hq.1.1 hq.1.2 hO [] [.ref (sz + 159), .ref a] (metX1_init l G P27 g27 (sz + 160) (sz + 159)  _ h) (cwI 0 o.1.2.2.2.2 (gUc (mU 229 (by decide +kernel) rfl)) rfl rfl rfl (o.1.2.2.2.2 _ (mU 89 (by decide +kernel) rfl)) (o.1.2.2.2.2 _ (mU 227 (by decide +kernel) rfl)) (o.1.2.2.2.2 _ (mU 228 (by decide +kernel) rfl)) rfl ⟨by decide +kernel, by decide +kernel, by decide +kernel⟩ ⟨Nat.le_of_ble_eq_true rfl, Nat.le_of_ble_eq_true rfl⟩) rfl (Nat.le_of_ble_eq_true rfl) hq.2 dX7_init_31 rfl (fun P31 g31 h => ?_)
  refine v_eqc (c2 := 1253) (s2 := 8961) (by first | rfl | omega) (by first | rfl | omega | decide) ?_
  refine v_pfR o lgX7_26 hnm h.1 dX7_init_34 ?_
  replace h := h.2
  generalize eP34 : pRef P31 a 2 (sz + 159) = P34
  replace h := h P34 eP34.symm
  refine v_aload_n o 0 dX7_init_37 rfl ?_
  refine v_new o hsz rfl h.1.1.1 h.1.1.2 lnX7_16 h.1.2 dX7_init_38 ?_
  replace h := h.2
  generalize eP38 : pNew P34 (sz + 1253) 0 0 = P38
  replace h := h P38 eP38.symm
  generalize eg38 : va_up g31 (sz + 1253) z0 = g38
  replace h := h g38 eg38.symm
  refine v_eqc (c2 := 1254) (s2 := 8967) (by first | rfl | omega) (by first | rfl | omega) ?_
  refine v_dup o dX7_init_41 rfl ?_
  have hq := h.1
  replace h := h.2
  refine v_cI o hsz rfl hq.1.1 hq.1.2 hO [] [.ref (sz + 1253), .ref a] (metX0_init l G P38 g38 (sz + 1254) (sz + 1253)  _ h) (cwI 0 o.1.2.2.2.2 (gUc (mU 136 (by decide +kernel) rfl)) rfl rfl rfl (o.1.2.2.2.2 _ (mU 85 (by decide +kernel) rfl)) (o.1.2.2.2.2 _ (mU 134 (by decide +kernel) rfl)) (o.1.2.2.2.2 _ (mU 135 (by decide +kernel) rfl)) rfl ⟨by decide +kernel, by decide +kernel, by decide +kernel⟩ ⟨Nat.le_of_ble_eq_true rfl, Nat.le_of_ble_eq_true rfl⟩) rfl (Nat.le_of_ble_eq_true rfl) hq.2 dX7_init_42 rfl (fun P42 g42 h => ?_)
  refine v_eqc (c2 := 1409) (s2 := 10072) (by first | rfl | omega) (by first | rfl | omega | decide) ?_
  refine v_pfR o lgX7_30 hnm h.1 dX7_init_45 ?_
  replace h := h.2
  generalize eP45 : pRef P42 a 3 (sz + 1253) = P45
  replace h := h P45 eP45.symm
  refine v_aload_n o 0 dX7_init_48 rfl ?_
  refine v_iconst o (v := 0) dX7_init_49 (by decide) ?_
  refine v_pf o lpX7_33 h.1 bz0 dX7_init_50 ?_
  replace h := h.2
  generalize eg50 : setf g42 a 4 0 = g50
  replace h := h g50 eg50.symm
  refine v_aload_n o 0 dX7_init_53 rfl ?_
  refine v_new o hsz rfl h.1.1.1 h.1.1.2 lnX7_37 h.1.2 dX7_init_54 ?_
  replace h := h.2
  generalize eP54 : pNew P45 (sz + 1409) 2 0 = P54
  replace h := h P54 eP54.symm
  generalize eg54 : va_up g50 (sz + 1409) z0 = g54
  replace h := h g54 eg54.symm
  refine v_eqc (c2 := 1410) (s2 := 10075) (by first | rfl | omega) (by first | rfl | omega) ?_
  refine v_dup o dX7_init_57 rfl ?_
  have hq := h.1
  replace h := h.2
  refine v_cIN (host := "StrandLoaves") o hsz rfl hq.1.1 hq.1.2 hO [] [.ref (sz + 1409), .ref a] (metX2_init l G P54 g54 (sz + 1410) (sz + 1409)  _ h) ⟨va_cnB 0 o.1.2.2.2.2 (gUc (mU 143 (by decide +kernel) rfl)) rfl rfl rfl (hO.2.2 _ (mN 248 (by decide +kernel) rfl)) (o.1.2.2.2.2 _ (mU 86 (by decide +kernel) rfl)) ⟨by decide +kernel, by decide +kernel, by decide +kernel⟩ ⟨Nat.le_of_ble_eq_true rfl, Nat.le_of_ble_eq_true rfl⟩, rfl, (o.1.2.2.2.2 _ (mU 142 (by decide +kernel) rfl))⟩ rfl (Nat.le_of_ble_eq_true rfl) hq.2 dX7_init_58 rfl (fun P58 g58 h => ?_)
  refine v_eqc (c2 := 1431) (s2 := 10229) (by first | rfl | omega) (by first | rfl | omega | decide) ?_
  refine v_pfR o lgX7_40 hnm h.1 dX7_init_61 ?_
  replace h := h.2
  generalize eP61 : pRef P58 a 5 (sz + 1409) = P61
  replace h := h P61 eP61.symm
  refine v_aload_n o 0 dX7_init_64 rfl ?_
  refine v_new o hsz rfl h.1.1.1 h.1.1.2 lnX7_44 h.1.2 dX7_init_65 ?_
  replace h := h.2
  generalize eP65 : pNew P61 (sz + 1431) 6 0 = P65
  replace h := h P65 eP65.symm
  generalize eg65 : va_up g58 (sz + 1431) z0 = g65
  replace h := h g65 eg65.symm
  refine v_eqc (c2 := 1432) (s2 := 10232) (by first | rfl | omega) (by first | rfl | omega) ?_
  refine v_dup o dX7_init_68 rfl ?_
  have hq := h.1
  replace h := h.2
  refine v_cIN (host := "StrandLoaves") o hsz rfl hq.1.1 hq.1.2 hO [] [.ref (sz + 1431), .ref a] (metX6_init l G P65 g65 (sz + 1432) (sz + 1431)  _ h) ⟨va_cnB 0 o.1.2.2.2.2 (gUc (mU 149 (by decide +kernel) rfl)) rfl rfl rfl (hO.2.2 _ (mN 250 (by decide +kernel) rfl)) (o.1.2.2.2.2 _ (mU 87 (by decide +kernel) rfl)) ⟨by decide +kernel, by decide +kernel, by decide +kernel⟩ ⟨Nat.le_of_ble_eq_true rfl, Nat.le_of_ble_eq_true rfl⟩, rfl, (o.1.2.2.2.2 _ (mU 148 (by decide +kernel) rfl))⟩ rfl (Nat.le_of_ble_eq_true rfl) hq.2 dX7_init_69 rfl (fun P69 g69 h => ?_)
  refine v_eqc (c2 := 1434) (s2 := 10257) (by first | rfl | omega) (by first | rfl | omega | decide) ?_
  refine v_pfR o lgX7_47 hnm h.1 dX7_init_72 ?_
  replace h := h.2
  generalize eP72 : pRef P69 a 6 (sz + 1431) = P72
  replace h := h P72 eP72.symm
  refine v_aload_n o 0 dX7_init_75 rfl ?_
  refine v_new o hsz rfl h.1.1.1 h.1.1.2 lnX7_44 h.1.2 dX7_init_76 ?_
  replace h := h.2
  generalize eP76 : pNew P72 (sz + 1434) 6 0 = P76
  replace h := h P76 eP76.symm
  generalize eg76 : va_up g69 (sz + 1434) z0 = g76
  replace h := h g76 eg76.symm
  refine v_eqc (c2 := 1435) (s2 := 10260) (by first | rfl | omega) (by first | rfl | omega) ?_
  refine v_dup o dX7_init_79 rfl ?_
  have hq := h.1
  replace h := h.2
  refine v_cIN (host := "StrandLoaves") o hsz rfl hq.1.1 hq.1.2 hO [] [.ref (sz + 1434), .ref a] (metX6_init l G P76 g76 (sz + 1435) (sz + 1434)  _ h) ⟨va_cnB 0 o.1.2.2.2.2 (gUc (mU 149 (by decide +kernel) rfl)) rfl rfl rfl (hO.2.2 _ (mN 250 (by decide +kernel) rfl)) (o.1.2.2.2.2 _ (mU 87 (by decide +kernel) rfl)) ⟨by decide +kernel, by decide +kernel, by decide +kernel⟩ ⟨Nat.le_of_ble_eq_true rfl, Nat.le_of_ble_eq_true rfl⟩, rfl, (o.1.2.2.2.2 _ (mU 148 (by decide +kernel) rfl))⟩ rfl (Nat.le_of_ble_eq_true rfl) hq.2 dX7_init_80 rfl (fun P80 g80 h => ?_)
  refine v_eqc (c2 := 1437) (s2 := 10285) (by first | rfl | omega) (by first | rfl | omega | decide) ?_
  refine v_pfR o lgX7_51 hnm h.1 dX7_init_83 ?_
  replace h := h.2
  generalize eP83 : pRef P80 a 7 (sz + 1434) = P83
  replace h := h P83 eP83.symm
  refine v_widen (k := 1437) (n := 10285) h.1.1 h.1.2 ?_
  exact v_vretC o rfl hr dX7_init_86 h.2
abbrev kX7_init := @vX7_init
abbrev metX7_init := @mX7_init

def vX8_init (P : Sk) (f : St) (sz : Nat) (a : Nat) (K : Sk → St → Prop) : Prop :=
  ((¬ (160 : Int32) < 0 ∧ 160 * 4 ≤ 536870912) ∧ COk P P sz (0) ∧ (0 + 1 ≤ 10 ∧ 0 + 160 ≤ 1593)) ∧ (∀ P8 : Sk, P8 = pNew P (sz + 0) 9 (160) → ∀ g8 : St, g8 = va_up f (sz + 0) z0 → (Ob P8 a 8) ∧ (∀ P10 : Sk, P10 = pRef P8 a 1 (sz + 0) → ((¬ (960 : Int32) < 0 ∧ 960 * 4 ≤ 536870912) ∧ COk P P10 sz (1) ∧ (1 + 1 ≤ 10 ∧ 160 + 960 ≤ 1593)) ∧ (∀ P17 : Sk, P17 = pNew P10 (sz + 1) 9 (960) → ∀ g17 : St, g17 = va_up g8 (sz + 1) z0 → (Ob P17 a 8) ∧ (∀ P19 : Sk, P19 = pRef P17 a 2 (sz + 1) → ((¬ (160 : Int32) < 0 ∧ 160 * 4 ≤ 536870912) ∧ COk P P19 sz (2) ∧ (2 + 1 ≤ 10 ∧ 1120 + 160 ≤ 1593)) ∧ (∀ P26 : Sk, P26 = pNew P19 (sz + 2) 9 (160) → ∀ g26 : St, g26 = va_up g17 (sz + 2) z0 → (Ob P26 a 8) ∧ (∀ P28 : Sk, P28 = pRef P26 a 4 (sz + 2) → ((¬ (60 : Int32) < 0 ∧ 60 * 4 ≤ 536870912) ∧ COk P P28 sz (3) ∧ (3 + 1 ≤ 10 ∧ 1280 + 60 ≤ 1593)) ∧ (∀ P34 : Sk, P34 = pNew P28 (sz + 3) 9 (60) → ∀ g34 : St, g34 = va_up g26 (sz + 3) z0 → (Ob P34 a 8) ∧ (∀ P36 : Sk, P36 = pRef P34 a 6 (sz + 3) → ((¬ (50 : Int32) < 0 ∧ 50 * 4 ≤ 536870912) ∧ COk P P36 sz (4) ∧ (4 + 1 ≤ 10 ∧ 1340 + 50 ≤ 1593)) ∧ (∀ P42 : Sk, P42 = pNew P36 (sz + 4) 9 (50) → ∀ g42 : St, g42 = va_up g34 (sz + 4) z0 → (Ob P42 a 8) ∧ (∀ P44 : Sk, P44 = pRef P42 a 8 (sz + 4) → ((¬ (7 : Int32) < 0 ∧ 7 * 4 ≤ 536870912) ∧ COk P P44 sz (5) ∧ (5 + 1 ≤ 10 ∧ 1390 + 7 ≤ 1593)) ∧ (∀ P50 : Sk, P50 = pNew P44 (sz + 5) 9 (7) → ∀ g50 : St, g50 = va_up g42 (sz + 5) z0 → (Ob P50 a 8) ∧ (∀ P52 : Sk, P52 = pRef P50 a 11 (sz + 5) → ((¬ (7 : Int32) < 0 ∧ 7 * 4 ≤ 536870912) ∧ COk P P52 sz (6) ∧ (6 + 1 ≤ 10 ∧ 1397 + 7 ≤ 1593)) ∧ (∀ P58 : Sk, P58 = pNew P52 (sz + 6) 9 (7) → ∀ g58 : St, g58 = va_up g50 (sz + 6) z0 → (Ob P58 a 8) ∧ (∀ P60 : Sk, P60 = pRef P58 a 12 (sz + 6) → ((¬ (7 : Int32) < 0 ∧ 7 * 4 ≤ 536870912) ∧ COk P P60 sz (7) ∧ (7 + 1 ≤ 10 ∧ 1404 + 7 ≤ 1593)) ∧ (∀ P66 : Sk, P66 = pNew P60 (sz + 7) 9 (7) → ∀ g66 : St, g66 = va_up g58 (sz + 7) z0 → (Ob P66 a 8) ∧ (∀ P68 : Sk, P68 = pRef P66 a 13 (sz + 7) → ((¬ (50 : Int32) < 0 ∧ 50 * 4 ≤ 536870912) ∧ COk P P68 sz (8) ∧ (8 + 1 ≤ 10 ∧ 1411 + 50 ≤ 1593)) ∧ (∀ P74 : Sk, P74 = pNew P68 (sz + 8) 9 (50) → ∀ g74 : St, g74 = va_up g66 (sz + 8) z0 → (Ob P74 a 8) ∧ (∀ P76 : Sk, P76 = pRef P74 a 16 (sz + 8) → ((¬ (132 : Int32) < 0 ∧ 132 * 4 ≤ 536870912) ∧ COk P P76 sz (9) ∧ (9 + 1 ≤ 10 ∧ 1461 + 132 ≤ 1593)) ∧ (∀ P83 : Sk, P83 = pNew P76 (sz + 9) 9 (132) → ∀ g83 : St, g83 = va_up g74 (sz + 9) z0 → (Ob P83 a 8) ∧ (∀ P85 : Sk, P85 = pRef P83 a 20 (sz + 9) → (Ob P85 a 8) ∧ (∀ g90 : St, g90 = setf g83 a 0 0 → (Ob P85 a 8 ∧ sR P85 a 1 = some (a + 1)) ∧ ((Ob P85 (a + 1) 9 ∧ sN P85 (a + 1) = 160) ∧ (∀ g99 : St, g99 = setf g90 (a + 1) ((2 : Int32)).toNatClampNeg (-1) → (Ob P85 a 8 ∧ sR P85 a 1 = some (a + 1)) ∧ ((Ob P85 (a + 1) 9 ∧ sN P85 (a + 1) = 160) ∧ (∀ g106 : St, g106 = setf g99 (a + 1) ((3 : Int32)).toNatClampNeg (-1) → (10 ≤ 10 ∧ 1593 ≤ 1593) ∧ K P85 g106)))))))))))))))))))))))))
abbrev rmC_X8_init : Room := { frames := 1, cells := 10, slots := 1593, locals := 20 }
set_option maxRecDepth 20000 in
set_option maxHeartbeats 4000000 in
theorem mX8_init (l : Launch) (G : Gl) (P : Sk) (f : St) (sz : Nat) (a : Nat) (K : Sk → St → Prop) (h : vX8_init P f sz a K) : Met l yX8_init (wU yX8_init cX8_init 1 none) (rmC_X8_init) (PcC G P f sz [.ref a]) (QcC G P sz K) (10) (1593) (frA P sz) := by
  refine v_metc (own := RX8) [.ref a] (by decide +kernel) rfl rfl (Nat.le_of_ble_eq_true rfl) (fun p e s m args below meth c hsz o hr hnm hO => ?_)
  refine v_lv (lv2 := [(0, .ref a)]) rfl ?_
  unfold vX8_init at h
  refine v_aload_n o 0 dX8_init_0 rfl ?_
  refine v_obj o (mU 1009 (by decide +kernel) rfl) (mU 106 (by decide +kernel) rfl) (mU 107 (by decide +kernel) rfl) ⟨Nat.le_of_ble_eq_true rfl, Nat.le_of_ble_eq_true rfl⟩ dX8_init_1 ?_
  refine v_aload_n o 0 dX8_init_4 rfl ?_
  refine v_sipush o (v := 160) dX8_init_5 (by decide) ?_
  refine v_newarr o hsz rfl h.1.2.1.1 h.1.2.1.2 (mU 124 (by decide +kernel) rfl) h.1.1.1 (by decide) h.1.1.2 h.1.2.2 dX8_init_8 ?_
  replace h := h.2
  generalize eP8 : pNew P (sz + 0) 9 (160) = P8
  replace h := h P8 eP8.symm
  generalize eg8 : va_up f (sz + 0) z0 = g8
  replace h := h g8 eg8.symm
  refine v_eqc (c2 := 1) (s2 := 160) (by first | rfl | omega) (by first | rfl | omega) ?_
  refine v_pfR o lgX8_7 hnm h.1 dX8_init_10 ?_
  replace h := h.2
  generalize eP10 : pRef P8 a 1 (sz + 0) = P10
  replace h := h P10 eP10.symm
  refine v_aload_n o 0 dX8_init_13 rfl ?_
  refine v_sipush o (v := 960) dX8_init_14 (by decide) ?_
  refine v_newarr o hsz rfl h.1.2.1.1 h.1.2.1.2 (mU 124 (by decide +kernel) rfl) h.1.1.1 (by decide) h.1.1.2 h.1.2.2 dX8_init_17 ?_
  replace h := h.2
  generalize eP17 : pNew P10 (sz + 1) 9 (960) = P17
  replace h := h P17 eP17.symm
  generalize eg17 : va_up g8 (sz + 1) z0 = g17
  replace h := h g17 eg17.symm
  refine v_eqc (c2 := 2) (s2 := 1120) (by first | rfl | omega) (by first | rfl | omega) ?_
  refine v_pfR o lgX8_13 hnm h.1 dX8_init_19 ?_
  replace h := h.2
  generalize eP19 : pRef P17 a 2 (sz + 1) = P19
  replace h := h P19 eP19.symm
  refine v_aload_n o 0 dX8_init_22 rfl ?_
  refine v_sipush o (v := 160) dX8_init_23 (by decide) ?_
  refine v_newarr o hsz rfl h.1.2.1.1 h.1.2.1.2 (mU 124 (by decide +kernel) rfl) h.1.1.1 (by decide) h.1.1.2 h.1.2.2 dX8_init_26 ?_
  replace h := h.2
  generalize eP26 : pNew P19 (sz + 2) 9 (160) = P26
  replace h := h P26 eP26.symm
  generalize eg26 : va_up g17 (sz + 2) z0 = g26
  replace h := h g26 eg26.symm
  refine v_eqc (c2 := 3) (s2 := 1280) (by first | rfl | omega) (by first | rfl | omega) ?_
  refine v_pfR o lgX8_16 hnm h.1 dX8_init_28 ?_
  replace h := h.2
  generalize eP28 : pRef P26 a 4 (sz + 2) = P28
  replace h := h P28 eP28.symm
  refine v_aload_n o 0 dX8_init_31 rfl ?_
  refine v_bipush o (v := 60) dX8_init_32 (by decide) ?_
  refine v_newarr o hsz rfl h.1.2.1.1 h.1.2.1.2 (mU 124 (by decide +kernel) rfl) h.1.1.1 (by decide) h.1.1.2 h.1.2.2 dX8_init_34 ?_
  replace h := h.2
  generalize eP34 : pNew P28 (sz + 3) 9 (60) = P34
  replace h := h P34 eP34.symm
  generalize eg34 : va_up g26 (sz + 3) z0 = g34
  replace h := h g34 eg34.symm
  refine v_eqc (c2 := 4) (s2 := 1340) (by first | rfl | omega) (by first | rfl | omega) ?_
  refine v_pfR o lgX8_19 hnm h.1 dX8_init_36 ?_
  replace h := h.2
  generalize eP36 : pRef P34 a 6 (sz + 3) = P36
  replace h := h P36 eP36.symm
  refine v_aload_n o 0 dX8_init_39 rfl ?_
  refine v_bipush o (v := 50) dX8_init_40 (by decide) ?_
  refine v_newarr o hsz rfl h.1.2.1.1 h.1.2.1.2 (mU 124 (by decide +kernel) rfl) h.1.1.1 (by decide) h.1.1.2 h.1.2.2 dX8_init_42 ?_
  replace h := h.2
  generalize eP42 : pNew P36 (sz + 4) 9 (50) = P42
  replace h := h P42 eP42.symm
  generalize eg42 : va_up g34 (sz + 4) z0 = g42
  replace h := h g42 eg42.symm
  refine v_eqc (c2 := 5) (s2 := 1390) (by first | rfl | omega) (by first | rfl | omega) ?_
  refine v_pfR o lgX8_22 hnm h.1 dX8_init_44 ?_
  replace h := h.2
  generalize eP44 : pRef P42 a 8 (sz + 4) = P44
  replace h := h P44 eP44.symm
  refine v_aload_n o 0 dX8_init_47 rfl ?_
  refine v_bipush o (v := 7) dX8_init_48 (by decide) ?_
  refine v_newarr o hsz rfl h.1.2.1.1 h.1.2.1.2 (mU 124 (by decide +kernel) rfl) h.1.1.1 (by decide) h.1.1.2 h.1.2.2 dX8_init_50 ?_
  replace h := h.2
  generalize eP50 : pNew P44 (sz + 5) 9 (7) = P50
  replace h := h P50 eP50.symm
  generalize eg50 : va_up g42 (sz + 5) z0 = g50
  replace h := h g50 eg50.symm
  refine v_eqc (c2 := 6) (s2 := 1397) (by first | rfl | omega) (by first | rfl | omega) ?_
  refine v_pfR o lgX8_25 hnm h.1 dX8_init_52 ?_
  replace h := h.2
  generalize eP52 : pRef P50 a 11 (sz + 5) = P52
  replace h := h P52 eP52.symm
  refine v_aload_n o 0 dX8_init_55 rfl ?_
  refine v_bipush o (v := 7) dX8_init_56 (by decide) ?_
  refine v_newarr o hsz rfl h.1.2.1.1 h.1.2.1.2 (mU 124 (by decide +kernel) rfl) h.1.1.1 (by decide) h.1.1.2 h.1.2.2 dX8_init_58 ?_
  replace h := h.2
  generalize eP58 : pNew P52 (sz + 6) 9 (7) = P58
  replace h := h P58 eP58.symm
  generalize eg58 : va_up g50 (sz + 6) z0 = g58
  replace h := h g58 eg58.symm
  refine v_eqc (c2 := 7) (s2 := 1404) (by first | rfl | omega) (by first | rfl | omega) ?_
  refine v_pfR o lgX8_28 hnm h.1 dX8_init_60 ?_
  replace h := h.2
  generalize eP60 : pRef P58 a 12 (sz + 6) = P60
  replace h := h P60 eP60.symm
  refine v_aload_n o 0 dX8_init_63 rfl ?_
  refine v_bipush o (v := 7) dX8_init_64 (by decide) ?_
  refine v_newarr o hsz rfl h.1.2.1.1 h.1.2.1.2 (mU 124 (by decide +kernel) rfl) h.1.1.1 (by decide) h.1.1.2 h.1.2.2 dX8_init_66 ?_
  replace h := h.2
  generalize eP66 : pNew P60 (sz + 7) 9 (7) = P66
  replace h := h P66 eP66.symm
  generalize eg66 : va_up g58 (sz + 7) z0 = g66
  replace h := h g66 eg66.symm
  refine v_eqc (c2 := 8) (s2 := 1411) (by first | rfl | omega) (by first | rfl | omega) ?_
  refine v_pfR o lgX8_31 hnm h.1 dX8_init_68 ?_
  replace h := h.2
  generalize eP68 : pRef P66 a 13 (sz + 7) = P68
  replace h := h P68 eP68.symm
  refine v_aload_n o 0 dX8_init_71 rfl ?_
  refine v_bipush o (v := 50) dX8_init_72 (by decide) ?_
  refine v_newarr o hsz rfl h.1.2.1.1 h.1.2.1.2 (mU 124 (by decide +kernel) rfl) h.1.1.1 (by decide) h.1.1.2 h.1.2.2 dX8_init_74 ?_
  replace h := h.2
  generalize eP74 : pNew P68 (sz + 8) 9 (50) = P74
  replace h := h P74 eP74.symm
  generalize eg74 : va_up g66 (sz + 8) z0 = g74
  replace h := h g74 eg74.symm
  refine v_eqc (c2 := 9) (s2 := 1461) (by first | rfl | omega) (by first | rfl | omega) ?_
  refine v_pfR o lgX8_34 hnm h.1 dX8_init_76 ?_
  replace h := h.2
  generalize eP76 : pRef P74 a 16 (sz + 8) = P76
  replace h := h P76 eP76.symm
  refine v_aload_n o 0 dX8_init_79 rfl ?_
  refine v_sipush o (v := 132) dX8_init_80 (by decide) ?_
  refine v_newarr o hsz rfl h.1.2.1.1 h.1.2.1.2 (mU 124 (by decide +kernel) rfl) h.1.1.1 (by decide) h.1.1.2 h.1.2.2 dX8_init_83 ?_
  replace h := h.2
  generalize eP83 : pNew P76 (sz + 9) 9 (132) = P83
  replace h := h P83 eP83.symm
  generalize eg83 : va_up g74 (sz + 9) z0 = g83
  replace h := h g83 eg83.symm
  refine v_eqc (c2 := 10) (s2 := 1593) (by first | rfl | omega) (by first | rfl | omega) ?_
  refine v_pfR o lgX8_37 hnm h.1 dX8_init_85 ?_
  replace h := h.2
  generalize eP85 : pRef P83 a 20 (sz + 9) = P85
  replace h := h P85 eP85.symm
  refine v_aload_n o 0 dX8_init_88 rfl ?_
  refine v_iconst o (v := 0) dX8_init_89 (by decide) ?_
  refine v_pf o lpX8_40 h.1 ⟨rfl, rfl⟩ dX8_init_90 ?_
  replace h := h.2
  generalize eg90 : setf g83 a 0 0 = g90
  replace h := h g90 eg90.symm
  refine v_aload_n o 0 dX8_init_93 rfl ?_
  refine v_gfR o lkX8_7 (by decide) h.1.1 h.1.2 dX8_init_94 ?_
  replace h := h.2
  refine v_iconst o (v := 2) dX8_init_97 (by decide) ?_
  refine v_iconst o (v := (-1)) dX8_init_98 (by decide) ?_
  refine v_iast o h.1.1 h.1.2 (by unfold vp_in; decide) dX8_init_99 ?_
  replace h := h.2
  generalize eg99 : setf g90 (a + 1) ((2 : Int32)).toNatClampNeg (-1) = g99
  replace h := h g99 eg99.symm
  refine v_aload_n o 0 dX8_init_100 rfl ?_
  refine v_gfR o lkX8_7 (by decide) h.1.1 h.1.2 dX8_init_101 ?_
  replace h := h.2
  refine v_iconst o (v := 3) dX8_init_104 (by decide) ?_
  refine v_iconst o (v := (-1)) dX8_init_105 (by decide) ?_
  refine v_iast o h.1.1 h.1.2 (by unfold vp_in; decide) dX8_init_106 ?_
  replace h := h.2
  generalize eg106 : setf g99 (a + 1) ((3 : Int32)).toNatClampNeg (-1) = g106
  replace h := h g106 eg106.symm
  refine v_widen (k := 10) (n := 1593) h.1.1 h.1.2 ?_
  exact v_vretC o rfl hr dX8_init_107 h.2
abbrev kX8_init := @vX8_init
abbrev metX8_init := @mX8_init

