def bX0_init (P : Sk) (sz : Nat) (a : Nat) (L : Sk → St → Int32 → Prop) (K : Sk → St → Prop) (P1 : Sk) (f : St) (x1 : Int32) : Prop :=
  (Ob P1 a 0 ∧ sR P1 a 0 = some (a + 1)) ∧ ((Ob P1 (a + 1) 11 ∧ sN P1 (a + 1) = 6) ∧ ((nI 6 ≤ x1 → (23 + 22 * x1.toNatClampNeg ≤ 155 ∧ 163 + 157 * x1.toNatClampNeg ≤ 1105) ∧ K P1 f) ∧ (¬ nI 6 ≤ x1 → (Ob P1 a 0 ∧ sR P1 a 0 = some (a + 1)) ∧ ((COk P P1 sz (23 + 22 * x1.toNatClampNeg) ∧ (23 + 22 * x1.toNatClampNeg + 1 ≤ 155 ∧ 163 + 157 * x1.toNatClampNeg + 3 ≤ 1105)) ∧ (∀ P60 : Sk, P60 = pNew P1 (sz + (23 + 22 * x1.toNatClampNeg)) 2 0 → ∀ g60 : St, g60 = va_up f (sz + (23 + 22 * x1.toNatClampNeg)) z0 → (COk P P60 sz (23 + 22 * x1.toNatClampNeg + 1) ∧ (23 + 22 * x1.toNatClampNeg + 1 + 21 ≤ 155 ∧ 163 + 157 * x1.toNatClampNeg + 3 + 154 ≤ 1105)) ∧ (kX2_init P60 g60 (sz + (23 + 22 * x1.toNatClampNeg + 1)) (sz + (23 + 22 * x1.toNatClampNeg))  (fun P64 g64 => (Ob P64 (a + 1) 11 ∧ sN P64 (a + 1) = 6 ∧ vp_in x1 6 ∧ Ob P64 (sz + (23 + 22 * x1.toNatClampNeg)) 2) ∧ (∀ P67 : Sk, P67 = pRef P64 (a + 1) x1.toNatClampNeg (sz + (23 + 22 * x1.toNatClampNeg)) → ∀ x1_68 : Int32, x1_68 = x1 + 1 → (23 + 22 * x1.toNatClampNeg + 1 + 21 ≤ 23 + 22 * x1_68.toNatClampNeg ∧ 163 + 157 * x1.toNatClampNeg + 3 + 154 ≤ 163 + 157 * x1_68.toNatClampNeg) ∧ L P67 g64 x1_68))))))))
def vX0_init (P : Sk) (f : St) (sz : Nat) (a : Nat) (L : Sk → St → Int32 → Prop) (K : Sk → St → Prop) : Prop :=
  (COk P P sz (0) ∧ (0 + 1 ≤ 155 ∧ 0 + 6 ≤ 1105)) ∧ (∀ P7 : Sk, P7 = pNew P (sz + 0) 11 6 → ∀ g7 : St, g7 = va_up f (sz + 0) z0 → (Ob P7 a 0) ∧ (∀ P10 : Sk, P10 = pRef P7 a 0 (sz + 0) → (COk P P10 sz (1) ∧ (1 + 1 ≤ 155 ∧ 6 + 3 ≤ 1105)) ∧ (∀ P14 : Sk, P14 = pNew P10 (sz + 1) 2 0 → ∀ g14 : St, g14 = va_up g7 (sz + 1) z0 → (COk P P14 sz (2) ∧ (2 + 21 ≤ 155 ∧ 9 + 154 ≤ 1105)) ∧ (kX2_init P14 g14 (sz + 2) (sz + 1)  (fun P18 g18 => (Ob P18 a 0) ∧ (∀ P21 : Sk, P21 = pRef P18 a 1 (sz + 1) → (Ob P21 a 0) ∧ (∀ g26 : St, g26 = setf g18 a 2 0 → (Ob P21 a 0) ∧ (∀ g31 : St, g31 = setf g26 a 3 0 → (Ob P21 a 0) ∧ (∀ g36 : St, g36 = setf g31 a 4 (-1) → (Ob P21 a 0) ∧ (∀ g41 : St, g41 = setf g36 a 5 (-1) → (23 ≤ 23 + 22 * ((0 : Int32)).toNatClampNeg ∧ 163 ≤ 163 + 157 * ((0 : Int32)).toNatClampNeg) ∧ L P21 g41 0))))))))))
abbrev rmC_X0_init : Room := { frames := 4, cells := 155, slots := 1105, locals := 81 }
set_option maxRecDepth 20000 in
set_option maxHeartbeats 4000000 in
theorem mX0_init (l : Launch) (G : Gl) (P : Sk) (f : St) (sz : Nat) (a : Nat) (K : Sk → St → Prop) (L : Sk → St → Int32 → Prop) (μ : Sk → St → Int32 → Nat) (h : vX0_init P f sz a L K) (hb : ∀ (P1 : Sk) (g : St) (x1 : Int32), L P1 g x1 → bX0_init P sz a (fun P2 g2 z => L P2 g2 z ∧ μ P2 g2 z < μ P1 g x1) K P1 g x1) : Met l yX0_init (wU yX0_init cX0_init 2 none) (rmC_X0_init) (PcC G P f sz [.ref a]) (QcC G P sz K) (155) (1105) (frA P sz) := by
  refine v_metc (own := RX0) [.ref a] (by decide +kernel) rfl rfl (Nat.le_of_ble_eq_true rfl) (fun p e s m args below meth c hsz o hr hnm hO => ?_)
  refine v_lv (lv2 := [(0, .ref a)]) rfl ?_
  have main : ∀ n : Nat, ∀ (P1 : Sk) (g : St) (x1 : Int32), L P1 g x1 → μ P1 g x1 < n → V p l e (rmC_X0_init) s m args below meth c 2 G (frA P sz) (MQ below (QcC G P sz K) args s (155) (1105) (frA P sz)) (23 + 22 * x1.toNatClampNeg) (163 + 157 * x1.toNatClampNeg) P1 [(0, .ref a), (1, .int x1)] [] 46 g := by
    intro n
    induction n with
    | zero => exact fun P1 g x1 hI hm => absurd hm (Nat.not_lt_zero _)
    | succ n ih =>
      intro P1 g x1 hI hm
      have h := hb P1 g x1 hI
      clear hI
      unfold bX0_init at h
      refine v_iload_n o 1 dX0_init_46 rfl ?_
      refine v_aload_n o 0 dX0_init_47 rfl ?_
      refine v_gfR o lkX0_11 (by decide) h.1.1 h.1.2 dX0_init_48 ?_
      replace h := h.2
      refine v_alen11 o h.1.1 h.1.2 dX0_init_51 ?_
      replace h := h.2
      refine v_icmp_ge o (tgt := 74) dX0_init_52 (by decide) (fun c52 => ?_) (fun c52 => ?_)
      · replace h := h.1 c52
        refine v_widen (k := 155) (n := 1105) h.1.1 h.1.2 ?_
        exact v_vretC o rfl hr dX0_init_74 h.2
      · replace h := h.2 c52
        refine v_aload_n o 0 dX0_init_55 rfl ?_
        refine v_gfR o lkX0_11 (by decide) h.1.1 h.1.2 dX0_init_56 ?_
        replace h := h.2
        refine v_iload_n o 1 dX0_init_59 rfl ?_
        refine v_new o hsz rfl h.1.1.1 h.1.1.2 lnX0_9 h.1.2 dX0_init_60 ?_
        replace h := h.2
        generalize eP60 : pNew P1 (sz + (23 + 22 * x1.toNatClampNeg)) 2 0 = P60
        replace h := h P60 eP60.symm
        generalize eg60 : va_up g (sz + (23 + 22 * x1.toNatClampNeg)) z0 = g60
        replace h := h g60 eg60.symm
        refine v_eqc (c2 := 23 + 22 * x1.toNatClampNeg + 1) (s2 := 163 + 157 * x1.toNatClampNeg + 3) (by first | rfl | omega) (by first | rfl | omega) ?_
        refine v_dup o dX0_init_63 rfl ?_
        have hq := h.1
        replace h := h.2
        refine v_cIN (host := "StrandLoaves") o hsz rfl hq.1.1 hq.1.2 hO [] [.ref (sz + (23 + 22 * x1.toNatClampNeg)), .int x1, .ref (a + 1)] (metX2_init l G P60 g60 (sz + (23 + 22 * x1.toNatClampNeg + 1)) (sz + (23 + 22 * x1.toNatClampNeg))  _ h) ⟨va_cnB 0 o.1.2.2.2.2 (gUc (mU 85 (by decide +kernel) rfl)) rfl rfl rfl (hO.2.2 _ (mN 83 (by decide +kernel) rfl)) (o.1.2.2.2.2 _ (mU 30 (by decide +kernel) rfl)) ⟨by decide +kernel, by decide +kernel, by decide +kernel⟩ ⟨Nat.le_of_ble_eq_true rfl, Nat.le_of_ble_eq_true rfl⟩, rfl, (o.1.2.2.2.2 _ (mU 84 (by decide +kernel) rfl))⟩ rfl (Nat.le_of_ble_eq_true rfl) hq.2 dX0_init_64 rfl (fun P64 g64 h => ?_)
        refine v_eqc (c2 := 23 + 22 * x1.toNatClampNeg + 1 + 21) (s2 := 163 + 157 * x1.toNatClampNeg + 3 + 154) (by first | rfl | omega) (by first | rfl | omega | decide) ?_
        refine v_aast11 o h.1.1 h.1.2.1 h.1.2.2.1 (ci := 2) ⟨_, rfl, rfl⟩ (by decide) h.1.2.2.2 dX0_init_67 ?_
        replace h := h.2
        generalize eP67 : pRef P64 (a + 1) x1.toNatClampNeg (sz + (23 + 22 * x1.toNatClampNeg)) = P67
        replace h := h P67 eP67.symm
        obtain ⟨x1_68, ex1_68⟩ : ∃ y : Int32, y = x1 + 1 := ⟨_, rfl⟩
        replace h := h x1_68 ex1_68
        refine v_iinc o (v := x1_68) (lv' := [(1, .int x1_68), (0, .ref a)]) 1 dX0_init_68 rfl (by rw [ex1_68]; rfl) (by decide) rfl ?_
        refine v_goto o (tgt := 46) dX0_init_71 (by decide) ?_
        refine v_sub [1, 0] (lv2 := [(0, .ref a), (1, .int x1_68)]) rfl ?_
        refine v_widen h.1.1 h.1.2 ?_
        exact ih P67 g64 x1_68 h.2.1 (by have := h.2.2; omega)
  unfold vX0_init at h
  refine v_aload_n o 0 dX0_init_0 rfl ?_
  refine v_obj o (mU 79 (by decide +kernel) rfl) (mU 48 (by decide +kernel) rfl) (mU 49 (by decide +kernel) rfl) ⟨Nat.le_of_ble_eq_true rfl, Nat.le_of_ble_eq_true rfl⟩ dX0_init_1 ?_
  refine v_aload_n o 0 dX0_init_4 rfl ?_
  refine v_bipush o (v := 6) dX0_init_5 (by decide) ?_
  refine v_anew11 o hsz rfl h.1.1.1 h.1.1.2 (mU 80 (by decide +kernel) rfl) hO.1 (by decide) (N := 6) (by decide) (by decide) h.1.2 dX0_init_7 ?_
  replace h := h.2
  generalize eP7 : pNew P (sz + 0) 11 6 = P7
  replace h := h P7 eP7.symm
  generalize eg7 : va_up f (sz + 0) z0 = g7
  replace h := h g7 eg7.symm
  refine v_eqc (c2 := 1) (s2 := 6) (by first | rfl | omega) (by first | rfl | omega) ?_
  refine v_pfR o lgX0_11 hnm h.1 dX0_init_10 ?_
  replace h := h.2
  generalize eP10 : pRef P7 a 0 (sz + 0) = P10
  replace h := h P10 eP10.symm
  refine v_aload_n o 0 dX0_init_13 rfl ?_
  refine v_new o hsz rfl h.1.1.1 h.1.1.2 lnX0_9 h.1.2 dX0_init_14 ?_
  replace h := h.2
  generalize eP14 : pNew P10 (sz + 1) 2 0 = P14
  replace h := h P14 eP14.symm
  generalize eg14 : va_up g7 (sz + 1) z0 = g14
  replace h := h g14 eg14.symm
  refine v_eqc (c2 := 2) (s2 := 9) (by first | rfl | omega) (by first | rfl | omega) ?_
  refine v_dup o dX0_init_17 rfl ?_
  have hq := h.1
  replace h := h.2
  refine v_cIN (host := "StrandLoaves") o hsz rfl hq.1.1 hq.1.2 hO [] [.ref (sz + 1), .ref a] (metX2_init l G P14 g14 (sz + 2) (sz + 1)  _ h) ⟨va_cnB 0 o.1.2.2.2.2 (gUc (mU 85 (by decide +kernel) rfl)) rfl rfl rfl (hO.2.2 _ (mN 83 (by decide +kernel) rfl)) (o.1.2.2.2.2 _ (mU 30 (by decide +kernel) rfl)) ⟨by decide +kernel, by decide +kernel, by decide +kernel⟩ ⟨Nat.le_of_ble_eq_true rfl, Nat.le_of_ble_eq_true rfl⟩, rfl, (o.1.2.2.2.2 _ (mU 84 (by decide +kernel) rfl))⟩ rfl (Nat.le_of_ble_eq_true rfl) hq.2 dX0_init_18 rfl (fun P18 g18 h => ?_)
  refine v_eqc (c2 := 23) (s2 := 163) (by first | rfl | omega) (by first | rfl | omega | decide) ?_
  refine v_pfR o lgX0_18 hnm h.1 dX0_init_21 ?_
  replace h := h.2
  generalize eP21 : pRef P18 a 1 (sz + 1) = P21
  replace h := h P21 eP21.symm
  refine v_aload_n o 0 dX0_init_24 rfl ?_
  refine v_iconst o (v := 0) dX0_init_25 (by decide) ?_
  refine v_pf o lpX0_22 h.1 ⟨rfl, rfl⟩ dX0_init_26 ?_
  replace h := h.2
  generalize eg26 : setf g18 a 2 0 = g26
  replace h := h g26 eg26.symm
  refine v_aload_n o 0 dX0_init_29 rfl ?_
  refine v_iconst o (v := 0) dX0_init_30 (by decide) ?_
  refine v_pf o lpX0_26 h.1 ⟨rfl, rfl⟩ dX0_init_31 ?_
  replace h := h.2
  generalize eg31 : setf g26 a 3 0 = g31
  replace h := h g31 eg31.symm
  refine v_aload_n o 0 dX0_init_34 rfl ?_
  refine v_iconst o (v := (-1)) dX0_init_35 (by decide) ?_
  refine v_pf o lpX0_29 h.1 ⟨rfl, rfl⟩ dX0_init_36 ?_
  replace h := h.2
  generalize eg36 : setf g31 a 4 (-1) = g36
  replace h := h g36 eg36.symm
  refine v_aload_n o 0 dX0_init_39 rfl ?_
  refine v_iconst o (v := (-1)) dX0_init_40 (by decide) ?_
  refine v_pf o lpX0_32 h.1 ⟨rfl, rfl⟩ dX0_init_41 ?_
  replace h := h.2
  generalize eg41 : setf g36 a 5 (-1) = g41
  replace h := h g41 eg41.symm
  refine v_iconst o (v := 0) dX0_init_44 (by decide) ?_
  refine v_istore_n o (lv' := [(1, .int 0), (0, .ref a)]) dX0_init_45 rfl (by decide) rfl ?_
  refine v_sub [1, 0] (lv2 := [(0, .ref a), (1, .int 0)]) rfl ?_
  refine v_widen h.1.1 h.1.2 ?_
  exact main (μ P21 g41 0 + 1) P21 g41 0 h.2 (Nat.lt_succ_self _)
def kX0_init (P : Sk) (f : St) (sz : Nat) (a : Nat) (K : Sk → St → Prop) : Prop := sz = a + 1 ∧ Ob P a 0 ∧ ∀ P2 f2, Gr P P2 f f2 a 156 → IsBoard P2 a → f2 a 2 = 0 → f2 a 3 = 0 → f2 a 4 = (-1) → f2 a 5 = (-1) → K P2 f2
def IX0_init (P : Sk) (f : St) (a : Nat) (P1 : Sk) (g : St) (i : Nat) : Prop := Gr P P1 f g a (24 + 22 * i) ∧ Ob P1 (a + 1) 11 ∧ sN P1 (a + 1) = 6 ∧ sR P1 a 0 = some (a + 1) ∧ sR P1 a 1 = some (a + 2) ∧ IsLoaf P1 (a + 2) ∧ (∀ j, j < i → sR P1 (a + 1) j = some (a + 24 + 22 * j)) ∧ (∀ j, j < i → IsLoaf P1 (a + 24 + 22 * j)) ∧ g a 2 = 0 ∧ g a 3 = 0 ∧ g a 4 = (-1) ∧ g a 5 = (-1)
theorem metX0_init (l : Launch) (G : Gl) (P : Sk) (f : St) (sz : Nat) (a : Nat) (K : Sk → St → Prop) (h : kX0_init P f sz a K) : Met l yX0_init (wU yX0_init cX0_init 2 none) (rmC_X0_init) (PcC G P f sz [.ref a]) (QcC G P sz K) (155) (1105) (frA P sz) := by
  obtain ⟨rfl, ho, hK⟩ := h
  refine mX0_init l G P f (a + 1) a K (fun P1 g x => ∃ i, x = nI i ∧ i ≤ 6 ∧ IX0_init P f a P1 g i) (fun P1 g x => 6 - x.toNatClampNeg) ?_ ?_
  · unfold vX0_init
    have G0 := Gr.refl P f a
    refine ⟨⟨G0.cok (by decide), by decide, by decide⟩, fun Q e g1 d1 => ?_⟩
    subst e
    have N1 := gw_new 11 6 G0 (by decide) (q := a + 1 + 0) (by omega)
    rw [← d1] at N1
    refine ⟨N1.ob ho, fun Q1 e1 => ?_⟩
    have H1 := Gr.refl (pNew P (a + 1 + 0) 11 6) (va_up f (a + 1 + 0) z0) (a + 1 + 0)
    obtain ⟨G1, L1, U1, T1, R1⟩ := gr_child G0 (by decide) (by decide) (by omega) H1 (Nat.le_refl a) (by omega) e1
    rw [← d1] at G1 L1 U1 T1
    have o1 : Ob Q1 (a + 1) 11 := ob_sm (ob_new _ (a + 1 + 0) 11 6) (U1 _ (by omega))
    have m1 : sN Q1 (a + 1) = 6 := (U1 _ (by omega)).2.2.1.trans (by simp [pNew, va_up, sN])
    have r1 : sR Q1 a 0 = some (a + 1) := by rw [R1, if_pos rfl]
    refine ⟨⟨G1.cok (by decide), by decide, by decide⟩, fun Q e g d => ?_⟩
    subst e d
    have N2 := gw_new 2 0 G1 (by decide) (q := a + 1 + 1) (by omega)
    refine ⟨⟨N2.cok (by decide), by decide, by decide⟩, ?_⟩
    refine uc_X2 (ob_new _ _ _ _) (fun Q2 g2 H2 I2  => ?_)
    have S2 := gr_sub N2 H2 (by omega) (by decide) (by decide)
    refine ⟨S2.ob ho, fun Q2 e2 => ?_⟩
    obtain ⟨G2, L2, U2, T2, R2⟩ := gr_child G1 (by decide) (by decide) (by omega) H2 (Nat.le_refl a) (by omega) e2
    replace o1 : Ob Q2 (a + 1) 11 := ob_sm o1 (L2 (a + 1) (by omega) (by omega))
    replace m1 : sN Q2 (a + 1) = 6 := (L2 (a + 1) (by omega) (by omega)).2.2.1.trans m1
    replace r1 : sR Q2 a 0 = some (a + 1) := by rw [R2, if_neg (by decide)]; exact r1
    have J2 : IsLoaf Q2 (a + 2) := I2.eq (fun x h1 h2 => U2 x (by omega))
    have r2 : sR Q2 a 1 = some (a + 2) := by rw [R2, if_pos rfl]
    refine ⟨G2.ob ho, fun s0 d0' => ?_⟩
    refine ⟨G2.ob ho, fun s1 d1' => ?_⟩
    refine ⟨G2.ob ho, fun s2 d2' => ?_⟩
    refine ⟨G2.ob ho, fun s3 d3' => ?_⟩
    subst d0' d1' d2' d3'
    exact ⟨⟨by decide, by decide⟩, 0, rfl, by decide, ((((G2).set (Nat.le_refl a)).set (Nat.le_refl a)).set (Nat.le_refl a)).set (Nat.le_refl a), o1, m1, r1, r2, J2, fun j hj => absurd hj (Nat.not_lt_zero _), fun j hj => absurd hj (Nat.not_lt_zero _), (by rw [setf_off (Or.inr (by decide))]; rw [setf_off (Or.inr (by decide))]; rw [setf_off (Or.inr (by decide))]; rw [setf_same]), (by rw [setf_off (Or.inr (by decide))]; rw [setf_off (Or.inr (by decide))]; rw [setf_same]), (by rw [setf_off (Or.inr (by decide))]; rw [setf_same]), (by rw [setf_same])⟩
  · rintro P1 g x ⟨i, rfl, hi, G1, o1, m1, r1, r2, J2, rA, jA, w0, w1, w2, w3⟩
    unfold bX0_init
    have oa := G1.ob ho
    have ci : (nI i).toNatClampNeg = i := nI_clamp (by omega)
    rw [ci, nI_leI (by omega) (by omega)]
    refine ⟨⟨oa, r1⟩, ⟨o1, m1⟩, fun q => ?_, fun q => ?_⟩
    · have e : i = 6 := by omega
      subst e
      exact ⟨⟨by decide, by decide⟩, hK P1 g G1 ⟨oa, r1, o1, m1, rA, jA, r2, J2⟩ w0 w1 w2 w3⟩
    · refine ⟨⟨oa, r1⟩, ⟨G1.cok (by omega), by omega, by omega⟩, fun Q e g2 d => ?_⟩
      subst e d
      have N := gw_new 2 0 G1 (by omega) (q := a + 1 + (23 + 22 * i)) (by omega)
      refine ⟨⟨N.cok (by omega), by omega, by omega⟩, ?_⟩
      have fin : ∀ Q2 g3, Gr (pNew P1 (a + 1 + (23 + 22 * i)) 2 0) Q2 (va_up g (a + 1 + (23 + 22 * i)) z0) g3 (a + 1 + (23 + 22 * i)) 22 → IsLoaf Q2 (a + 1 + (23 + 22 * i)) → (Ob Q2 (a + 1) 11 ∧ sN Q2 (a + 1) = 6 ∧ vp_in (nI i) 6 ∧ Ob Q2 (a + 1 + (23 + 22 * i)) 2) ∧ ∀ P67 : Sk, P67 = pRef Q2 (a + 1) i (a + 1 + (23 + 22 * i)) → ∀ y : Int32, y = nI i + 1 → (23 + 22 * i + 1 + 21 ≤ 23 + 22 * y.toNatClampNeg ∧ 163 + 157 * i + 3 + 154 ≤ 163 + 157 * y.toNatClampNeg) ∧ (∃ i, y = nI i ∧ i ≤ 6 ∧ IX0_init P f a P67 g3 i) ∧ 6 - y.toNatClampNeg < 6 - i := by
        intro Q2 g3 H J
        have lowS : ∀ x, x < a + 1 + (23 + 22 * i) → Sm P1 Q2 g g3 x := fun x hx => (sm_new P1 g (a + 1 + (23 + 22 * i)) 2 0 (by omega)).tr (H.lo hx)
        refine ⟨⟨ob_sm o1 (lowS _ (by omega)), (lowS _ (by omega)).2.2.1.trans m1, vp_nI (by omega) (by decide), ?_⟩, fun P67 e67 y ey => ?_⟩
        · have := ob_new P1 (a + 1 + (23 + 22 * i)) 2 0
          exact H.ob this
        · obtain ⟨G3, L3, U3, T3, R3⟩ := gr_child G1 (by omega) (by decide) (by omega) H (show a ≤ a + 1 by omega) (by omega) e67
          rw [nI_1] at ey
          have cy : y.toNatClampNeg = i + 1 := by rw [ey]; exact nI_clamp (by omega)
          rw [cy]
          refine ⟨⟨by omega, by omega⟩, ⟨i + 1, ey, by omega, ?_, ⟨T3.1 o1.1, T3.2.1.trans o1.2⟩, T3.2.2.1.trans m1, ?_, ?_, ?_, fun j hj => ?_, fun j hj => ?_, ?_, ?_, ?_, ?_⟩, by omega⟩
          · have e : 24 + 22 * i + 22 = 24 + 22 * (i + 1) := by omega
            rw [← e]
            exact G3
          · exact (congrFun (L3 a (by omega) (by omega)).2.2.2.1 _).trans r1
          · exact (congrFun (L3 a (by omega) (by omega)).2.2.2.1 _).trans r2
          · exact J2.eq (fun x h1 h2 => L3 x (by omega) (by omega))
          · rw [R3]
            by_cases c : j = i
            · rw [if_pos c, c]
              congr 1
              omega
            · rw [if_neg c]
              exact rA j (by omega)
          · by_cases c : j = i
            · rw [c]
              have e : a + 1 + (23 + 22 * i) = a + 24 + 22 * i := by omega
              rw [e] at J
              exact J.eq (fun x h1 h2 => U3 x (by omega))
            · exact (jA j (by omega)).eq (fun x h1 h2 => L3 x (by omega) (by omega))
          · exact (congrFun (L3 a (by omega) (by omega)).2.2.2.2 _).trans w0
          · exact (congrFun (L3 a (by omega) (by omega)).2.2.2.2 _).trans w1
          · exact (congrFun (L3 a (by omega) (by omega)).2.2.2.2 _).trans w2
          · exact (congrFun (L3 a (by omega) (by omega)).2.2.2.2 _).trans w3
      exact uc_X2 (a := a + 1 + (23 + 22 * i)) (ob_new _ _ _ _) (fun Q2 g3 H J => fin Q2 g3 H J)
def bX1_init (P : Sk) (sz : Nat) (a : Nat) (L : Sk → St → Int32 → Prop) (K : Sk → St → Prop) (P1 : Sk) (f : St) (x1 : Int32) : Prop :=
  (Ob P1 a 1 ∧ sR P1 a 0 = some (a + 1)) ∧ ((Ob P1 (a + 1) 12 ∧ sN P1 (a + 1) = 6) ∧ ((nI 6 ≤ x1 → (157 + 156 * x1.toNatClampNeg ≤ 1093 ∧ 1117 + 1111 * x1.toNatClampNeg ≤ 7783) ∧ K P1 f) ∧ (¬ nI 6 ≤ x1 → (Ob P1 a 1 ∧ sR P1 a 0 = some (a + 1)) ∧ ((COk P P1 sz (157 + 156 * x1.toNatClampNeg) ∧ (157 + 156 * x1.toNatClampNeg + 1 ≤ 1093 ∧ 1117 + 1111 * x1.toNatClampNeg + 6 ≤ 7783)) ∧ (∀ P50 : Sk, P50 = pNew P1 (sz + (157 + 156 * x1.toNatClampNeg)) 0 0 → ∀ g50 : St, g50 = va_up f (sz + (157 + 156 * x1.toNatClampNeg)) z0 → (COk P P50 sz (157 + 156 * x1.toNatClampNeg + 1) ∧ (157 + 156 * x1.toNatClampNeg + 1 + 155 ≤ 1093 ∧ 1117 + 1111 * x1.toNatClampNeg + 6 + 1105 ≤ 7783)) ∧ (kX0_init P50 g50 (sz + (157 + 156 * x1.toNatClampNeg + 1)) (sz + (157 + 156 * x1.toNatClampNeg))  (fun P54 g54 => (Ob P54 (a + 1) 12 ∧ sN P54 (a + 1) = 6 ∧ vp_in x1 6 ∧ Ob P54 (sz + (157 + 156 * x1.toNatClampNeg)) 0) ∧ (∀ P57 : Sk, P57 = pRef P54 (a + 1) x1.toNatClampNeg (sz + (157 + 156 * x1.toNatClampNeg)) → ∀ x1_58 : Int32, x1_58 = x1 + 1 → (157 + 156 * x1.toNatClampNeg + 1 + 155 ≤ 157 + 156 * x1_58.toNatClampNeg ∧ 1117 + 1111 * x1.toNatClampNeg + 6 + 1105 ≤ 1117 + 1111 * x1_58.toNatClampNeg) ∧ L P57 g54 x1_58))))))))
def vX1_init (P : Sk) (f : St) (sz : Nat) (a : Nat) (L : Sk → St → Int32 → Prop) (K : Sk → St → Prop) : Prop :=
  (COk P P sz (0) ∧ (0 + 1 ≤ 1093 ∧ 0 + 6 ≤ 7783)) ∧ (∀ P7 : Sk, P7 = pNew P (sz + 0) 12 6 → ∀ g7 : St, g7 = va_up f (sz + 0) z0 → (Ob P7 a 1) ∧ (∀ P10 : Sk, P10 = pRef P7 a 0 (sz + 0) → (COk P P10 sz (1) ∧ (1 + 1 ≤ 1093 ∧ 6 + 6 ≤ 7783)) ∧ (∀ P14 : Sk, P14 = pNew P10 (sz + 1) 0 0 → ∀ g14 : St, g14 = va_up g7 (sz + 1) z0 → (COk P P14 sz (2) ∧ (2 + 155 ≤ 1093 ∧ 12 + 1105 ≤ 7783)) ∧ (kX0_init P14 g14 (sz + 2) (sz + 1)  (fun P18 g18 => (Ob P18 a 1) ∧ (∀ P21 : Sk, P21 = pRef P18 a 1 (sz + 1) → (Ob P21 a 1) ∧ (∀ g26 : St, g26 = setf g18 a 2 0 → (Ob P21 a 1) ∧ (∀ g31 : St, g31 = setf g26 a 3 0 → (157 ≤ 157 + 156 * ((0 : Int32)).toNatClampNeg ∧ 1117 ≤ 1117 + 1111 * ((0 : Int32)).toNatClampNeg) ∧ L P21 g31 0))))))))
abbrev rmC_X1_init : Room := { frames := 5, cells := 1093, slots := 7783, locals := 102 }
set_option maxRecDepth 20000 in
set_option maxHeartbeats 4000000 in
theorem mX1_init (l : Launch) (G : Gl) (P : Sk) (f : St) (sz : Nat) (a : Nat) (K : Sk → St → Prop) (L : Sk → St → Int32 → Prop) (μ : Sk → St → Int32 → Nat) (h : vX1_init P f sz a L K) (hb : ∀ (P1 : Sk) (g : St) (x1 : Int32), L P1 g x1 → bX1_init P sz a (fun P2 g2 z => L P2 g2 z ∧ μ P2 g2 z < μ P1 g x1) K P1 g x1) : Met l yX1_init (wU yX1_init cX1_init 2 none) (rmC_X1_init) (PcC G P f sz [.ref a]) (QcC G P sz K) (1093) (7783) (frA P sz) := by
  refine v_metc (own := RX1) [.ref a] (by decide +kernel) rfl rfl (Nat.le_of_ble_eq_true rfl) (fun p e s m args below meth c hsz o hr hnm hO => ?_)
  refine v_lv (lv2 := [(0, .ref a)]) rfl ?_
  have main : ∀ n : Nat, ∀ (P1 : Sk) (g : St) (x1 : Int32), L P1 g x1 → μ P1 g x1 < n → V p l e (rmC_X1_init) s m args below meth c 2 G (frA P sz) (MQ below (QcC G P sz K) args s (1093) (7783) (frA P sz)) (157 + 156 * x1.toNatClampNeg) (1117 + 1111 * x1.toNatClampNeg) P1 [(0, .ref a), (1, .int x1)] [] 36 g := by
    intro n
    induction n with
    | zero => exact fun P1 g x1 hI hm => absurd hm (Nat.not_lt_zero _)
    | succ n ih =>
      intro P1 g x1 hI hm
      have h := hb P1 g x1 hI
      clear hI
      unfold bX1_init at h
      refine v_iload_n o 1 dX1_init_36 rfl ?_
      refine v_aload_n o 0 dX1_init_37 rfl ?_
      refine v_gfR o lkX1_11 (by decide) h.1.1 h.1.2 dX1_init_38 ?_
      replace h := h.2
      refine v_alen12 o h.1.1 h.1.2 dX1_init_41 ?_
      replace h := h.2
      refine v_icmp_ge o (tgt := 64) dX1_init_42 (by decide) (fun c42 => ?_) (fun c42 => ?_)
      · replace h := h.1 c42
        refine v_widen (k := 1093) (n := 7783) h.1.1 h.1.2 ?_
        exact v_vretC o rfl hr dX1_init_64 h.2
      · replace h := h.2 c42
        refine v_aload_n o 0 dX1_init_45 rfl ?_
        refine v_gfR o lkX1_11 (by decide) h.1.1 h.1.2 dX1_init_46 ?_
        replace h := h.2
        refine v_iload_n o 1 dX1_init_49 rfl ?_
        refine v_new o hsz rfl h.1.1.1 h.1.1.2 lnX1_9 h.1.2 dX1_init_50 ?_
        replace h := h.2
        generalize eP50 : pNew P1 (sz + (157 + 156 * x1.toNatClampNeg)) 0 0 = P50
        replace h := h P50 eP50.symm
        generalize eg50 : va_up g (sz + (157 + 156 * x1.toNatClampNeg)) z0 = g50
        replace h := h g50 eg50.symm
        refine v_eqc (c2 := 157 + 156 * x1.toNatClampNeg + 1) (s2 := 1117 + 1111 * x1.toNatClampNeg + 6) (by first | rfl | omega) (by first | rfl | omega) ?_
        refine v_dup o dX1_init_53 rfl ?_
        have hq := h.1
        replace h := h.2
        refine v_cI o hsz rfl hq.1.1 hq.1.2 hO [] [.ref (sz + (157 + 156 * x1.toNatClampNeg)), .int x1, .ref (a + 1)] (metX0_init l G P50 g50 (sz + (157 + 156 * x1.toNatClampNeg + 1)) (sz + (157 + 156 * x1.toNatClampNeg))  _ h) (cwI 0 o.1.2.2.2.2 (gUc (mU 78 (by decide +kernel) rfl)) rfl rfl rfl (o.1.2.2.2.2 _ (mU 29 (by decide +kernel) rfl)) (o.1.2.2.2.2 _ (mU 175 (by decide +kernel) rfl)) (o.1.2.2.2.2 _ (mU 77 (by decide +kernel) rfl)) rfl ⟨by decide +kernel, by decide +kernel, by decide +kernel⟩ ⟨Nat.le_of_ble_eq_true rfl, Nat.le_of_ble_eq_true rfl⟩) rfl (Nat.le_of_ble_eq_true rfl) hq.2 dX1_init_54 rfl (fun P54 g54 h => ?_)
        refine v_eqc (c2 := 157 + 156 * x1.toNatClampNeg + 1 + 155) (s2 := 1117 + 1111 * x1.toNatClampNeg + 6 + 1105) (by first | rfl | omega) (by first | rfl | omega | decide) ?_
        refine v_aast12 o h.1.1 h.1.2.1 h.1.2.2.1 (ci := 0) ⟨_, rfl, rfl⟩ (by decide) h.1.2.2.2 dX1_init_57 ?_
        replace h := h.2
        generalize eP57 : pRef P54 (a + 1) x1.toNatClampNeg (sz + (157 + 156 * x1.toNatClampNeg)) = P57
        replace h := h P57 eP57.symm
        obtain ⟨x1_58, ex1_58⟩ : ∃ y : Int32, y = x1 + 1 := ⟨_, rfl⟩
        replace h := h x1_58 ex1_58
        refine v_iinc o (v := x1_58) (lv' := [(1, .int x1_58), (0, .ref a)]) 1 dX1_init_58 rfl (by rw [ex1_58]; rfl) (by decide) rfl ?_
        refine v_goto o (tgt := 36) dX1_init_61 (by decide) ?_
        refine v_sub [1, 0] (lv2 := [(0, .ref a), (1, .int x1_58)]) rfl ?_
        refine v_widen h.1.1 h.1.2 ?_
        exact ih P57 g54 x1_58 h.2.1 (by have := h.2.2; omega)
  unfold vX1_init at h
  refine v_aload_n o 0 dX1_init_0 rfl ?_
  refine v_obj o (mU 172 (by decide +kernel) rfl) (mU 48 (by decide +kernel) rfl) (mU 49 (by decide +kernel) rfl) ⟨Nat.le_of_ble_eq_true rfl, Nat.le_of_ble_eq_true rfl⟩ dX1_init_1 ?_
  refine v_aload_n o 0 dX1_init_4 rfl ?_
  refine v_bipush o (v := 6) dX1_init_5 (by decide) ?_
  refine v_anew12 o hsz rfl h.1.1.1 h.1.1.2 (mU 173 (by decide +kernel) rfl) hO.2.1 (by decide) (N := 6) (by decide) (by decide) h.1.2 dX1_init_7 ?_
  replace h := h.2
  generalize eP7 : pNew P (sz + 0) 12 6 = P7
  replace h := h P7 eP7.symm
  generalize eg7 : va_up f (sz + 0) z0 = g7
  replace h := h g7 eg7.symm
  refine v_eqc (c2 := 1) (s2 := 6) (by first | rfl | omega) (by first | rfl | omega) ?_
  refine v_pfR o lgX1_11 hnm h.1 dX1_init_10 ?_
  replace h := h.2
  generalize eP10 : pRef P7 a 0 (sz + 0) = P10
  replace h := h P10 eP10.symm
  refine v_aload_n o 0 dX1_init_13 rfl ?_
  refine v_new o hsz rfl h.1.1.1 h.1.1.2 lnX1_9 h.1.2 dX1_init_14 ?_
  replace h := h.2
  generalize eP14 : pNew P10 (sz + 1) 0 0 = P14
  replace h := h P14 eP14.symm
  generalize eg14 : va_up g7 (sz + 1) z0 = g14
  replace h := h g14 eg14.symm
  refine v_eqc (c2 := 2) (s2 := 12) (by first | rfl | omega) (by first | rfl | omega) ?_
  refine v_dup o dX1_init_17 rfl ?_
  have hq := h.1
  replace h := h.2
  refine v_cI o hsz rfl hq.1.1 hq.1.2 hO [] [.ref (sz + 1), .ref a] (metX0_init l G P14 g14 (sz + 2) (sz + 1)  _ h) (cwI 0 o.1.2.2.2.2 (gUc (mU 78 (by decide +kernel) rfl)) rfl rfl rfl (o.1.2.2.2.2 _ (mU 29 (by decide +kernel) rfl)) (o.1.2.2.2.2 _ (mU 175 (by decide +kernel) rfl)) (o.1.2.2.2.2 _ (mU 77 (by decide +kernel) rfl)) rfl ⟨by decide +kernel, by decide +kernel, by decide +kernel⟩ ⟨Nat.le_of_ble_eq_true rfl, Nat.le_of_ble_eq_true rfl⟩) rfl (Nat.le_of_ble_eq_true rfl) hq.2 dX1_init_18 rfl (fun P18 g18 h => ?_)
  refine v_eqc (c2 := 157) (s2 := 1117) (by first | rfl | omega) (by first | rfl | omega | decide) ?_
  refine v_pfR o lgX1_18 hnm h.1 dX1_init_21 ?_
  replace h := h.2
  generalize eP21 : pRef P18 a 1 (sz + 1) = P21
  replace h := h P21 eP21.symm
  refine v_aload_n o 0 dX1_init_24 rfl ?_
  refine v_iconst o (v := 0) dX1_init_25 (by decide) ?_
  refine v_pf o lpX1_22 h.1 ⟨rfl, rfl⟩ dX1_init_26 ?_
  replace h := h.2
  generalize eg26 : setf g18 a 2 0 = g26
  replace h := h g26 eg26.symm
  refine v_aload_n o 0 dX1_init_29 rfl ?_
  refine v_iconst o (v := 0) dX1_init_30 (by decide) ?_
  refine v_pf o lpX1_26 h.1 ⟨rfl, rfl⟩ dX1_init_31 ?_
  replace h := h.2
  generalize eg31 : setf g26 a 3 0 = g31
  replace h := h g31 eg31.symm
  refine v_iconst o (v := 0) dX1_init_34 (by decide) ?_
  refine v_istore_n o (lv' := [(1, .int 0), (0, .ref a)]) dX1_init_35 rfl (by decide) rfl ?_
  refine v_sub [1, 0] (lv2 := [(0, .ref a), (1, .int 0)]) rfl ?_
  refine v_widen h.1.1 h.1.2 ?_
  exact main (μ P21 g31 0 + 1) P21 g31 0 h.2 (Nat.lt_succ_self _)
def kX1_init (P : Sk) (f : St) (sz : Nat) (a : Nat) (K : Sk → St → Prop) : Prop := sz = a + 1 ∧ Ob P a 1 ∧ ∀ P2 f2, Gr P P2 f f2 a 1094 → IsHist P2 a → f2 a 2 = 0 → f2 a 3 = 0 → K P2 f2
def IX1_init (P : Sk) (f : St) (a : Nat) (P1 : Sk) (g : St) (i : Nat) : Prop := Gr P P1 f g a (158 + 156 * i) ∧ Ob P1 (a + 1) 12 ∧ sN P1 (a + 1) = 6 ∧ sR P1 a 0 = some (a + 1) ∧ sR P1 a 1 = some (a + 2) ∧ IsBoard P1 (a + 2) ∧ (∀ j, j < i → sR P1 (a + 1) j = some (a + 158 + 156 * j)) ∧ (∀ j, j < i → IsBoard P1 (a + 158 + 156 * j)) ∧ g a 2 = 0 ∧ g a 3 = 0
theorem metX1_init (l : Launch) (G : Gl) (P : Sk) (f : St) (sz : Nat) (a : Nat) (K : Sk → St → Prop) (h : kX1_init P f sz a K) : Met l yX1_init (wU yX1_init cX1_init 2 none) (rmC_X1_init) (PcC G P f sz [.ref a]) (QcC G P sz K) (1093) (7783) (frA P sz) := by
  obtain ⟨rfl, ho, hK⟩ := h
  refine mX1_init l G P f (a + 1) a K (fun P1 g x => ∃ i, x = nI i ∧ i ≤ 6 ∧ IX1_init P f a P1 g i) (fun P1 g x => 6 - x.toNatClampNeg) ?_ ?_
  · unfold vX1_init
    have G0 := Gr.refl P f a
    refine ⟨⟨G0.cok (by decide), by decide, by decide⟩, fun Q e g1 d1 => ?_⟩
    subst e
    have N1 := gw_new 12 6 G0 (by decide) (q := a + 1 + 0) (by omega)
    rw [← d1] at N1
    refine ⟨N1.ob ho, fun Q1 e1 => ?_⟩
    have H1 := Gr.refl (pNew P (a + 1 + 0) 12 6) (va_up f (a + 1 + 0) z0) (a + 1 + 0)
    obtain ⟨G1, L1, U1, T1, R1⟩ := gr_child G0 (by decide) (by decide) (by omega) H1 (Nat.le_refl a) (by omega) e1
    rw [← d1] at G1 L1 U1 T1
    have o1 : Ob Q1 (a + 1) 12 := ob_sm (ob_new _ (a + 1 + 0) 12 6) (U1 _ (by omega))
    have m1 : sN Q1 (a + 1) = 6 := (U1 _ (by omega)).2.2.1.trans (by simp [pNew, va_up, sN])
    have r1 : sR Q1 a 0 = some (a + 1) := by rw [R1, if_pos rfl]
    refine ⟨⟨G1.cok (by decide), by decide, by decide⟩, fun Q e g d => ?_⟩
    subst e d
    have N2 := gw_new 0 0 G1 (by decide) (q := a + 1 + 1) (by omega)
    refine ⟨⟨N2.cok (by decide), by decide, by decide⟩, ?_⟩
    refine ⟨rfl, ob_new _ _ _ _, fun Q2 g2 H2 I2 p2_0 p2_1 p2_2 p2_3 => ?_⟩
    have S2 := gr_sub N2 H2 (by omega) (by decide) (by decide)
    refine ⟨S2.ob ho, fun Q2 e2 => ?_⟩
    obtain ⟨G2, L2, U2, T2, R2⟩ := gr_child G1 (by decide) (by decide) (by omega) H2 (Nat.le_refl a) (by omega) e2
    replace o1 : Ob Q2 (a + 1) 12 := ob_sm o1 (L2 (a + 1) (by omega) (by omega))
    replace m1 : sN Q2 (a + 1) = 6 := (L2 (a + 1) (by omega) (by omega)).2.2.1.trans m1
    replace r1 : sR Q2 a 0 = some (a + 1) := by rw [R2, if_neg (by decide)]; exact r1
    have J2 : IsBoard Q2 (a + 2) := I2.eq (fun x h1 h2 => U2 x (by omega))
    have r2 : sR Q2 a 1 = some (a + 2) := by rw [R2, if_pos rfl]
    refine ⟨G2.ob ho, fun s0 d0' => ?_⟩
    refine ⟨G2.ob ho, fun s1 d1' => ?_⟩
    subst d0' d1'
    exact ⟨⟨by decide, by decide⟩, 0, rfl, by decide, ((G2).set (Nat.le_refl a)).set (Nat.le_refl a), o1, m1, r1, r2, J2, fun j hj => absurd hj (Nat.not_lt_zero _), fun j hj => absurd hj (Nat.not_lt_zero _), (by rw [setf_off (Or.inr (by decide))]; rw [setf_same]), (by rw [setf_same])⟩
  · rintro P1 g x ⟨i, rfl, hi, G1, o1, m1, r1, r2, J2, rA, jA, w0, w1⟩
    unfold bX1_init
    have oa := G1.ob ho
    have ci : (nI i).toNatClampNeg = i := nI_clamp (by omega)
    rw [ci, nI_leI (by omega) (by omega)]
    refine ⟨⟨oa, r1⟩, ⟨o1, m1⟩, fun q => ?_, fun q => ?_⟩
    · have e : i = 6 := by omega
      subst e
      exact ⟨⟨by decide, by decide⟩, hK P1 g G1 ⟨oa, r1, o1, m1, rA, jA, r2, J2⟩ w0 w1⟩
    · refine ⟨⟨oa, r1⟩, ⟨G1.cok (by omega), by omega, by omega⟩, fun Q e g2 d => ?_⟩
      subst e d
      have N := gw_new 0 0 G1 (by omega) (q := a + 1 + (157 + 156 * i)) (by omega)
      refine ⟨⟨N.cok (by omega), by omega, by omega⟩, ?_⟩
      have fin : ∀ Q2 g3, Gr (pNew P1 (a + 1 + (157 + 156 * i)) 0 0) Q2 (va_up g (a + 1 + (157 + 156 * i)) z0) g3 (a + 1 + (157 + 156 * i)) 156 → IsBoard Q2 (a + 1 + (157 + 156 * i)) → (Ob Q2 (a + 1) 12 ∧ sN Q2 (a + 1) = 6 ∧ vp_in (nI i) 6 ∧ Ob Q2 (a + 1 + (157 + 156 * i)) 0) ∧ ∀ P67 : Sk, P67 = pRef Q2 (a + 1) i (a + 1 + (157 + 156 * i)) → ∀ y : Int32, y = nI i + 1 → (157 + 156 * i + 1 + 155 ≤ 157 + 156 * y.toNatClampNeg ∧ 1117 + 1111 * i + 6 + 1105 ≤ 1117 + 1111 * y.toNatClampNeg) ∧ (∃ i, y = nI i ∧ i ≤ 6 ∧ IX1_init P f a P67 g3 i) ∧ 6 - y.toNatClampNeg < 6 - i := by
        intro Q2 g3 H J
        have lowS : ∀ x, x < a + 1 + (157 + 156 * i) → Sm P1 Q2 g g3 x := fun x hx => (sm_new P1 g (a + 1 + (157 + 156 * i)) 0 0 (by omega)).tr (H.lo hx)
        refine ⟨⟨ob_sm o1 (lowS _ (by omega)), (lowS _ (by omega)).2.2.1.trans m1, vp_nI (by omega) (by decide), ?_⟩, fun P67 e67 y ey => ?_⟩
        · have := ob_new P1 (a + 1 + (157 + 156 * i)) 0 0
          exact H.ob this
        · obtain ⟨G3, L3, U3, T3, R3⟩ := gr_child G1 (by omega) (by decide) (by omega) H (show a ≤ a + 1 by omega) (by omega) e67
          rw [nI_1] at ey
          have cy : y.toNatClampNeg = i + 1 := by rw [ey]; exact nI_clamp (by omega)
          rw [cy]
          refine ⟨⟨by omega, by omega⟩, ⟨i + 1, ey, by omega, ?_, ⟨T3.1 o1.1, T3.2.1.trans o1.2⟩, T3.2.2.1.trans m1, ?_, ?_, ?_, fun j hj => ?_, fun j hj => ?_, ?_, ?_⟩, by omega⟩
          · have e : 158 + 156 * i + 156 = 158 + 156 * (i + 1) := by omega
            rw [← e]
            exact G3
          · exact (congrFun (L3 a (by omega) (by omega)).2.2.2.1 _).trans r1
          · exact (congrFun (L3 a (by omega) (by omega)).2.2.2.1 _).trans r2
          · exact J2.eq (fun x h1 h2 => L3 x (by omega) (by omega))
          · rw [R3]
            by_cases c : j = i
            · rw [if_pos c, c]
              congr 1
              omega
            · rw [if_neg c]
              exact rA j (by omega)
          · by_cases c : j = i
            · rw [c]
              have e : a + 1 + (157 + 156 * i) = a + 158 + 156 * i := by omega
              rw [e] at J
              exact J.eq (fun x h1 h2 => U3 x (by omega))
            · exact (jA j (by omega)).eq (fun x h1 h2 => L3 x (by omega) (by omega))
          · exact (congrFun (L3 a (by omega) (by omega)).2.2.2.2 _).trans w0
          · exact (congrFun (L3 a (by omega) (by omega)).2.2.2.2 _).trans w1
      exact ⟨rfl, ob_new _ _ _ _, fun Q2 g3 H J _ _ _ _ => fin Q2 g3 H J⟩
