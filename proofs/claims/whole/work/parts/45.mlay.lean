def jX8_lay_36 (P : Sk) (a : Nat) (K : Int32 → St → Prop) (f : St) : Prop :=
  kX8_fails P f a 2 (fun r38 g38 => K r38 g38)
def vX8_lay (P : Sk) (f : St) (a : Nat) (K : Int32 → St → Prop) : Prop :=
  ∀ g2 : St, g2 = setf f a 0 0 → kX8_readsLoaf P g2 a (fun r6 g6 => (¬ r6 = 0 → vp_in 0 160 ∧ ((g6 (a + 1) ((0 : Int32)).toNatClampNeg = 6 → jX8_lay_36 P a K  g6) ∧ (¬ g6 (a + 1) ((0 : Int32)).toNatClampNeg = 6 → kX8_why P g6 a (fun r30 g30 => (r30 = 0 → kX8_records P g30 a (fun g43 => vp_in 0 160 ∧ (kX8_puts P g43 a (g43 (a + 1) ((0 : Int32)).toNatClampNeg) (fun g53 => vp_in 0 160 ∧ (vp_in 0 160 ∧ (∀ g65 : St, g65 = setf g53 (a + 1) ((0 : Int32)).toNatClampNeg ((g53 (a + 1) ((0 : Int32)).toNatClampNeg) + 1) → ∀ g68 : St, g68 = setf g65 a 7 0 → vp_in 0 160 ∧ (K ((g68 (a + 1) ((0 : Int32)).toNatClampNeg) - 1) g68))))))) ∧ (¬ r30 = 0 → jX8_lay_36 P a K  g30))))) ∧ (r6 = 0 → kX8_fails P g6 a 1 (fun r14 g14 => K r14 g14)))
set_option maxRecDepth 20000 in
set_option maxHeartbeats 4000000 in
theorem mX8_lay (l : Launch) (G : Gl) (P : Sk) (f : St) (sz : Nat) (a : Nat) (ha : IsModel P a) (K : Int32 → St → Prop) (h : vX8_lay P f a K)  :
  Met l yX8_lay (wU yX8_lay cX8_lay 1 (some .int)) rmX8_lay (PcW G P f sz [.ref a]) (QcI G P sz K) 0 0 (frA P sz) := by
  refine v_met (own := RX8) [.ref a] (by decide +kernel) rfl (Nat.le_of_ble_eq_true rfl) (fun p e s m args below meth c hsz o hr hnm => ?_)
  refine v_lv (lv2 := [(0, .ref a)]) rfl ?_
  have J36 : ∀ (g36 : St), jX8_lay_36 P a K  g36 → V p l e rmX8_lay s m args below meth c 1 G (frA P sz) (MQ below (QcI G P sz K) args s 0 0 (frA P sz)) 0 0 P [(0, .ref a)] [] 36 g36 := by
    intro  g36  h
    unfold jX8_lay_36 at h
    refine v_aload_n o 0 dX8_lay_36 rfl ?_
    refine v_iconst o (v := 2) dX8_lay_37 (by decide) ?_
    refine v_cVi o [.int 2] [] (fun sz => metX8_fails l G P g36 sz a ha 2 _ h) (cwX8_123 o.1.2.2.2.2 (by decide)) ⟨_, _, rfl⟩ (by decide) (wfModel_o ha) rfl (Nat.le_of_ble_eq_true rfl) ⟨Nat.le_of_ble_eq_true rfl, Nat.le_of_ble_eq_true rfl⟩ dX8_lay_38 rfl (fun r38 g38 h => ?_)
    exact v_iret o rfl hr dX8_lay_41 h
  unfold vX8_lay at h
  refine v_aload_n o 0 dX8_lay_0 rfl ?_
  refine v_iconst o (v := 0) dX8_lay_1 (by decide) ?_
  refine v_pf o lpX8_40 (wfModel_o ha) ⟨rfl, rfl⟩ dX8_lay_2 ?_
  refine v_nmf (fun g2 eg2 => ?_)
  replace h := h g2 eg2
  refine v_aload_n o 0 dX8_lay_5 rfl ?_
  refine v_cVi o [] [] (fun sz => metX8_readsLoaf l G P g2 sz a ha _ h) (cwX8_119 o.1.2.2.2.2 (by decide)) ⟨_, _, rfl⟩ (by decide) (wfModel_o ha) rfl (Nat.le_of_ble_eq_true rfl) ⟨Nat.le_of_ble_eq_true rfl, Nat.le_of_ble_eq_true rfl⟩ dX8_lay_6 rfl (fun r6 g6 h => ?_)
  refine v_if_ne o (tgt := 18) dX8_lay_9 (by decide) (fun c9 => ?_) (fun c9 => ?_)
  · replace h := h.1 c9
    refine v_aload_n o 0 dX8_lay_18 rfl ?_
    refine v_gfR o lkX8_7 (by decide) (wfModel_o ha) (wfModel_r1 ha) dX8_lay_19 ?_
    refine v_iconst o (v := 0) dX8_lay_22 (by decide) ?_
    refine v_iald o (wfModel_t1 ha) (wfModel_n1 ha) h.1 dX8_lay_23 ?_
    replace h := h.2
    refine v_bipush o (v := 6) dX8_lay_24 (by decide) ?_
    refine v_icmp_eq o (tgt := 36) dX8_lay_26 (by decide) (fun c26 => ?_) (fun c26 => ?_)
    · replace h := h.1 c26
      refine v_sub [0] (lv2 := [(0, .ref a)]) rfl ?_
      exact J36  g6  h
    · replace h := h.2 c26
      refine v_aload_n o 0 dX8_lay_29 rfl ?_
      refine v_cVi o [] [] (fun sz => metX8_why l G P g6 sz a ha _ h) (cwX8_110 o.1.2.2.2.2 (by decide)) ⟨_, _, rfl⟩ (by decide) (wfModel_o ha) rfl (Nat.le_of_ble_eq_true rfl) ⟨Nat.le_of_ble_eq_true rfl, Nat.le_of_ble_eq_true rfl⟩ dX8_lay_30 rfl (fun r30 g30 h => ?_)
      refine v_if_eq o (tgt := 42) dX8_lay_33 (by decide) (fun c33 => ?_) (fun c33 => ?_)
      · replace h := h.1 c33
        refine v_aload_n o 0 dX8_lay_42 rfl ?_
        refine v_cVv o [] [] (fun sz => metX8_records l G P g30 sz a ha _ h) (cwX8_127 o.1.2.2.2.2 (by decide)) ⟨_, _, rfl⟩ (by decide) (wfModel_o ha) rfl (Nat.le_of_ble_eq_true rfl) ⟨Nat.le_of_ble_eq_true rfl, Nat.le_of_ble_eq_true rfl⟩ dX8_lay_43 rfl (fun g43 h => ?_)
        refine v_aload_n o 0 dX8_lay_46 rfl ?_
        refine v_aload_n o 0 dX8_lay_47 rfl ?_
        refine v_gfR o lkX8_7 (by decide) (wfModel_o ha) (wfModel_r1 ha) dX8_lay_48 ?_
        refine v_iconst o (v := 0) dX8_lay_51 (by decide) ?_
        refine v_iald o (wfModel_t1 ha) (wfModel_n1 ha) h.1 dX8_lay_52 ?_
        replace h := h.2
        refine v_cVv o [.int (g43 (a + 1) ((0 : Int32)).toNatClampNeg)] [] (fun sz => metX8_puts l G P g43 sz a ha (g43 (a + 1) ((0 : Int32)).toNatClampNeg) _ h) (cwX8_130 o.1.2.2.2.2 (by decide)) ⟨_, _, rfl⟩ (by decide) (wfModel_o ha) rfl (Nat.le_of_ble_eq_true rfl) ⟨Nat.le_of_ble_eq_true rfl, Nat.le_of_ble_eq_true rfl⟩ dX8_lay_53 rfl (fun g53 h => ?_)
        refine v_aload_n o 0 dX8_lay_56 rfl ?_
        refine v_gfR o lkX8_7 (by decide) (wfModel_o ha) (wfModel_r1 ha) dX8_lay_57 ?_
        refine v_iconst o (v := 0) dX8_lay_60 (by decide) ?_
        refine v_dup2 o dX8_lay_61 rfl rfl ?_
        refine v_iald o (wfModel_t1 ha) (wfModel_n1 ha) h.1 dX8_lay_62 ?_
        replace h := h.2
        refine v_iconst o (v := 1) dX8_lay_63 (by decide) ?_
        refine v_iadd o dX8_lay_64 ?_
        refine v_iast o (wfModel_t1 ha) (wfModel_n1 ha) h.1 dX8_lay_65 ?_
        replace h := h.2
        refine v_nmf (fun g65 eg65 => ?_)
        replace h := h g65 eg65
        refine v_aload_n o 0 dX8_lay_66 rfl ?_
        refine v_iconst o (v := 0) dX8_lay_67 (by decide) ?_
        refine v_pf o lpX8_133 (wfModel_o ha) ⟨rfl, rfl⟩ dX8_lay_68 ?_
        refine v_nmf (fun g68 eg68 => ?_)
        replace h := h g68 eg68
        refine v_aload_n o 0 dX8_lay_71 rfl ?_
        refine v_gfR o lkX8_7 (by decide) (wfModel_o ha) (wfModel_r1 ha) dX8_lay_72 ?_
        refine v_iconst o (v := 0) dX8_lay_75 (by decide) ?_
        refine v_iald o (wfModel_t1 ha) (wfModel_n1 ha) h.1 dX8_lay_76 ?_
        replace h := h.2
        refine v_iconst o (v := 1) dX8_lay_77 (by decide) ?_
        refine v_isub o dX8_lay_78 ?_
        exact v_iret o rfl hr dX8_lay_79 h
      · replace h := h.2 c33
        refine v_sub [0] (lv2 := [(0, .ref a)]) rfl ?_
        exact J36  g30  h
  · replace h := h.2 c9
    refine v_aload_n o 0 dX8_lay_12 rfl ?_
    refine v_iconst o (v := 1) dX8_lay_13 (by decide) ?_
    refine v_cVi o [.int 1] [] (fun sz => metX8_fails l G P g6 sz a ha 1 _ h) (cwX8_123 o.1.2.2.2.2 (by decide)) ⟨_, _, rfl⟩ (by decide) (wfModel_o ha) rfl (Nat.le_of_ble_eq_true rfl) ⟨Nat.le_of_ble_eq_true rfl, Nat.le_of_ble_eq_true rfl⟩ dX8_lay_14 rfl (fun r14 g14 h => ?_)
    exact v_iret o rfl hr dX8_lay_17 h
abbrev kX8_lay := @vX8_lay
abbrev metX8_lay := @mX8_lay
theorem st_app {f g : St} {a : Nat} {bd : Bd} {y : Lf} {v : Int32} (h : StM f (a + 1) 0 bd) (hb : Bok bd) (hv : v = nI (bd.1.length + 1)) (r : RwF f g (a + 1) (4 + 26 * bd.1.length) (4 + 26 * bd.1.length + 26)) (hL : LfM g (a + 1) (4 + 26 * bd.1.length) y) (h24 : y.2.length ≤ 24) : StM (setf g (a + 1) 0 v) (a + 1) 0 (bd.1 ++ [y], bd.2) := by
  have o : ∀ j, j ≠ 0 → setf g (a + 1) 0 v (a + 1) j = g (a + 1) j := fun j hj => setf_off (Or.inr hj)
  refine ⟨?_, ((o 1 (by decide)).trans (r 1 (by omega))).trans h.2.1, ((o 2 (by decide)).trans (r 2 (by omega))).trans h.2.2.1, ((o 3 (by decide)).trans (r 3 (by omega))).trans h.2.2.2.1, fun i hi => ?_⟩
  · show setf g (a + 1) 0 v (a + 1) 0 = nI (bd.1 ++ [y]).length
    rw [setf_same, hv, List.length_append]
    rfl
  · have hi2 : i < bd.1.length + 1 := by
      have e : (bd.1 ++ [y]).length = bd.1.length + 1 := by
        rw [List.length_append]
        rfl
      rw [← e]
      exact hi
    show LfM _ (a + 1) (0 + 4 + 26 * i) (lfAt (bd.1 ++ [y]) i)
    rw [Nat.zero_add]
    by_cases c : i = bd.1.length
    · rw [c, lf_app2]
      exact hL.far h24 (fun j h1 h2 => o j (by omega))
    · rw [lf_app1 _ _ (by omega)]
      exact (h.lf (by omega)).far (hb.at (by omega)).1.2.2.1 (fun j h1 h2 => (o j (by omega)).trans (r j (by omega)))
theorem u8_lay {P : Sk} {f : St} {a : Nat} {A : Ab} {K : Int32 → St → Prop} (hM : MIs f a A) (hF : FinM f a (opLay A) K) : kX8_lay P f a K := by
  show vX8_lay P f a K
  unfold vX8_lay jX8_lay_36
  intro g2 e2
  obtain ⟨M2, z2, r2⟩ := mi_start hM e2
  have hb := M2.bok
  have h6 := hb.1
  have in0 : vp_in 0 160 := vp_nI (i := 0) (by decide) (by decide)
  unfold opLay at hF
  refine ⟨A.2.2.2, M2.txm, M2.tok, fun g s hl mw n10 _ => ?_, fun g e s hnl _ _ => ?_⟩
  · refine ⟨fun _ => ?_, fun q => absurd q (by decide)⟩
    rw [cif_pos hl] at hF
    have M := M2.scr s
    have z : g a 0 = 0 := by rw [s.2 0 (by omega)]; exact z2
    have r0 : An f g a := MF.trans r2 s.an
    have ho := hl.wok.1
    have h24 := ho.2.2.1
    rw [tn0, show g (a + 1) 0 = nI A.1.1.length from M.1.1, show (6 : Int32) = nI 6 from rfl, nI_eq (by omega) (by omega)]
    refine ⟨in0, fun q => ?_, fun q => ?_⟩
    · rw [cif_neg (by omega)] at hF
      exact u8_fails (hF.no M r0)
    · rw [cif_pos (by omega)] at hF
      refine ⟨A.2.2.2.getD 0 0 - 48, wdT A.2.2.2, mw, by omega, n10, fun q2 => absurd h24 (by omega), fun _ => ⟨ho, fun g1 r1 _ _ => ?_⟩⟩
      have s1 : Scr g g1 a := r1.mono (fun i h => by omega) (fun j h => by omega)
      have M1 := M.scr s1
      have z1 : g1 a 0 = 0 := by rw [s1.2 0 (by omega)]; exact z
      have r01 : An f g1 a := MF.trans r0 s1.an
      by_cases hd : Dok (A.2.2.2.getD 0 0 - 48) (wdT A.2.2.2)
      · rw [cif_pos hd] at hF
        have e0 : (rsS (A.2.2.2.getD 0 0 - 48, wdT A.2.2.2)).1 = 0 := cif_pos hd
        rw [e0]
        refine ⟨fun _ => ?_, fun q => absurd rfl q⟩
        refine ⟨A.2.1, A.1, M1.2.1, M1.hok, M1.1, hb, fun g3 r3 H3 => ?_⟩
        have S3 := M1.1.row (r3.1 (a + 1) (by omega) (fun i hi => by omega))
        refine ⟨in0, ?_⟩
        rw [show g3 (a + 1) 0 = nI A.1.1.length from S3.1]
        refine ⟨A.1.1.length, A.2.2.2.getD 0 0 - 48, wdT A.2.2.2, rfl, by omega, (mw.keep r1 (fun i hi => by omega) (by omega)).keep r3 (fun i hi => by omega) (by omega), h24, ?_, fun g4 r4 w4 L4 => ?_⟩
        · rw [r3.2 10 (by omega), r1.2 10 (by omega)]
          exact n10
        · refine ⟨in0, in0, fun g5 e5 g6 e6 => ⟨in0, ?_⟩⟩
          have e40 : g4 (a + 1) 0 = nI A.1.1.length := (w4 0 (by omega)).trans S3.1
          rw [e40, nI_1] at e5
          have S5 : StM g5 (a + 1) 0 (A.1.1 ++ [(A.2.2.2.getD 0 0 - 48, wdT A.2.2.2)], A.1.2) := by
            rw [e5]
            exact st_app S3 hb rfl w4 L4 h24
          have r45 : MF g3 g5 a (fun i => i = 1) (fun _ => False) := by
            rw [e5]
            exact r4.trans (mf_arr g4 rfl (by decide))
          have hb5 : Bok (A.1.1 ++ [(A.2.2.2.getD 0 0 - 48, wdT A.2.2.2)], A.1.2) := by
            refine ⟨?_, fun x hx => ?_⟩
            · show (A.1.1 ++ [(A.2.2.2.getD 0 0 - 48, wdT A.2.2.2)]).length ≤ 6
              rw [List.length_append]
              show A.1.1.length + 1 ≤ 6
              omega
            · rcases List.mem_append.mp hx with q3 | q3
              · exact hb.2 x q3
              · rw [List.mem_singleton.mp q3]
                exact ⟨ho, hd⟩
          have r35 : MF g1 g5 a (fun i => i = 1 ∨ i = 2) (fun j => j = 3) := (r3.mono (fun i hi => Or.inr hi) (fun _ hj => hj)).trans (r45.mono (fun i hi => Or.inl hi) (fun _ hj => absurd hj id))
          have M5 := mi_mk M1 (r35.mono (fun i hi => by omega) (fun j hj => by omega)) S5 hb5 (H3.row (r45.1 (a + 2) (by omega) (fun i hi => by omega)) (r45.2 3 id)) (M1.hok.sv hb)
          obtain ⟨M6, r6⟩ := M5.clr e6
          have e60 : g6 (a + 1) 0 - 1 = nI A.1.1.length := by
            rw [r6.1 (a + 1) (by omega) (fun i hi => absurd hi id), e5, setf_same]
            exact nI_m1 _
          rw [e60]
          refine hF.ok M6 ?_ (MF.trans r01 (MF.trans (r35.an (fun i hi => by omega)) (r6.an (fun i hi => absurd hi id))))
          rw [r6.2 0 (by omega), r35.2 0 (by omega)]
          exact z1
      · rw [cif_neg hd] at hF
        have e0 : (rsS (A.2.2.2.getD 0 0 - 48, wdT A.2.2.2)).1 = 2 := cif_neg hd
        rw [e0]
        refine ⟨fun q => absurd q (by decide), fun _ => ?_⟩
        exact u8_fails (hF.no M1 r01)
  · refine ⟨fun q => absurd rfl q, fun _ => ?_⟩
    rw [cif_neg hnl] at hF
    exact u8_fails (hF.no (M2.scr s) (MF.trans r2 s.an))

def bX8_bake_42 (P : Sk) (a : Nat) (p1 : Int32) (L42 : St → Int32 → Int32 → Prop) (L72 : St → Int32 → Int32 → Prop) (K : Int32 → St → Prop) (f : St) (x2 : Int32) (x3 : Int32) : Prop :=
  vp_in 0 160 ∧ ((f (a + 1) ((0 : Int32)).toNatClampNeg ≤ x3 → L72 f x2 0) ∧ (¬ f (a + 1) ((0 : Int32)).toNatClampNeg ≤ x3 → kX8_takes P f a (x3 + 1) (fun g56 => kX8_puts P g56 a x3 (fun g61 => ∀ x3_64 : Int32, x3_64 = x3 + 1 → L42 g61 x2 x3_64))))
def bX8_bake_72 (P : Sk) (a : Nat) (p1 : Int32) (L42 : St → Int32 → Int32 → Prop) (L72 : St → Int32 → Int32 → Prop) (K : Int32 → St → Prop) (f : St) (x2 : Int32) (x3 : Int32) : Prop :=
  (26 ≤ x3 → K x2 f) ∧ (¬ 26 ≤ x3 → vp_in 0 160 ∧ (kX8_store P f a (f (a + 1) ((0 : Int32)).toNatClampNeg) x3 0 (fun g87 => ∀ x3_90 : Int32, x3_90 = x3 + 1 → L72 g87 x2 x3_90)))
def vX8_bake (P : Sk) (f : St) (a : Nat) (p1 : Int32) (L42 : St → Int32 → Int32 → Prop) (L72 : St → Int32 → Int32 → Prop) (K : Int32 → St → Prop) : Prop :=
  ∀ g2 : St, g2 = setf f a 0 0 → kX8_isLoaf P g2 a p1 (fun r7 g7 => (¬ r7 = 0 → kX8_records P g7 a (fun g20 => kX8_of P g20 a p1 1 (fun r26 g26 => vp_in 0 160 ∧ (vp_in 0 160 ∧ (∀ g39 : St, g39 = setf g26 (a + 1) ((0 : Int32)).toNatClampNeg ((g26 (a + 1) ((0 : Int32)).toNatClampNeg) - 1) → L42 g39 r26 p1))))) ∧ (r7 = 0 → kX8_fails P g7 a 1 (fun r15 g15 => K r15 g15)))
set_option maxRecDepth 20000 in
set_option maxHeartbeats 4000000 in
theorem mX8_bake (l : Launch) (G : Gl) (P : Sk) (f : St) (sz : Nat) (a : Nat) (ha : IsModel P a) (p1 : Int32) (K : Int32 → St → Prop) (I42 : St → Int32 → Int32 → Prop) (μ42 : St → Int32 → Int32 → Nat) (I72 : St → Int32 → Int32 → Prop) (μ72 : St → Int32 → Int32 → Nat) 
  (h : vX8_bake P f a p1 I42 I72 K)
  (h42 : ∀ (g : St) (x2 : Int32) (x3 : Int32) , I42 g x2 x3 → bX8_bake_42 P a p1 (fun g' z0 z1 => I42 g' z0 z1 ∧ μ42 g' z0 z1 < μ42 g x2 x3) (fun g' z0 z1 => I72 g' z0 z1 ∧ μ72 g' z0 z1 < μ42 g x2 x3) K g x2 x3)
  (h72 : ∀ (g : St) (x2 : Int32) (x3 : Int32) , I72 g x2 x3 → bX8_bake_72 P a p1 (fun g' z0 z1 => I42 g' z0 z1 ∧ μ42 g' z0 z1 < μ72 g x2 x3) (fun g' z0 z1 => I72 g' z0 z1 ∧ μ72 g' z0 z1 < μ72 g x2 x3) K g x2 x3) :
  Met l yX8_bake (wU yX8_bake cX8_bake 4 (some .int)) rmX8_bake (PcW G P f sz [.ref a, .int p1]) (QcI G P sz K) 0 0 (frA P sz) := by
  refine v_met (own := RX8) [.ref a, .int p1] (by decide +kernel) rfl (Nat.le_of_ble_eq_true rfl) (fun p e s m args below meth c hsz o hr hnm => ?_)
  refine v_lv (lv2 := [(0, .ref a), (1, .int p1)]) rfl ?_
  have main : ∀ n : Nat, (∀ (g : St) (x2 : Int32) (x3 : Int32) , I42 g x2 x3 → μ42 g x2 x3 < n → V p l e rmX8_bake s m args below meth c 4 G (frA P sz) (MQ below (QcI G P sz K) args s 0 0 (frA P sz)) 0 0 P [(0, .ref a), (1, .int p1), (2, .int x2), (3, .int x3)] [] 42 g) ∧ (∀ (g : St) (x2 : Int32) (x3 : Int32) , I72 g x2 x3 → μ72 g x2 x3 < n → V p l e rmX8_bake s m args below meth c 4 G (frA P sz) (MQ below (QcI G P sz K) args s 0 0 (frA P sz)) 0 0 P [(0, .ref a), (1, .int p1), (2, .int x2), (3, .int x3)] [] 72 g) := by
    intro n
    induction n with
    | zero => exact ⟨fun g x2 x3 hI hm => absurd hm (Nat.not_lt_zero _), fun g x2 x3 hI hm => absurd hm (Nat.not_lt_zero _)⟩
    | succ n ih =>
      refine ⟨?_, ?_⟩
      · intro g x2 x3 hI hm
        have h := h42 g x2 x3 hI
        clear hI
        unfold bX8_bake_42 at h
        refine v_iload_n o 3 dX8_bake_42 rfl ?_
        refine v_aload_n o 0 dX8_bake_43 rfl ?_
        refine v_gfR o lkX8_7 (by decide) (wfModel_o ha) (wfModel_r1 ha) dX8_bake_44 ?_
        refine v_iconst o (v := 0) dX8_bake_47 (by decide) ?_
        refine v_iald o (wfModel_t1 ha) (wfModel_n1 ha) h.1 dX8_bake_48 ?_
        replace h := h.2
        refine v_icmp_ge o (tgt := 70) dX8_bake_49 (by decide) (fun c49 => ?_) (fun c49 => ?_)
        · replace h := h.1 c49
          refine v_iconst o (v := 0) dX8_bake_70 (by decide) ?_
          refine v_istore_n o (lv' := [(3, .int 0), (0, .ref a), (1, .int p1), (2, .int x2)]) dX8_bake_71 rfl (by decide) rfl ?_
          refine v_sub [1, 2, 3, 0] (lv2 := [(0, .ref a), (1, .int p1), (2, .int x2), (3, .int 0)]) rfl ?_
          exact ih.2 g x2 0  h.1 (by have := h.2; omega)
        · replace h := h.2 c49
          refine v_aload_n o 0 dX8_bake_52 rfl ?_
          refine v_iload_n o 3 dX8_bake_53 rfl ?_
          refine v_iconst o (v := 1) dX8_bake_54 (by decide) ?_
          refine v_iadd o dX8_bake_55 ?_
          refine v_cVv o [.int (x3 + 1)] [] (fun sz => metX8_takes l G P g sz a ha (x3 + 1) _ h) (cwX8_107 o.1.2.2.2.2 (by decide)) ⟨_, _, rfl⟩ (by decide) (wfModel_o ha) rfl (Nat.le_of_ble_eq_true rfl) ⟨Nat.le_of_ble_eq_true rfl, Nat.le_of_ble_eq_true rfl⟩ dX8_bake_56 rfl (fun g56 h => ?_)
          refine v_aload_n o 0 dX8_bake_59 rfl ?_
          refine v_iload_n o 3 dX8_bake_60 rfl ?_
          refine v_cVv o [.int x3] [] (fun sz => metX8_puts l G P g56 sz a ha x3 _ h) (cwX8_130 o.1.2.2.2.2 (by decide)) ⟨_, _, rfl⟩ (by decide) (wfModel_o ha) rfl (Nat.le_of_ble_eq_true rfl) ⟨Nat.le_of_ble_eq_true rfl, Nat.le_of_ble_eq_true rfl⟩ dX8_bake_61 rfl (fun g61 h => ?_)
          obtain ⟨x3_64, ex3_64⟩ : ∃ y : Int32, y = x3 + 1 := ⟨_, rfl⟩
          replace h := h x3_64 ex3_64
          refine v_iinc o (v := x3_64) (lv' := [(3, .int x3_64), (0, .ref a), (1, .int p1), (2, .int x2)]) 3 dX8_bake_64 rfl (by rw [ex3_64]; rfl) (by decide) rfl ?_
          refine v_goto o (tgt := 42) dX8_bake_67 (by decide) ?_
          refine v_sub [1, 2, 3, 0] (lv2 := [(0, .ref a), (1, .int p1), (2, .int x2), (3, .int x3_64)]) rfl ?_
          exact ih.1 g61 x2 x3_64  h.1 (by have := h.2; omega)
      · intro g x2 x3 hI hm
        have h := h72 g x2 x3 hI
        clear hI
        unfold bX8_bake_72 at h
        refine v_iload_n o 3 dX8_bake_72 rfl ?_
        refine v_bipush o (v := 26) dX8_bake_73 (by decide) ?_
        refine v_icmp_ge o (tgt := 96) dX8_bake_75 (by decide) (fun c75 => ?_) (fun c75 => ?_)
        · replace h := h.1 c75
          refine v_iload_n o 2 dX8_bake_96 rfl ?_
          exact v_iret o rfl hr dX8_bake_97 h
        · replace h := h.2 c75
          refine v_aload_n o 0 dX8_bake_78 rfl ?_
          refine v_aload_n o 0 dX8_bake_79 rfl ?_
          refine v_gfR o lkX8_7 (by decide) (wfModel_o ha) (wfModel_r1 ha) dX8_bake_80 ?_
          refine v_iconst o (v := 0) dX8_bake_83 (by decide) ?_
          refine v_iald o (wfModel_t1 ha) (wfModel_n1 ha) h.1 dX8_bake_84 ?_
          replace h := h.2
          refine v_iload_n o 3 dX8_bake_85 rfl ?_
          refine v_iconst o (v := 0) dX8_bake_86 (by decide) ?_
          refine v_cVv o [.int (g (a + 1) ((0 : Int32)).toNatClampNeg), .int x3, .int 0] [] (fun sz => metX8_store l G P g sz a ha (g (a + 1) ((0 : Int32)).toNatClampNeg) x3 0 _ h) (cwX8_61 o.1.2.2.2.2 (by decide)) ⟨_, _, rfl⟩ (by decide) (wfModel_o ha) rfl (Nat.le_of_ble_eq_true rfl) ⟨Nat.le_of_ble_eq_true rfl, Nat.le_of_ble_eq_true rfl⟩ dX8_bake_87 rfl (fun g87 h => ?_)
          obtain ⟨x3_90, ex3_90⟩ : ∃ y : Int32, y = x3 + 1 := ⟨_, rfl⟩
          replace h := h x3_90 ex3_90
          refine v_iinc o (v := x3_90) (lv' := [(3, .int x3_90), (0, .ref a), (1, .int p1), (2, .int x2)]) 3 dX8_bake_90 rfl (by rw [ex3_90]; rfl) (by decide) rfl ?_
          refine v_goto o (tgt := 72) dX8_bake_93 (by decide) ?_
          refine v_sub [1, 2, 3, 0] (lv2 := [(0, .ref a), (1, .int p1), (2, .int x2), (3, .int x3_90)]) rfl ?_
          exact ih.2 g87 x2 x3_90  h.1 (by have := h.2; omega)
  unfold vX8_bake at h
  refine v_aload_n o 0 dX8_bake_0 rfl ?_
  refine v_iconst o (v := 0) dX8_bake_1 (by decide) ?_
  refine v_pf o lpX8_40 (wfModel_o ha) ⟨rfl, rfl⟩ dX8_bake_2 ?_
  refine v_nmf (fun g2 eg2 => ?_)
  replace h := h g2 eg2
  refine v_aload_n o 0 dX8_bake_5 rfl ?_
  refine v_iload_n o 1 dX8_bake_6 rfl ?_
  refine v_cVi o [.int p1] [] (fun sz => metX8_isLoaf l G P g2 sz a ha p1 _ h) (cwX8_104 o.1.2.2.2.2 (by decide)) ⟨_, _, rfl⟩ (by decide) (wfModel_o ha) rfl (Nat.le_of_ble_eq_true rfl) ⟨Nat.le_of_ble_eq_true rfl, Nat.le_of_ble_eq_true rfl⟩ dX8_bake_7 rfl (fun r7 g7 h => ?_)
  refine v_if_ne o (tgt := 19) dX8_bake_10 (by decide) (fun c10 => ?_) (fun c10 => ?_)
  · replace h := h.1 c10
    refine v_aload_n o 0 dX8_bake_19 rfl ?_
    refine v_cVv o [] [] (fun sz => metX8_records l G P g7 sz a ha _ h) (cwX8_127 o.1.2.2.2.2 (by decide)) ⟨_, _, rfl⟩ (by decide) (wfModel_o ha) rfl (Nat.le_of_ble_eq_true rfl) ⟨Nat.le_of_ble_eq_true rfl, Nat.le_of_ble_eq_true rfl⟩ dX8_bake_20 rfl (fun g20 h => ?_)
    refine v_aload_n o 0 dX8_bake_23 rfl ?_
    refine v_iload_n o 1 dX8_bake_24 rfl ?_
    refine v_iconst o (v := 1) dX8_bake_25 (by decide) ?_
    refine v_cVi o [.int p1, .int 1] [] (fun sz => metX8_of l G P g20 sz a ha p1 1 _ h) (cwX8_51 o.1.2.2.2.2 (by decide)) ⟨_, _, rfl⟩ (by decide) (wfModel_o ha) rfl (Nat.le_of_ble_eq_true rfl) ⟨Nat.le_of_ble_eq_true rfl, Nat.le_of_ble_eq_true rfl⟩ dX8_bake_26 rfl (fun r26 g26 h => ?_)
    refine v_istore_n o (lv' := [(2, .int r26), (0, .ref a), (1, .int p1)]) dX8_bake_29 rfl (by decide) rfl ?_
    refine v_aload_n o 1 dX8_bake_30 rfl ?_
    refine v_gfR o lkX8_7 (by decide) (wfModel_o ha) (wfModel_r1 ha) dX8_bake_31 ?_
    refine v_iconst o (v := 0) dX8_bake_34 (by decide) ?_
    refine v_dup2 o dX8_bake_35 rfl rfl ?_
    refine v_iald o (wfModel_t1 ha) (wfModel_n1 ha) h.1 dX8_bake_36 ?_
    replace h := h.2
    refine v_iconst o (v := 1) dX8_bake_37 (by decide) ?_
    refine v_isub o dX8_bake_38 ?_
    refine v_iast o (wfModel_t1 ha) (wfModel_n1 ha) h.1 dX8_bake_39 ?_
    replace h := h.2
    refine v_nmf (fun g39 eg39 => ?_)
    replace h := h g39 eg39
    refine v_iload_n o 2 dX8_bake_40 rfl ?_
    refine v_istore_n o (lv' := [(3, .int p1), (2, .int r26), (0, .ref a), (1, .int p1)]) dX8_bake_41 rfl (by decide) rfl ?_
    refine v_sub [2, 3, 1, 0] (lv2 := [(0, .ref a), (1, .int p1), (2, .int r26), (3, .int p1)]) rfl ?_
    exact (main (μ42 g39 r26 p1 + 1)).1 g39 r26 p1  h (Nat.lt_succ_self _)
  · replace h := h.2 c10
    refine v_aload_n o 0 dX8_bake_13 rfl ?_
    refine v_iconst o (v := 1) dX8_bake_14 (by decide) ?_
    refine v_cVi o [.int 1] [] (fun sz => metX8_fails l G P g7 sz a ha 1 _ h) (cwX8_123 o.1.2.2.2.2 (by decide)) ⟨_, _, rfl⟩ (by decide) (wfModel_o ha) rfl (Nat.le_of_ble_eq_true rfl) ⟨Nat.le_of_ble_eq_true rfl, Nat.le_of_ble_eq_true rfl⟩ dX8_bake_15 rfl (fun r15 g15 h => ?_)
    exact v_iret o rfl hr dX8_bake_18 h
def WX8_bake (P : Sk) (f : St) (a : Nat) (p1 : Int32) (K : Int32 → St → Prop) : Prop := ∃ (I42 : St → Int32 → Int32 → Prop) (I72 : St → Int32 → Int32 → Prop) (μ42 : St → Int32 → Int32 → Nat) (μ72 : St → Int32 → Int32 → Nat), (vX8_bake P f a p1 I42 I72 K) ∧ (∀ (g : St) (x2 : Int32) (x3 : Int32) , I42 g x2 x3 → bX8_bake_42 P a p1 (fun g' z0 z1 => I42 g' z0 z1 ∧ μ42 g' z0 z1 < μ42 g x2 x3) (fun g' z0 z1 => I72 g' z0 z1 ∧ μ72 g' z0 z1 < μ42 g x2 x3) K g x2 x3) ∧ (∀ (g : St) (x2 : Int32) (x3 : Int32) , I72 g x2 x3 → bX8_bake_72 P a p1 (fun g' z0 z1 => I42 g' z0 z1 ∧ μ42 g' z0 z1 < μ72 g x2 x3) (fun g' z0 z1 => I72 g' z0 z1 ∧ μ72 g' z0 z1 < μ72 g x2 x3) K g x2 x3)
theorem LfM.far2 {f g : St} {q b : Nat} {y : Lf} (h : LfM f q b y) (h24 : y.2.length ≤ 24) (e : ∀ j, b ≤ j → j < b + 26 → g q j = f q j) : LfM g q b y := h.far h24 e
def kX8_bake (P : Sk) (f : St) (a : Nat) (p1 : Int32) (K : Int32 → St → Prop) : Prop := ∃ A, MIs f a A ∧ FinM f a (opBake A p1) K
def BkI (A : Ab) (p : Int32) (f g : St) (a k : Nat) : Prop := MF f g a (fun i => i = 1 ∨ i = 2 ∨ i = 5) (fun j => j = 0 ∨ j = 3 ∨ j = 9 ∨ j = 10) ∧ g a 0 = 0 ∧ HiM g a (svH A.2.1 A.1) ∧ g (a + 1) 0 = nI (A.1.1.length - 1) ∧ g (a + 1) 1 = A.1.2.1 ∧ g (a + 1) 2 = A.1.2.2.1 ∧ g (a + 1) 3 = A.1.2.2.2 ∧ (∀ i, i < k → LfM g (a + 1) (4 + 26 * i) (lfAt (A.1.1.eraseIdx p.toNatClampNeg) i)) ∧ ∀ i, k ≤ i → i < A.1.1.length → LfM g (a + 1) (4 + 26 * i) (lfAt A.1.1 i)
theorem wX8_bake (P : Sk) (f : St) (a : Nat) (ha : IsModel P a) (p1 : Int32) (K : Int32 → St → Prop) (h : kX8_bake P f a p1 K) : WX8_bake P f a p1 K := by
  obtain ⟨A, hM, hF⟩ := h
  have in0 : vp_in 0 160 := vp_nI (i := 0) (by decide) (by decide)
  have hb := hM.bok
  have h6 := hb.1
  unfold opBake at hF
  refine ⟨fun g x2 x3 => hasB A.1 p1 ∧ x2 = nI (lfP A.1 p1).2.length ∧ ∃ k, x3 = nI k ∧ p1.toNatClampNeg ≤ k ∧ k + 1 ≤ A.1.1.length ∧ BkI A p1 f g a k,
    fun g x2 x3 => hasB A.1 p1 ∧ x2 = nI (lfP A.1 p1).2.length ∧ ∃ k, x3 = nI k ∧ k ≤ 26 ∧ An f g a ∧ g a 0 = 0 ∧ MIs g a (sv A (A.1.1.eraseIdx p1.toNatClampNeg, A.1.2)),
    fun g x2 x3 => 1000 + (10 - x3.toNatClampNeg), fun g x2 x3 => 26 - x3.toNatClampNeg, ?_, ?_, ?_⟩
  · unfold vX8_bake
    intro g2 e2
    obtain ⟨M2, z2, r2⟩ := mi_start hM e2
    have r2b : MF f g2 a (fun i => i = 1 ∨ i = 2 ∨ i = 5) (fun j => j = 0 ∨ j = 3 ∨ j = 9 ∨ j = 10) := by
      rw [e2]
      exact mf_fld f (Or.inl rfl)
    refine u8_isLoaf M2.1 hb (fun c1 => ?_) (fun c1 => ?_)
    · refine ⟨fun _ => ?_, fun q => absurd q (by decide)⟩
      refine ⟨A.2.1, A.1, M2.2.1, M2.hok, M2.1, hb, fun g3 r3 H3 => ?_⟩
      have S3 := M2.1.row (r3.1 (a + 1) (by omega) (fun i hi => by omega))
      have hlt := c1.2
      refine u8_ofP (w := 1) hb c1 (by decide) (S3.has c1).2.1 ?_
      refine ⟨in0, in0, fun g4 e4 => ?_⟩
      rw [tn0, show g3 (a + 1) 0 = nI A.1.1.length from S3.1, show (1 : Int32) = nI 1 from rfl, pk_sub (by omega)] at e4
      have o : ∀ j, j ≠ 0 → g4 (a + 1) j = g3 (a + 1) j := fun j hj => by rw [e4, setf_off (Or.inr hj)]
      have r4 : MF g3 g4 a (fun i => i = 1) (fun _ => False) := by
        rw [e4]
        exact mf_arr g3 rfl (by decide)
      refine ⟨c1, rfl, p1.toNatClampNeg, nI_cl c1.1, Nat.le_refl _, by omega, ?_, ?_, H3.row (r4.1 (a + 2) (by omega) (fun i hi => by omega)) (r4.2 3 id), ?_, (o 1 (by decide)).trans S3.2.1, (o 2 (by decide)).trans S3.2.2.1, (o 3 (by decide)).trans S3.2.2.2.1, fun i hi => ?_, fun i hi hi2 => ?_⟩
      · exact r2b.trans ((r3.mono (fun i hi => by omega) (fun j hj => by omega)).trans (r4.mono (fun i hi => by omega) (fun j hj => absurd hj id)))
      · rw [r4.2 0 id, r3.2 0 (by omega)]
        exact z2
      · rw [e4, setf_same]
      · rw [lf_erase, if_pos hi]
        exact (S3.lf (by omega)).far (hb.at (by omega)).1.2.2.1 (fun j h1 h2 => o j (by omega))
      · exact (S3.lf hi2).far (hb.at hi2).1.2.2.1 (fun j h1 h2 => o j (by omega))
    · refine ⟨fun q => absurd rfl q, fun _ => ?_⟩
      rw [cif_neg c1] at hF
      exact u8_fails (hF.no M2 r2)
  · rintro g x2 x3 ⟨c1, rfl, k, rfl, hpk, hk, r, z, H, b0, b1, b2, b3, hA, hB⟩
    unfold bX8_bake_42
    have hlt := c1.2
    rw [tn0, b0, nI_leI (by omega) (by omega), nI_1]
    have hbE : Bok (A.1.1.eraseIdx p1.toNatClampNeg, A.1.2) := by
      refine ⟨?_, fun x hx => hb.2 x (List.mem_of_mem_eraseIdx hx)⟩
      show (A.1.1.eraseIdx p1.toNatClampNeg).length ≤ 6
      rw [List.length_eraseIdx]
      split <;> omega
    have hlE : (A.1.1.eraseIdx p1.toNatClampNeg).length = A.1.1.length - 1 := by
      rw [List.length_eraseIdx, if_pos hlt]
    refine ⟨in0, fun q => ⟨⟨c1, rfl, 0, rfl, by decide, r.an (fun i hi => by omega), z, ?_⟩, ?_⟩, fun q => ?_⟩
    · refine mi_mk hM (r.mono (fun i hi => by omega) (fun j hj => by omega)) ⟨?_, b1, b2, b3, fun i hi => ?_⟩ hbE H (hM.hok.sv hb)
      · show g (a + 1) 0 = nI (A.1.1.eraseIdx p1.toNatClampNeg).length
        rw [hlE]
        exact b0
      · have hi2 : i < A.1.1.length - 1 := by
          rw [← hlE]
          exact hi
        rw [Nat.zero_add]
        exact hA i (by omega)
    · show 26 - (nI 0).toNatClampNeg < 1000 + (10 - (nI k).toNatClampNeg)
      omega
    · refine ⟨k + 1, lfAt A.1.1 (k + 1), rfl, by omega, hB (k + 1) (by omega) (by omega), (hb.at (by omega)).1, fun g1 r1 m1 n1 => ?_⟩
      refine ⟨k, (lfAt A.1.1 (k + 1)).1, (lfAt A.1.1 (k + 1)).2, rfl, by omega, m1, (hb.at (by omega)).1.2.2.1, n1, fun g3 r3 w3 L3 => ?_⟩
      intro y ey
      have o : ∀ j, (j < 4 + 26 * k ∨ 4 + 26 * k + 26 ≤ j) → g3 (a + 1) j = g (a + 1) j := fun j hj => by
        rw [w3 j hj, r1.1 (a + 1) (by omega) (fun i hi => by omega)]
      have r13 : MF g g3 a (fun i => i = 1 ∨ i = 2 ∨ i = 5) (fun j => j = 0 ∨ j = 3 ∨ j = 9 ∨ j = 10) := (r1.mono (fun i hi => by omega) (fun j hj => by omega)).trans (r3.mono (fun i hi => by omega) (fun j hj => absurd hj id))
      refine ⟨⟨c1, rfl, k + 1, ey, by omega, by omega, r.trans r13, ?_, ?_, (o 0 (by omega)).trans b0, (o 1 (by omega)).trans b1, (o 2 (by omega)).trans b2, (o 3 (by omega)).trans b3, fun i hi => ?_, fun i hi hi2 => ?_⟩, ?_⟩
      · rw [r3.2 0 id, r1.2 0 (by omega)]
        exact z
      · exact (H.row (r1.1 (a + 2) (by omega) (fun i hi => by omega)) (r1.2 3 (by omega))).row (r3.1 (a + 2) (by omega) (fun i hi => by omega)) (r3.2 3 id)
      · by_cases c : i = k
        · rw [c, lf_erase, if_neg (by omega)]
          exact L3
        · have hL : (lfAt (A.1.1.eraseIdx p1.toNatClampNeg) i).2.length ≤ 24 := by
            rw [lf_erase]
            split
            · exact (hb.at (by omega)).1.2.2.1
            · exact (hb.at (by omega)).1.2.2.1
          exact (hA i (by omega)).far hL (fun j h1 h2 => o j (by omega))
      · exact (hB i (by omega) hi2).far (hb.at hi2).1.2.2.1 (fun j h1 h2 => o j (by omega))
      · rw [ey]
        show 1000 + (10 - (nI (k + 1)).toNatClampNeg) < 1000 + (10 - (nI k).toNatClampNeg)
        rw [nI_clamp (by omega), nI_clamp (by omega)]
        omega
  · rintro g x2 x3 ⟨c1, rfl, k, rfl, hk, r, z, M⟩
    unfold bX8_bake_72
    have hlt := c1.2
    have hlE : (A.1.1.eraseIdx p1.toNatClampNeg).length = A.1.1.length - 1 := by
      rw [List.length_eraseIdx, if_pos hlt]
    have e0 : g (a + 1) 0 = nI (A.1.1.length - 1) := by
      have := M.1.1
      rw [show (sv A (A.1.1.eraseIdx p1.toNatClampNeg, A.1.2)).1.1 = A.1.1.eraseIdx p1.toNatClampNeg from rfl, hlE] at this
      exact this
    rw [tn0, e0, show (26 : Int32) = nI 26 from rfl, nI_leI (by omega) (by omega)]
    refine ⟨fun q => ?_, fun q => ⟨in0, ?_⟩⟩
    · rw [cif_pos c1] at hF
      exact hF.ok M z r
    · refine u8_store (by omega) (by omega) ?_
      intro y ey
      rw [nI_1] at ey
      have r2 : MF g (setf g (a + 1) (4 + 26 * (A.1.1.length - 1) + k) 0) a (fun i => i = 1) (fun _ => False) := mf_arr g rfl (by decide)
      have o : ∀ j, j < 4 + 26 * (A.1.1.length - 1) → setf g (a + 1) (4 + 26 * (A.1.1.length - 1) + k) 0 (a + 1) j = g (a + 1) j := fun j hj => setf_off (Or.inr (by omega))
      refine ⟨⟨c1, rfl, k + 1, ey, by omega, MF.trans r (r2.an (fun i hi => by omega)), ?_, ?_⟩, mu_up ey (by omega) (by omega)⟩
      · rw [r2.2 0 id]
        exact z
      · have hS := M.1
        refine mi_mk (A := sv A (A.1.1.eraseIdx p1.toNatClampNeg, A.1.2)) M (r2.mono (fun i hi => by omega) (fun j hj => absurd hj id)) ⟨(o 0 (by omega)).trans hS.1, (o 1 (by omega)).trans hS.2.1, (o 2 (by omega)).trans hS.2.2.1, (o 3 (by omega)).trans hS.2.2.2.1, fun i hi => ?_⟩ M.bok (M.2.1.row (r2.1 (a + 2) (by omega) (fun i hi => by omega)) (r2.2 3 id)) M.hok
        have hi2 : i < A.1.1.length - 1 := by
          rw [← hlE]
          exact hi
        exact (hS.2.2.2.2 i hi).far (M.bok.at (i := i) hi).1.2.2.1 (fun j h1 h2 => o j (by omega))

theorem metX8_bake (l : Launch) (G : Gl) (P : Sk) (f : St) (sz : Nat) (a : Nat) (ha : IsModel P a) (p1 : Int32) (K : Int32 → St → Prop) (h : kX8_bake P f a p1 K) : Met l yX8_bake (wU yX8_bake cX8_bake 4 (some .int)) rmX8_bake (PcW G P f sz [.ref a, .int p1]) (QcI G P sz K) 0 0 (frA P sz) := by
  obtain ⟨I42, I72, μ42, μ72, qh, qh42, qh72⟩ := wX8_bake P f a ha p1 K h
  exact mX8_bake l G P f sz a ha p1 K I42 μ42 I72 μ72 qh qh42 qh72

def jX8_cross_39 (P : Sk) (a : Nat) (p1 : Int32) (p2 : Int32) (p3 : Int32) (K : Int32 → St → Prop) (x4 : Int32) (y1 : Int32) (f : St) : Prop :=
  kX8_fails P f a y1 (fun r39 g39 => K r39 g39)
def jX8_cross_17 (P : Sk) (a : Nat) (p1 : Int32) (p2 : Int32) (p3 : Int32) (K : Int32 → St → Prop) (y3 : Int32) (f : St) : Prop :=
  kX8_refusesCross P f a p1 p2 y3 (fun r17 g17 => (r17 = 0 → kX8_records P g17 a (fun g44 => kX8_puts P g44 a p1 (fun g49 => K (g49 a 14) g49))) ∧ (¬ r17 = 0 → (3 ≤ r17 → jX8_cross_39 P a p1 p2 p3 K r17 1 g17) ∧ (¬ 3 ≤ r17 → jX8_cross_39 P a p1 p2 p3 K r17 2 g17)))
def vX8_cross (P : Sk) (f : St) (a : Nat) (p1 : Int32) (p2 : Int32) (p3 : Int32) (K : Int32 → St → Prop) : Prop :=
  ∀ g2 : St, g2 = setf f a 0 0 → (p3 = 0 → jX8_cross_17 P a p1 p2 p3 K 0 g2) ∧ (¬ p3 = 0 → jX8_cross_17 P a p1 p2 p3 K 1 g2)
set_option maxRecDepth 20000 in
set_option maxHeartbeats 4000000 in
theorem mX8_cross (l : Launch) (G : Gl) (P : Sk) (f : St) (sz : Nat) (a : Nat) (ha : IsModel P a) (p1 : Int32) (p2 : Int32) (p3 : Int32) (K : Int32 → St → Prop) (h : vX8_cross P f a p1 p2 p3 K)  :
  Met l yX8_cross (wU yX8_cross cX8_cross 5 (some .int)) rmX8_cross (PcW G P f sz [.ref a, .int p1, .int p2, .int p3]) (QcI G P sz K) 0 0 (frA P sz) := by
  refine v_met (own := RX8) [.ref a, .int p1, .int p2, .int p3] (by decide +kernel) rfl (Nat.le_of_ble_eq_true rfl) (fun p e s m args below meth c hsz o hr hnm => ?_)
  refine v_lv (lv2 := [(0, .ref a), (1, .int p1), (2, .int p2), (3, .int p3)]) rfl ?_
  have J39 : ∀ (x4_39 : Int32) (y1_39 : Int32) (g39 : St), jX8_cross_39 P a p1 p2 p3 K x4_39 y1_39 g39 → V p l e rmX8_cross s m args below meth c 5 G (frA P sz) (MQ below (QcI G P sz K) args s 0 0 (frA P sz)) 0 0 P [(0, .ref a), (1, .int p1), (2, .int p2), (3, .int p3), (4, .int x4_39)] [.int y1_39, .ref a] 39 g39 := by
    intro x4_39 y1_39 g39  h
    unfold jX8_cross_39 at h
    refine v_cVi o [.int y1_39] [] (fun sz => metX8_fails l G P g39 sz a ha y1_39 _ h) (cwX8_123 o.1.2.2.2.2 (by decide)) ⟨_, _, rfl⟩ (by decide) (wfModel_o ha) rfl (Nat.le_of_ble_eq_true rfl) ⟨Nat.le_of_ble_eq_true rfl, Nat.le_of_ble_eq_true rfl⟩ dX8_cross_39 rfl (fun r39 g39 h => ?_)
    exact v_iret o rfl hr dX8_cross_42 h
  have J17 : ∀ (y3_17 : Int32) (g17 : St), jX8_cross_17 P a p1 p2 p3 K y3_17 g17 → V p l e rmX8_cross s m args below meth c 5 G (frA P sz) (MQ below (QcI G P sz K) args s 0 0 (frA P sz)) 0 0 P [(0, .ref a), (1, .int p1), (2, .int p2), (3, .int p3)] [.int y3_17, .int p2, .int p1, .ref a] 17 g17 := by
    intro y3_17 g17  h
    unfold jX8_cross_17 at h
    refine v_cVi o [.int p1, .int p2, .int y3_17] [] (fun sz => metX8_refusesCross l G P g17 sz a ha p1 p2 y3_17 _ h) (cwX8_136 o.1.2.2.2.2 (by decide)) ⟨_, _, rfl⟩ (by decide) (wfModel_o ha) rfl (Nat.le_of_ble_eq_true rfl) ⟨Nat.le_of_ble_eq_true rfl, Nat.le_of_ble_eq_true rfl⟩ dX8_cross_17 rfl (fun r17 g17 h => ?_)
    refine v_istore o (lv' := [(4, .int r17), (0, .ref a), (1, .int p1), (2, .int p2), (3, .int p3)]) dX8_cross_20 (by decide) rfl ?_
    refine v_iload o 0 dX8_cross_22 rfl ?_
    refine v_if_eq o (tgt := 43) dX8_cross_24 (by decide) (fun c24 => ?_) (fun c24 => ?_)
    · replace h := h.1 c24
      refine v_aload_n o 1 dX8_cross_43 rfl ?_
      refine v_cVv o [] [] (fun sz => metX8_records l G P g17 sz a ha _ h) (cwX8_127 o.1.2.2.2.2 (by decide)) ⟨_, _, rfl⟩ (by decide) (wfModel_o ha) rfl (Nat.le_of_ble_eq_true rfl) ⟨Nat.le_of_ble_eq_true rfl, Nat.le_of_ble_eq_true rfl⟩ dX8_cross_44 rfl (fun g44 h => ?_)
      refine v_aload_n o 1 dX8_cross_47 rfl ?_
      refine v_iload_n o 2 dX8_cross_48 rfl ?_
      refine v_cVv o [.int p1] [] (fun sz => metX8_puts l G P g44 sz a ha p1 _ h) (cwX8_130 o.1.2.2.2.2 (by decide)) ⟨_, _, rfl⟩ (by decide) (wfModel_o ha) rfl (Nat.le_of_ble_eq_true rfl) ⟨Nat.le_of_ble_eq_true rfl, Nat.le_of_ble_eq_true rfl⟩ dX8_cross_49 rfl (fun g49 h => ?_)
      refine v_aload_n o 1 dX8_cross_52 rfl ?_
      refine v_gfI o lkX8_86 (by decide) (wfModel_o ha) dX8_cross_53 ?_
      exact v_iret o rfl hr dX8_cross_56 h
    · replace h := h.2 c24
      refine v_aload_n o 1 dX8_cross_27 rfl ?_
      refine v_iload o 0 dX8_cross_28 rfl ?_
      refine v_iconst o (v := 3) dX8_cross_30 (by decide) ?_
      refine v_icmp_ge o (tgt := 38) dX8_cross_31 (by decide) (fun c31 => ?_) (fun c31 => ?_)
      · replace h := h.1 c31
        refine v_iconst o (v := 1) dX8_cross_38 (by decide) ?_
        refine v_sub [1, 2, 3, 4, 0] (lv2 := [(0, .ref a), (1, .int p1), (2, .int p2), (3, .int p3), (4, .int r17)]) rfl ?_
        exact J39 r17 1 g17  h
      · replace h := h.2 c31
        refine v_iconst o (v := 2) dX8_cross_34 (by decide) ?_
        refine v_goto o (tgt := 39) dX8_cross_35 (by decide) ?_
        refine v_sub [1, 2, 3, 4, 0] (lv2 := [(0, .ref a), (1, .int p1), (2, .int p2), (3, .int p3), (4, .int r17)]) rfl ?_
        exact J39 r17 2 g17  h
  unfold vX8_cross at h
  refine v_aload_n o 0 dX8_cross_0 rfl ?_
  refine v_iconst o (v := 0) dX8_cross_1 (by decide) ?_
  refine v_pf o lpX8_40 (wfModel_o ha) ⟨rfl, rfl⟩ dX8_cross_2 ?_
  refine v_nmf (fun g2 eg2 => ?_)
  replace h := h g2 eg2
  refine v_aload_n o 0 dX8_cross_5 rfl ?_
  refine v_iload_n o 1 dX8_cross_6 rfl ?_
  refine v_iload_n o 2 dX8_cross_7 rfl ?_
  refine v_iload_n o 3 dX8_cross_8 rfl ?_
  refine v_if_eq o (tgt := 16) dX8_cross_9 (by decide) (fun c9 => ?_) (fun c9 => ?_)
  · replace h := h.1 c9
    refine v_iconst o (v := 0) dX8_cross_16 (by decide) ?_
    refine v_sub [0, 1, 2, 3] (lv2 := [(0, .ref a), (1, .int p1), (2, .int p2), (3, .int p3)]) rfl ?_
    exact J17 0 g2  h
  · replace h := h.2 c9
    refine v_iconst o (v := 1) dX8_cross_12 (by decide) ?_
    refine v_goto o (tgt := 17) dX8_cross_13 (by decide) ?_
    refine v_sub [0, 1, 2, 3] (lv2 := [(0, .ref a), (1, .int p1), (2, .int p2), (3, .int p3)]) rfl ?_
    exact J17 1 g2  h
abbrev kX8_cross := @vX8_cross
abbrev metX8_cross := @mX8_cross
theorem u8_cross {P : Sk} {f : St} {a r : Nat} {p q : Int32} {A : Ab} {K : Int32 → St → Prop} (hr : r < 2) (hM : MIs f a A) (hF : FinM f a (opCross A p q r) K) : kX8_cross P f a p q (nI r) K := by
  show vX8_cross P f a p q (nI r) K
  unfold vX8_cross
  intro g2 e2
  obtain ⟨M2, z2, r2⟩ := mi_start hM e2
  have key : jX8_cross_17 P a p q (nI r) K (nI r) g2 := by
    unfold jX8_cross_17 jX8_cross_39
    refine u8_refusesCross M2.1 M2.bok hr (fun g s hw => ?_)
    have M := M2.scr s.scr
    have z : g a 0 = 0 := by rw [s.2 0 (by omega)]; exact z2
    have r0 : An f g a := MF.trans r2 s.scr.an
    have hv : (rsCross A.1 p q r).1 < 8 := by
      by_cases c : hasB A.1 p ∧ plB (lfP A.1 p) q
      · have := rsCross_v (r := r) c.1 c.2
        omega
      · have := rsCross_n (r := r) c
        omega
    unfold opCross at hF
    by_cases c0 : (rsCross A.1 p q r).1 = 0
    · obtain ⟨hp, -, -, -, hy⟩ := rsCross_ok M.bok hr c0
      obtain ⟨w1, w2, w3⟩ := hw c0
      rw [if_pos c0] at hF
      rw [c0]
      refine ⟨fun _ => ?_, fun q => absurd rfl q⟩
      refine u8_recput M hp hy w1 w2 (fun h r3 M3 => ?_)
      rw [show h a 14 = _ from (r3.2 14 (by omega)).trans w3]
      refine hF.ok M3 ?_ (MF.trans r0 (r3.an (fun i hi => by omega)))
      rw [r3.2 0 (by omega)]
      exact z
    · rw [if_neg c0] at hF
      refine ⟨fun q0 => absurd q0 (fun q1 => c0 ((nI_eq (by omega) (by decide)).mp q1)), fun _ => ?_⟩
      rw [show (3 : Int32) = nI 3 from rfl, nI_leI (by omega) (by omega)]
      refine ⟨fun q3 => ?_, fun q3 => ?_⟩
      · rw [if_neg (by omega)] at hF
        exact u8_fails (hF.no M r0)
      · rw [if_pos (by omega)] at hF
        exact u8_fails (hF.no M r0)
  match r, hr, key with
  | 0, _, key => exact ⟨fun _ => key, fun q => absurd rfl q⟩
  | 1, _, key => exact ⟨fun q => absurd q (by decide), fun _ => key⟩

def vX8_takesBack (P : Sk) (f : St) (a : Nat) (p1 : Int32) (K : St → Prop) : Prop :=
  kX8_takes P f a p1 (fun g2 => ∀ g12 : St, g12 = setf g2 a 9 ((g2 a 9) - 1) → kX8_puts P g12 a p1 (fun g17 => K g17))
set_option maxRecDepth 20000 in
set_option maxHeartbeats 4000000 in
theorem mX8_takesBack (l : Launch) (G : Gl) (P : Sk) (f : St) (sz : Nat) (a : Nat) (ha : IsModel P a) (p1 : Int32) (K : St → Prop) (h : vX8_takesBack P f a p1 K)  :
  Met l yX8_takesBack (wU yX8_takesBack cX8_takesBack 2 none) rmX8_takesBack (PcW G P f sz [.ref a, .int p1]) (QcV G P sz K) 0 0 (frA P sz) := by
  refine v_met (own := RX8) [.ref a, .int p1] (by decide +kernel) rfl (Nat.le_of_ble_eq_true rfl) (fun p e s m args below meth c hsz o hr hnm => ?_)
  refine v_lv (lv2 := [(0, .ref a), (1, .int p1)]) rfl ?_
  unfold vX8_takesBack at h
  refine v_aload_n o 0 dX8_takesBack_0 rfl ?_
  refine v_iload_n o 1 dX8_takesBack_1 rfl ?_
  refine v_cVv o [.int p1] [] (fun sz => metX8_takes l G P f sz a ha p1 _ h) (cwX8_107 o.1.2.2.2.2 (by decide)) ⟨_, _, rfl⟩ (by decide) (wfModel_o ha) rfl (Nat.le_of_ble_eq_true rfl) ⟨Nat.le_of_ble_eq_true rfl, Nat.le_of_ble_eq_true rfl⟩ dX8_takesBack_2 rfl (fun g2 h => ?_)
  refine v_aload_n o 0 dX8_takesBack_5 rfl ?_
  refine v_dup o dX8_takesBack_6 rfl ?_
  refine v_gfI o lkX8_58 (by decide) (wfModel_o ha) dX8_takesBack_7 ?_
  refine v_iconst o (v := 1) dX8_takesBack_10 (by decide) ?_
  refine v_isub o dX8_takesBack_11 ?_
  refine v_pf o lpX8_58 (wfModel_o ha) ⟨rfl, rfl⟩ dX8_takesBack_12 ?_
  refine v_nmf (fun g12 eg12 => ?_)
  replace h := h g12 eg12
  refine v_aload_n o 0 dX8_takesBack_15 rfl ?_
  refine v_iload_n o 1 dX8_takesBack_16 rfl ?_
  refine v_cVv o [.int p1] [] (fun sz => metX8_puts l G P g12 sz a ha p1 _ h) (cwX8_130 o.1.2.2.2.2 (by decide)) ⟨_, _, rfl⟩ (by decide) (wfModel_o ha) rfl (Nat.le_of_ble_eq_true rfl) ⟨Nat.le_of_ble_eq_true rfl, Nat.le_of_ble_eq_true rfl⟩ dX8_takesBack_17 rfl (fun g17 h => ?_)
  exact v_vret o rfl hr dX8_takesBack_20 h
abbrev kX8_takesBack := @vX8_takesBack
abbrev metX8_takesBack := @mX8_takesBack
theorem u8_takesBack {P : Sk} {g : St} {a : Nat} {p : Int32} {bd : Bd} {K : St → Prop} (hS : StM g (a + 1) 0 bd) (hb : Bok bd) (hp : hasB bd p) (h0 : (lfP bd p).2.length ≠ 0) (hK : ∀ h, MF g h a (fun i => i = 1 ∨ i = 5) (fun j => j = 9 ∨ j = 10) → StM h (a + 1) 0 (putL bd p ((lfP bd p).1, (lfP bd p).2.take ((lfP bd p).2.length - 1))) → K h) : kX8_takesBack P g a p K := by
  show vX8_takesBack P g a p K
  unfold vX8_takesBack
  have h6 := hb.1
  have h2 := hp.2
  have ho := (hb.has hp).1
  have h24 := ho.2.2.1
  have hl : ((lfP bd p).2.take ((lfP bd p).2.length - 1)).length = (lfP bd p).2.length - 1 := by
    rw [List.length_take]
    omega
  refine ⟨p.toNatClampNeg, lfP bd p, nI_cl hp.1, by omega, hS.has hp, ho, fun g1 r1 m1 n1 => ?_⟩
  intro g2 e2
  rw [m1.1, show (1 : Int32) = nI 1 from rfl, pk_sub (by omega)] at e2
  have r2 : MF g1 g2 a (fun _ => False) (fun j => j = 9) := by
    rw [e2]
    exact mf_fld g1 rfl
  have m2 : MW g2 a ((lfP bd p).2.take ((lfP bd p).2.length - 1)) := by
    refine ⟨?_, fun i hi => ?_⟩
    · rw [e2, setf_same, hl]
    · rw [hl] at hi
      rw [getD_take (by omega), r2.1 (a + 5) (by omega) (fun i hi => absurd hi id)]
      exact m1.2 i (by omega)
  have n2 : g2 a 10 = nI (lfP bd p).1 := by
    rw [r2.2 10 (by omega), n1]
  have S2 : StM g2 (a + 1) 0 bd := (hS.row (r1.1 (a + 1) (by omega) (fun i hi => by omega))).row (r2.1 (a + 1) (by omega) (fun i hi => absurd hi id))
  refine u8_put (y := ((lfP bd p).1, (lfP bd p).2.take ((lfP bd p).2.length - 1))) S2 hb hp ?_ m2 n2 (fun h r3 S3 => hK h ?_ S3)
  · show ((lfP bd p).2.take ((lfP bd p).2.length - 1)).length ≤ 24
    omega
  · exact (r1.mono (fun i hi => by omega) (fun j hj => by omega)).trans ((r2.mono (fun i hi => absurd hi id) (fun j hj => by omega)).trans (r3.mono (fun i hi => by omega) (fun j hj => absurd hj id)))

def jX8_back_26 (P : Sk) (a : Nat) (p1 : Int32) (K : Int32 → St → Prop) (x2 : Int32) (y1 : Int32) (f : St) : Prop :=
  kX8_fails P f a y1 (fun r26 g26 => K r26 g26)
def vX8_back (P : Sk) (f : St) (a : Nat) (p1 : Int32) (K : Int32 → St → Prop) : Prop :=
  ∀ g2 : St, g2 = setf f a 0 0 → kX8_refusesBack P g2 a p1 (fun r7 g7 => (r7 = 0 → kX8_records P g7 a (fun g31 => kX8_takesBack P g31 a p1 (fun g36 => kX8_of P g36 a p1 1 (fun r42 g42 => K r42 g42)))) ∧ (¬ r7 = 0 → (¬ r7 = 3 → jX8_back_26 P a p1 K r7 2 g7) ∧ (r7 = 3 → jX8_back_26 P a p1 K r7 1 g7)))
set_option maxRecDepth 20000 in
set_option maxHeartbeats 4000000 in
theorem mX8_back (l : Launch) (G : Gl) (P : Sk) (f : St) (sz : Nat) (a : Nat) (ha : IsModel P a) (p1 : Int32) (K : Int32 → St → Prop) (h : vX8_back P f a p1 K)  :
  Met l yX8_back (wU yX8_back cX8_back 3 (some .int)) rmX8_back (PcW G P f sz [.ref a, .int p1]) (QcI G P sz K) 0 0 (frA P sz) := by
  refine v_met (own := RX8) [.ref a, .int p1] (by decide +kernel) rfl (Nat.le_of_ble_eq_true rfl) (fun p e s m args below meth c hsz o hr hnm => ?_)
  refine v_lv (lv2 := [(0, .ref a), (1, .int p1)]) rfl ?_
  have J26 : ∀ (x2_26 : Int32) (y1_26 : Int32) (g26 : St), jX8_back_26 P a p1 K x2_26 y1_26 g26 → V p l e rmX8_back s m args below meth c 3 G (frA P sz) (MQ below (QcI G P sz K) args s 0 0 (frA P sz)) 0 0 P [(0, .ref a), (1, .int p1), (2, .int x2_26)] [.int y1_26, .ref a] 26 g26 := by
    intro x2_26 y1_26 g26  h
    unfold jX8_back_26 at h
    refine v_cVi o [.int y1_26] [] (fun sz => metX8_fails l G P g26 sz a ha y1_26 _ h) (cwX8_123 o.1.2.2.2.2 (by decide)) ⟨_, _, rfl⟩ (by decide) (wfModel_o ha) rfl (Nat.le_of_ble_eq_true rfl) ⟨Nat.le_of_ble_eq_true rfl, Nat.le_of_ble_eq_true rfl⟩ dX8_back_26 rfl (fun r26 g26 h => ?_)
    exact v_iret o rfl hr dX8_back_29 h
  unfold vX8_back at h
  refine v_aload_n o 0 dX8_back_0 rfl ?_
  refine v_iconst o (v := 0) dX8_back_1 (by decide) ?_
  refine v_pf o lpX8_40 (wfModel_o ha) ⟨rfl, rfl⟩ dX8_back_2 ?_
  refine v_nmf (fun g2 eg2 => ?_)
  replace h := h g2 eg2
  refine v_aload_n o 0 dX8_back_5 rfl ?_
  refine v_iload_n o 1 dX8_back_6 rfl ?_
  refine v_cVi o [.int p1] [] (fun sz => metX8_refusesBack l G P g2 sz a ha p1 _ h) (cwX8_140 o.1.2.2.2.2 (by decide)) ⟨_, _, rfl⟩ (by decide) (wfModel_o ha) rfl (Nat.le_of_ble_eq_true rfl) ⟨Nat.le_of_ble_eq_true rfl, Nat.le_of_ble_eq_true rfl⟩ dX8_back_7 rfl (fun r7 g7 h => ?_)
  refine v_istore_n o (lv' := [(2, .int r7), (0, .ref a), (1, .int p1)]) dX8_back_10 rfl (by decide) rfl ?_
  refine v_iload_n o 0 dX8_back_11 rfl ?_
  refine v_if_eq o (tgt := 30) dX8_back_12 (by decide) (fun c12 => ?_) (fun c12 => ?_)
  · replace h := h.1 c12
    refine v_aload_n o 1 dX8_back_30 rfl ?_
    refine v_cVv o [] [] (fun sz => metX8_records l G P g7 sz a ha _ h) (cwX8_127 o.1.2.2.2.2 (by decide)) ⟨_, _, rfl⟩ (by decide) (wfModel_o ha) rfl (Nat.le_of_ble_eq_true rfl) ⟨Nat.le_of_ble_eq_true rfl, Nat.le_of_ble_eq_true rfl⟩ dX8_back_31 rfl (fun g31 h => ?_)
    refine v_aload_n o 1 dX8_back_34 rfl ?_
    refine v_iload_n o 2 dX8_back_35 rfl ?_
    refine v_cVv o [.int p1] [] (fun sz => metX8_takesBack l G P g31 sz a ha p1 _ h) (cwX8_143 o.1.2.2.2.2 (by decide)) ⟨_, _, rfl⟩ (by decide) (wfModel_o ha) rfl (Nat.le_of_ble_eq_true rfl) ⟨Nat.le_of_ble_eq_true rfl, Nat.le_of_ble_eq_true rfl⟩ dX8_back_36 rfl (fun g36 h => ?_)
    refine v_aload_n o 1 dX8_back_39 rfl ?_
    refine v_iload_n o 2 dX8_back_40 rfl ?_
    refine v_iconst o (v := 1) dX8_back_41 (by decide) ?_
    refine v_cVi o [.int p1, .int 1] [] (fun sz => metX8_of l G P g36 sz a ha p1 1 _ h) (cwX8_51 o.1.2.2.2.2 (by decide)) ⟨_, _, rfl⟩ (by decide) (wfModel_o ha) rfl (Nat.le_of_ble_eq_true rfl) ⟨Nat.le_of_ble_eq_true rfl, Nat.le_of_ble_eq_true rfl⟩ dX8_back_42 rfl (fun r42 g42 h => ?_)
    exact v_iret o rfl hr dX8_back_45 h
  · replace h := h.2 c12
    refine v_aload_n o 1 dX8_back_15 rfl ?_
    refine v_iload_n o 0 dX8_back_16 rfl ?_
    refine v_iconst o (v := 3) dX8_back_17 (by decide) ?_
    refine v_icmp_ne o (tgt := 25) dX8_back_18 (by decide) (fun c18 => ?_) (fun c18 => ?_)
    · replace h := h.1 c18
      refine v_iconst o (v := 2) dX8_back_25 (by decide) ?_
      refine v_sub [1, 2, 0] (lv2 := [(0, .ref a), (1, .int p1), (2, .int r7)]) rfl ?_
      exact J26 r7 2 g7  h
    · replace h := h.2 c18
      refine v_iconst o (v := 1) dX8_back_21 (by decide) ?_
      refine v_goto o (tgt := 26) dX8_back_22 (by decide) ?_
      refine v_sub [1, 2, 0] (lv2 := [(0, .ref a), (1, .int p1), (2, .int r7)]) rfl ?_
      exact J26 r7 1 g7  h
abbrev kX8_back := @vX8_back
abbrev metX8_back := @mX8_back
theorem u8_back {P : Sk} {f : St} {a : Nat} {p : Int32} {A : Ab} {K : Int32 → St → Prop} (hM : MIs f a A) (hF : FinM f a (opBack A p) K) : kX8_back P f a p K := by
  show vX8_back P f a p K
  unfold vX8_back jX8_back_26
  intro g2 e2
  obtain ⟨M, z, r0⟩ := mi_start hM e2
  refine u8_refusesBack M.1 M.bok ?_
  unfold opBack at hF
  have hv := rsBack_v (bd := A.1) (p := p)
  change _ ∧ _
  rw [show (0 : Int32) = nI 0 from rfl, show (3 : Int32) = nI 3 from rfl, nI_eq (by omega) (by omega), nI_eq (by omega) (by omega)]
  refine ⟨fun c0 => ?_, fun c0 => ⟨fun c3 => ?_, fun c3 => ?_⟩⟩
  · rw [if_pos c0] at hF
    obtain ⟨hp, hl, hy2, hy⟩ := rsBack_ok M.bok c0
    refine ⟨A.2.1, A.1, M.2.1, M.hok, M.1, M.bok, fun g1 r1 H1 => ?_⟩
    refine u8_takesBack (M.1.row (r1.1 (a + 1) (by omega) (fun i hi => by omega))) M.bok hp hl (fun h r2 S2 => ?_)
    rw [← hy2] at S2
    have hb2 := M.bok.put (p := p) hy
    have hp2 := has_put (y := (rsBack A.1 p).2) hp
    have L2 := S2.has hp2.1
    rw [hp2.2] at L2
    refine u8_ofP (w := 1) hb2 hp2.1 (by decide) L2.2.1 ?_
    have r12 : MF g2 h a (fun i => i = 1 ∨ i = 2 ∨ i = 5) (fun j => j = 3 ∨ j = 9 ∨ j = 10) := (r1.mono (fun i hi => by omega) (fun j hj => by omega)).trans (r2.mono (fun i hi => by omega) (fun j hj => by omega))
    refine hF.ok (mi_mk M (r12.mono (fun i hi => by omega) (fun j hj => by omega)) S2 hb2 (H1.row (r2.1 (a + 2) (by omega) (fun i hi => by omega)) (r2.2 3 (by omega))) (M.hok.sv M.bok)) ?_ (MF.trans r0 (r12.an (fun i hi => by omega)))
    rw [r12.2 0 (by omega)]
    exact z
  · rw [if_neg c0, if_neg c3] at hF
    exact u8_fails (hF.no M r0)
  · rw [if_neg c0, if_pos c3] at hF
    exact u8_fails (hF.no M r0)

def vX8_change (P : Sk) (f : St) (a : Nat) (p1 : Int32) (p2 : Int32) (K : Int32 → St → Prop) : Prop :=
  ∀ g2 : St, g2 = setf f a 0 0 → kX8_isLoaf P g2 a p1 (fun r7 g7 => (¬ r7 = 0 → kX8_in P g7 p2 0 3 (fun r22 g22 => (¬ r22 = 0 → kX8_refusesChange P g22 a p1 p2 (fun r37 g37 => (r37 = 0 → kX8_records P g37 a (fun g50 => kX8_puts P g50 a p1 (fun g55 => vp_in 1 160 ∧ (vp_in 1 160 ∧ (∀ g67 : St, g67 = setf g55 (a + 1) ((1 : Int32)).toNatClampNeg ((g55 (a + 1) ((1 : Int32)).toNatClampNeg) + 1) → kX8_of P g67 a p1 1 (fun r71 g71 => K r71 g71)))))) ∧ (¬ r37 = 0 → kX8_fails P g37 a 3 (fun r45 g45 => K r45 g45)))) ∧ (r22 = 0 → kX8_fails P g22 a 2 (fun r30 g30 => K r30 g30)))) ∧ (r7 = 0 → kX8_fails P g7 a 1 (fun r15 g15 => K r15 g15)))
set_option maxRecDepth 20000 in
set_option maxHeartbeats 4000000 in
theorem mX8_change (l : Launch) (G : Gl) (P : Sk) (f : St) (sz : Nat) (a : Nat) (ha : IsModel P a) (p1 : Int32) (p2 : Int32) (K : Int32 → St → Prop) (h : vX8_change P f a p1 p2 K)  :
  Met l yX8_change (wU yX8_change cX8_change 3 (some .int)) rmX8_change (PcW G P f sz [.ref a, .int p1, .int p2]) (QcI G P sz K) 0 0 (frA P sz) := by
  refine v_met (own := RX8) [.ref a, .int p1, .int p2] (by decide +kernel) rfl (Nat.le_of_ble_eq_true rfl) (fun p e s m args below meth c hsz o hr hnm => ?_)
  refine v_lv (lv2 := [(0, .ref a), (1, .int p1), (2, .int p2)]) rfl ?_
  unfold vX8_change at h
  refine v_aload_n o 0 dX8_change_0 rfl ?_
  refine v_iconst o (v := 0) dX8_change_1 (by decide) ?_
  refine v_pf o lpX8_40 (wfModel_o ha) ⟨rfl, rfl⟩ dX8_change_2 ?_
  refine v_nmf (fun g2 eg2 => ?_)
  replace h := h g2 eg2
  refine v_aload_n o 0 dX8_change_5 rfl ?_
  refine v_iload_n o 1 dX8_change_6 rfl ?_
  refine v_cVi o [.int p1] [] (fun sz => metX8_isLoaf l G P g2 sz a ha p1 _ h) (cwX8_104 o.1.2.2.2.2 (by decide)) ⟨_, _, rfl⟩ (by decide) (wfModel_o ha) rfl (Nat.le_of_ble_eq_true rfl) ⟨Nat.le_of_ble_eq_true rfl, Nat.le_of_ble_eq_true rfl⟩ dX8_change_7 rfl (fun r7 g7 h => ?_)
  refine v_if_ne o (tgt := 19) dX8_change_10 (by decide) (fun c10 => ?_) (fun c10 => ?_)
  · replace h := h.1 c10
    refine v_iload_n o 2 dX8_change_19 rfl ?_
    refine v_iconst o (v := 0) dX8_change_20 (by decide) ?_
    refine v_iconst o (v := 3) dX8_change_21 (by decide) ?_
    refine v_cSi o [.int p2, .int 0, .int 3] [] (fun sz => metX8_in l G P g7 sz p2 0 3 _ h) (cwX8_44 o.1.2.2.2.2 (by decide)) rfl (Nat.le_of_ble_eq_true rfl) ⟨Nat.le_of_ble_eq_true rfl, Nat.le_of_ble_eq_true rfl⟩ dX8_change_22 rfl (fun r22 g22 h => ?_)
    refine v_if_ne o (tgt := 34) dX8_change_25 (by decide) (fun c25 => ?_) (fun c25 => ?_)
    · replace h := h.1 c25
      refine v_aload_n o 0 dX8_change_34 rfl ?_
      refine v_iload_n o 1 dX8_change_35 rfl ?_
      refine v_iload_n o 2 dX8_change_36 rfl ?_
      refine v_cVi o [.int p1, .int p2] [] (fun sz => metX8_refusesChange l G P g22 sz a ha p1 p2 _ h) (cwX8_146 o.1.2.2.2.2 (by decide)) ⟨_, _, rfl⟩ (by decide) (wfModel_o ha) rfl (Nat.le_of_ble_eq_true rfl) ⟨Nat.le_of_ble_eq_true rfl, Nat.le_of_ble_eq_true rfl⟩ dX8_change_37 rfl (fun r37 g37 h => ?_)
      refine v_if_eq o (tgt := 49) dX8_change_40 (by decide) (fun c40 => ?_) (fun c40 => ?_)
      · replace h := h.1 c40
        refine v_aload_n o 0 dX8_change_49 rfl ?_
        refine v_cVv o [] [] (fun sz => metX8_records l G P g37 sz a ha _ h) (cwX8_127 o.1.2.2.2.2 (by decide)) ⟨_, _, rfl⟩ (by decide) (wfModel_o ha) rfl (Nat.le_of_ble_eq_true rfl) ⟨Nat.le_of_ble_eq_true rfl, Nat.le_of_ble_eq_true rfl⟩ dX8_change_50 rfl (fun g50 h => ?_)
        refine v_aload_n o 0 dX8_change_53 rfl ?_
        refine v_iload_n o 1 dX8_change_54 rfl ?_
        refine v_cVv o [.int p1] [] (fun sz => metX8_puts l G P g50 sz a ha p1 _ h) (cwX8_130 o.1.2.2.2.2 (by decide)) ⟨_, _, rfl⟩ (by decide) (wfModel_o ha) rfl (Nat.le_of_ble_eq_true rfl) ⟨Nat.le_of_ble_eq_true rfl, Nat.le_of_ble_eq_true rfl⟩ dX8_change_55 rfl (fun g55 h => ?_)
        refine v_aload_n o 0 dX8_change_58 rfl ?_
        refine v_gfR o lkX8_7 (by decide) (wfModel_o ha) (wfModel_r1 ha) dX8_change_59 ?_
        refine v_iconst o (v := 1) dX8_change_62 (by decide) ?_
        refine v_dup2 o dX8_change_63 rfl rfl ?_
        refine v_iald o (wfModel_t1 ha) (wfModel_n1 ha) h.1 dX8_change_64 ?_
        replace h := h.2
        refine v_iconst o (v := 1) dX8_change_65 (by decide) ?_
        refine v_iadd o dX8_change_66 ?_
        refine v_iast o (wfModel_t1 ha) (wfModel_n1 ha) h.1 dX8_change_67 ?_
        replace h := h.2
        refine v_nmf (fun g67 eg67 => ?_)
        replace h := h g67 eg67
        refine v_aload_n o 0 dX8_change_68 rfl ?_
        refine v_iload_n o 1 dX8_change_69 rfl ?_
        refine v_iconst o (v := 1) dX8_change_70 (by decide) ?_
        refine v_cVi o [.int p1, .int 1] [] (fun sz => metX8_of l G P g67 sz a ha p1 1 _ h) (cwX8_51 o.1.2.2.2.2 (by decide)) ⟨_, _, rfl⟩ (by decide) (wfModel_o ha) rfl (Nat.le_of_ble_eq_true rfl) ⟨Nat.le_of_ble_eq_true rfl, Nat.le_of_ble_eq_true rfl⟩ dX8_change_71 rfl (fun r71 g71 h => ?_)
        exact v_iret o rfl hr dX8_change_74 h
      · replace h := h.2 c40
        refine v_aload_n o 0 dX8_change_43 rfl ?_
        refine v_iconst o (v := 3) dX8_change_44 (by decide) ?_
        refine v_cVi o [.int 3] [] (fun sz => metX8_fails l G P g37 sz a ha 3 _ h) (cwX8_123 o.1.2.2.2.2 (by decide)) ⟨_, _, rfl⟩ (by decide) (wfModel_o ha) rfl (Nat.le_of_ble_eq_true rfl) ⟨Nat.le_of_ble_eq_true rfl, Nat.le_of_ble_eq_true rfl⟩ dX8_change_45 rfl (fun r45 g45 h => ?_)
        exact v_iret o rfl hr dX8_change_48 h
    · replace h := h.2 c25
      refine v_aload_n o 0 dX8_change_28 rfl ?_
      refine v_iconst o (v := 2) dX8_change_29 (by decide) ?_
      refine v_cVi o [.int 2] [] (fun sz => metX8_fails l G P g22 sz a ha 2 _ h) (cwX8_123 o.1.2.2.2.2 (by decide)) ⟨_, _, rfl⟩ (by decide) (wfModel_o ha) rfl (Nat.le_of_ble_eq_true rfl) ⟨Nat.le_of_ble_eq_true rfl, Nat.le_of_ble_eq_true rfl⟩ dX8_change_30 rfl (fun r30 g30 h => ?_)
      exact v_iret o rfl hr dX8_change_33 h
  · replace h := h.2 c10
    refine v_aload_n o 0 dX8_change_13 rfl ?_
    refine v_iconst o (v := 1) dX8_change_14 (by decide) ?_
    refine v_cVi o [.int 1] [] (fun sz => metX8_fails l G P g7 sz a ha 1 _ h) (cwX8_123 o.1.2.2.2.2 (by decide)) ⟨_, _, rfl⟩ (by decide) (wfModel_o ha) rfl (Nat.le_of_ble_eq_true rfl) ⟨Nat.le_of_ble_eq_true rfl, Nat.le_of_ble_eq_true rfl⟩ dX8_change_15 rfl (fun r15 g15 h => ?_)
    exact v_iret o rfl hr dX8_change_18 h
abbrev kX8_change := @vX8_change
abbrev metX8_change := @mX8_change
theorem u8_change {P : Sk} {f : St} {a : Nat} {p q : Int32} {A : Ab} {K : Int32 → St → Prop} (hM : MIs f a A) (hF : FinM f a (opChange A p q) K) : kX8_change P f a p q K := by
  show vX8_change P f a p q K
  unfold vX8_change
  intro g2 e2
  obtain ⟨M2, z2, r2⟩ := mi_start hM e2
  have in1 : vp_in 1 160 := vp_nI (i := 1) (by decide) (by decide)
  unfold opChange at hF
  refine u8_isLoaf M2.1 M2.bok (fun c1 => ?_) (fun c1 => ?_)
  · refine ⟨fun _ => ?_, fun q => absurd q (by decide)⟩
    rw [cif_pos c1] at hF
    have hi := lt_iff2 (p := q) (m := 3) (by decide)
    refine u8_in (fun q1 q2 => ?_) (fun q0 => ?_)
    · refine ⟨fun _ => ?_, fun q => absurd q (by decide)⟩
      have c2 : in03 q := hi.mpr ⟨q1, q2⟩
      rw [cif_pos c2] at hF
      have eq : q = nI q.toNatClampNeg := nI_cl c2.1
      have key : ∀ (K2 : Int32 → St → Prop), kX8_refusesChange P g2 a p (nI q.toNatClampNeg) K2 → kX8_refusesChange P g2 a p q K2 := fun K2 h => by
        rw [← eq] at h
        exact h
      refine key _ (u8_refusesChange M2.1 M2.bok c2.2 (fun g s hw => ?_))
      have M := M2.scr s.scr
      have z : g a 0 = 0 := by rw [s.2 0 (by omega)]; exact z2
      have r0 : An f g a := MF.trans r2 s.scr.an
      have hv := rsChange_v (how := q.toNatClampNeg) c1
      rw [show (0 : Int32) = nI 0 from rfl, nI_eq (by omega) (by omega)]
      refine ⟨fun c0 => ?_, fun c0 => ?_⟩
      · obtain ⟨-, -, hy⟩ := rsChange_ok M.bok c0
        obtain ⟨w1, w2⟩ := hw c0
        rw [if_pos c0] at hF
        refine u8_recput M c1 hy w1 w2 (fun h r3 M3 => ?_)
        refine ⟨in1, in1, fun g4 e4 => ?_⟩
        rw [tn1] at e4
        obtain ⟨M4, S4, r4⟩ := M3.adc e4
        have hp2 := has_put (y := (rsChange A.1 p q.toNatClampNeg).2) c1
        have hb4 : Bok (adC (putL A.1 p (rsChange A.1 p q.toNatClampNeg).2)) := M3.bok
        have hp4 : hasB (adC (putL A.1 p (rsChange A.1 p q.toNatClampNeg).2)) p := hp2.1
        have L4 := S4.has hp4
        have e5 : lfP (adC (putL A.1 p (rsChange A.1 p q.toNatClampNeg).2)) p = (rsChange A.1 p q.toNatClampNeg).2 := hp2.2
        rw [e5] at L4
        refine u8_ofP (w := 1) hb4 hp4 (by decide) L4.2.1 ?_
        refine hF.ok M4 ?_ (MF.trans r0 (MF.trans (r3.an (fun i hi => by omega)) (r4.an (fun i hi => by omega))))
        rw [r4.2 0 id, r3.2 0 (by omega)]
        exact z
      · rw [if_neg c0] at hF
        exact u8_fails (hF.no M r0)
    · refine ⟨fun q => absurd rfl q, fun _ => ?_⟩
      have c2 : ¬ in03 q := fun h => by
        have h4 := hi.mp h
        rcases q0 with q0 | q0
        · exact h4.1 q0
        · exact h4.2 q0
      rw [cif_neg c2] at hF
      exact u8_fails (hF.no M2 r2)
  · refine ⟨fun q => absurd rfl q, fun _ => ?_⟩
    rw [cif_neg c1] at hF
    exact u8_fails (hF.no M2 r2)

def jX8_join_27 (P : Sk) (a : Nat) (p1 : Int32) (p2 : Int32) (K : Int32 → St → Prop) (x3 : Int32) (y1 : Int32) (f : St) : Prop :=
  kX8_fails P f a y1 (fun r27 g27 => K r27 g27)
def vX8_join (P : Sk) (f : St) (a : Nat) (p1 : Int32) (p2 : Int32) (K : Int32 → St → Prop) : Prop :=
  ∀ g2 : St, g2 = setf f a 0 0 → kX8_refusesJoin P g2 a p1 p2 (fun r8 g8 => (r8 = 0 → kX8_records P g8 a (fun g32 => kX8_puts P g32 a p1 (fun g37 => kX8_of P g37 a p1 1 (fun r43 g43 => K r43 g43)))) ∧ (¬ r8 = 0 → (¬ r8 = 3 → jX8_join_27 P a p1 p2 K r8 2 g8) ∧ (r8 = 3 → jX8_join_27 P a p1 p2 K r8 1 g8)))
set_option maxRecDepth 20000 in
set_option maxHeartbeats 4000000 in
theorem mX8_join (l : Launch) (G : Gl) (P : Sk) (f : St) (sz : Nat) (a : Nat) (ha : IsModel P a) (p1 : Int32) (p2 : Int32) (K : Int32 → St → Prop) (h : vX8_join P f a p1 p2 K)  :
  Met l yX8_join (wU yX8_join cX8_join 4 (some .int)) rmX8_join (PcW G P f sz [.ref a, .int p1, .int p2]) (QcI G P sz K) 0 0 (frA P sz) := by
  refine v_met (own := RX8) [.ref a, .int p1, .int p2] (by decide +kernel) rfl (Nat.le_of_ble_eq_true rfl) (fun p e s m args below meth c hsz o hr hnm => ?_)
  refine v_lv (lv2 := [(0, .ref a), (1, .int p1), (2, .int p2)]) rfl ?_
  have J27 : ∀ (x3_27 : Int32) (y1_27 : Int32) (g27 : St), jX8_join_27 P a p1 p2 K x3_27 y1_27 g27 → V p l e rmX8_join s m args below meth c 4 G (frA P sz) (MQ below (QcI G P sz K) args s 0 0 (frA P sz)) 0 0 P [(0, .ref a), (1, .int p1), (2, .int p2), (3, .int x3_27)] [.int y1_27, .ref a] 27 g27 := by
    intro x3_27 y1_27 g27  h
    unfold jX8_join_27 at h
    refine v_cVi o [.int y1_27] [] (fun sz => metX8_fails l G P g27 sz a ha y1_27 _ h) (cwX8_123 o.1.2.2.2.2 (by decide)) ⟨_, _, rfl⟩ (by decide) (wfModel_o ha) rfl (Nat.le_of_ble_eq_true rfl) ⟨Nat.le_of_ble_eq_true rfl, Nat.le_of_ble_eq_true rfl⟩ dX8_join_27 rfl (fun r27 g27 h => ?_)
    exact v_iret o rfl hr dX8_join_30 h
  unfold vX8_join at h
  refine v_aload_n o 0 dX8_join_0 rfl ?_
  refine v_iconst o (v := 0) dX8_join_1 (by decide) ?_
  refine v_pf o lpX8_40 (wfModel_o ha) ⟨rfl, rfl⟩ dX8_join_2 ?_
  refine v_nmf (fun g2 eg2 => ?_)
  replace h := h g2 eg2
  refine v_aload_n o 0 dX8_join_5 rfl ?_
  refine v_iload_n o 1 dX8_join_6 rfl ?_
  refine v_iload_n o 2 dX8_join_7 rfl ?_
  refine v_cVi o [.int p1, .int p2] [] (fun sz => metX8_refusesJoin l G P g2 sz a ha p1 p2 _ h) (cwX8_149 o.1.2.2.2.2 (by decide)) ⟨_, _, rfl⟩ (by decide) (wfModel_o ha) rfl (Nat.le_of_ble_eq_true rfl) ⟨Nat.le_of_ble_eq_true rfl, Nat.le_of_ble_eq_true rfl⟩ dX8_join_8 rfl (fun r8 g8 h => ?_)
  refine v_istore_n o (lv' := [(3, .int r8), (0, .ref a), (1, .int p1), (2, .int p2)]) dX8_join_11 rfl (by decide) rfl ?_
  refine v_iload_n o 0 dX8_join_12 rfl ?_
  refine v_if_eq o (tgt := 31) dX8_join_13 (by decide) (fun c13 => ?_) (fun c13 => ?_)
  · replace h := h.1 c13
    refine v_aload_n o 1 dX8_join_31 rfl ?_
    refine v_cVv o [] [] (fun sz => metX8_records l G P g8 sz a ha _ h) (cwX8_127 o.1.2.2.2.2 (by decide)) ⟨_, _, rfl⟩ (by decide) (wfModel_o ha) rfl (Nat.le_of_ble_eq_true rfl) ⟨Nat.le_of_ble_eq_true rfl, Nat.le_of_ble_eq_true rfl⟩ dX8_join_32 rfl (fun g32 h => ?_)
    refine v_aload_n o 1 dX8_join_35 rfl ?_
    refine v_iload_n o 2 dX8_join_36 rfl ?_
    refine v_cVv o [.int p1] [] (fun sz => metX8_puts l G P g32 sz a ha p1 _ h) (cwX8_130 o.1.2.2.2.2 (by decide)) ⟨_, _, rfl⟩ (by decide) (wfModel_o ha) rfl (Nat.le_of_ble_eq_true rfl) ⟨Nat.le_of_ble_eq_true rfl, Nat.le_of_ble_eq_true rfl⟩ dX8_join_37 rfl (fun g37 h => ?_)
    refine v_aload_n o 1 dX8_join_40 rfl ?_
    refine v_iload_n o 2 dX8_join_41 rfl ?_
    refine v_iconst o (v := 1) dX8_join_42 (by decide) ?_
    refine v_cVi o [.int p1, .int 1] [] (fun sz => metX8_of l G P g37 sz a ha p1 1 _ h) (cwX8_51 o.1.2.2.2.2 (by decide)) ⟨_, _, rfl⟩ (by decide) (wfModel_o ha) rfl (Nat.le_of_ble_eq_true rfl) ⟨Nat.le_of_ble_eq_true rfl, Nat.le_of_ble_eq_true rfl⟩ dX8_join_43 rfl (fun r43 g43 h => ?_)
    exact v_iret o rfl hr dX8_join_46 h
  · replace h := h.2 c13
    refine v_aload_n o 1 dX8_join_16 rfl ?_
    refine v_iload_n o 0 dX8_join_17 rfl ?_
    refine v_iconst o (v := 3) dX8_join_18 (by decide) ?_
    refine v_icmp_ne o (tgt := 26) dX8_join_19 (by decide) (fun c19 => ?_) (fun c19 => ?_)
    · replace h := h.1 c19
      refine v_iconst o (v := 2) dX8_join_26 (by decide) ?_
      refine v_sub [1, 2, 3, 0] (lv2 := [(0, .ref a), (1, .int p1), (2, .int p2), (3, .int r8)]) rfl ?_
      exact J27 r8 2 g8  h
    · replace h := h.2 c19
      refine v_iconst o (v := 1) dX8_join_22 (by decide) ?_
      refine v_goto o (tgt := 27) dX8_join_23 (by decide) ?_
      refine v_sub [1, 2, 3, 0] (lv2 := [(0, .ref a), (1, .int p1), (2, .int p2), (3, .int r8)]) rfl ?_
      exact J27 r8 1 g8  h
abbrev kX8_join := @vX8_join
abbrev metX8_join := @mX8_join
theorem u8_join {P : Sk} {f : St} {a : Nat} {p q : Int32} {A : Ab} {K : Int32 → St → Prop} (hM : MIs f a A) (hF : FinM f a (opJoin A p q) K) : kX8_join P f a p q K := by
  show vX8_join P f a p q K
  unfold vX8_join jX8_join_27
  intro g2 e2
  obtain ⟨M2, z2, r2⟩ := mi_start hM e2
  refine u8_refusesJoin M2.1 M2.bok (fun g s hw => ?_)
  have M := M2.scr s.scr
  have z : g a 0 = 0 := by rw [s.2 0 (by omega)]; exact z2
  have r0 : An f g a := MF.trans r2 s.scr.an
  unfold opJoin at hF
  have hv := rsJoin_v (bd := A.1) (p := p) (q := q)
  have hv2 : (rsJoin A.1 p q).1 < 8 := by
    rcases hv with hv | hv
    · omega
    · exact hv.2.2
  rw [show (0 : Int32) = nI 0 from rfl, show (3 : Int32) = nI 3 from rfl, nI_eq (by omega) (by omega), nI_eq (by omega) (by omega)]
  refine ⟨fun c0 => ?_, fun c0 => ⟨fun c3 => ?_, fun c3 => ?_⟩⟩
  · rw [if_pos c0] at hF
    obtain ⟨hp, -, -, hy⟩ := rsJoin_ok M.bok c0
    obtain ⟨w1, w2⟩ := hw c0
    refine u8_recput M hp hy w1 w2 (fun h r3 M3 => ?_)
    have hp2 := has_put (y := (rsJoin A.1 p q).2) hp
    have S3 : StM h (a + 1) 0 (putL A.1 p (rsJoin A.1 p q).2) := M3.1
    have L3 := S3.has hp2.1
    rw [hp2.2] at L3
    refine u8_ofP (w := 1) M3.bok hp2.1 (by decide) L3.2.1 ?_
    refine hF.ok M3 ?_ (MF.trans r0 (r3.an (fun i hi => by omega)))
    rw [r3.2 0 (by omega)]
    exact z
  · rw [if_neg c0, if_neg c3] at hF
    exact u8_fails (hF.no M r0)
  · rw [if_neg c0, if_pos c3] at hF
    exact u8_fails (hF.no M r0)

