def vX8_sign (P : Sk) (f : St) (a : Nat) (K : Int32 → St → Prop) : Prop :=
  (f a 7 ≤ f a 18 → K 0 f) ∧ (¬ f a 7 ≤ f a 18 → vp_in (f a 18) 60 ∧ (K (f (a + 4) (f a 18).toNatClampNeg) f))
set_option maxRecDepth 20000 in
set_option maxHeartbeats 4000000 in
theorem mX8_sign (l : Launch) (G : Gl) (P : Sk) (f : St) (sz : Nat) (a : Nat) (ha : IsModel P a) (K : Int32 → St → Prop) (h : vX8_sign P f a K)  :
  Met l yX8_sign (wU yX8_sign cX8_sign 1 (some .int)) rmX8_sign (PcW G P f sz [.ref a]) (QcI G P sz K) 0 0 (frA P sz) := by
  refine v_met (own := RX8) [.ref a] (by decide +kernel) rfl (Nat.le_of_ble_eq_true rfl) (fun p e s m args below meth c hsz o hr hnm => ?_)
  refine v_lv (lv2 := [(0, .ref a)]) rfl ?_
  unfold vX8_sign at h
  refine v_aload_n o 0 dX8_sign_0 rfl ?_
  refine v_gfI o lkX8_152 (by decide) (wfModel_o ha) dX8_sign_1 ?_
  refine v_aload_n o 0 dX8_sign_4 rfl ?_
  refine v_gfI o lkX8_133 (by decide) (wfModel_o ha) dX8_sign_5 ?_
  refine v_icmp_ge o (tgt := 23) dX8_sign_8 (by decide) (fun c8 => ?_) (fun c8 => ?_)
  · replace h := h.1 c8
    refine v_iconst o (v := 0) dX8_sign_23 (by decide) ?_
    exact v_iret o rfl hr dX8_sign_24 h
  · replace h := h.2 c8
    refine v_aload_n o 0 dX8_sign_11 rfl ?_
    refine v_gfR o lkX8_19 (by decide) (wfModel_o ha) (wfModel_r6 ha) dX8_sign_12 ?_
    refine v_aload_n o 0 dX8_sign_15 rfl ?_
    refine v_gfI o lkX8_152 (by decide) (wfModel_o ha) dX8_sign_16 ?_
    refine v_iald o (wfModel_t6 ha) (wfModel_n6 ha) h.1 dX8_sign_19 ?_
    replace h := h.2
    refine v_goto o (tgt := 24) dX8_sign_20 (by decide) ?_
    exact v_iret o rfl hr dX8_sign_24 h
abbrev kX8_sign := @vX8_sign
abbrev metX8_sign := @mX8_sign
theorem u8_sign {P : Sk} {f : St} {a t : Nat} {b : List Nat} {K : Int32 → St → Prop} (hT : TxM f a b) (hk : Tok b) (ht : f a 18 = nI t) (ht6 : t ≤ 100) (hK1 : t < b.length → K (nI (b.getD t 0)) f) (hK0 : b.length ≤ t → K 0 f) : kX8_sign P f a K := by
  show vX8_sign P f a K
  unfold vX8_sign
  have h6 := hk.1
  rw [hT.1, ht, nI_leI (by omega) (by omega)]
  refine ⟨hK0, fun q => ⟨vp_nI (by omega) (by decide), ?_⟩⟩
  rw [nI_clamp (by omega), hT.2 t (by omega)]
  exact hK1 (by omega)

def jX8_reads_52 (P : Sk) (a : Nat) (p1 : Int32) (p2 : Int32) (K : Int32 → St → Prop) (x3 : Int32) (y1 : Int32) (y2 : Int32) (f : St) : Prop :=
  ∀ g53 : St, g53 = setf f a 18 (y1 + y2) → K x3 g53
def jX8_reads_25 (P : Sk) (a : Nat) (p1 : Int32) (p2 : Int32) (K : Int32 → St → Prop) (y1 : Int32) (f : St) : Prop :=
  (y1 = 0 ∨ y1 = 1) ∧ (∀ g25 : St, g25 = setf f a 19 y1 → kX8_sign P g25 a (fun r29 g29 => ∀ x3_34 : Int32, x3_34 = r29 - p1 → (g29 a 19 = 0 → jX8_reads_52 P a p1 p2 K x3_34 (g29 a 18) 0 g29) ∧ (¬ g29 a 19 = 0 → jX8_reads_52 P a p1 p2 K x3_34 (g29 a 18) 1 g29)))
def jX8_reads_24 (P : Sk) (a : Nat) (p1 : Int32) (p2 : Int32) (K : Int32 → St → Prop) (f : St) : Prop :=
  jX8_reads_25 P a p1 p2 K 0 f
def vX8_reads (P : Sk) (f : St) (a : Nat) (p1 : Int32) (p2 : Int32) (K : Int32 → St → Prop) : Prop :=
  (f a 19 = 0 → jX8_reads_24 P a p1 p2 K  f) ∧ (¬ f a 19 = 0 → kX8_sign P f a (fun r9 g9 => kX8_in P g9 r9 p1 p2 (fun r14 g14 => (r14 = 0 → jX8_reads_24 P a p1 p2 K  g14) ∧ (¬ r14 = 0 → jX8_reads_25 P a p1 p2 K 1 g14))))
set_option maxRecDepth 20000 in
set_option maxHeartbeats 4000000 in
theorem mX8_reads (l : Launch) (G : Gl) (P : Sk) (f : St) (sz : Nat) (a : Nat) (ha : IsModel P a) (p1 : Int32) (p2 : Int32) (K : Int32 → St → Prop) (h : vX8_reads P f a p1 p2 K)  :
  Met l yX8_reads (wU yX8_reads cX8_reads 4 (some .int)) rmX8_reads (PcW G P f sz [.ref a, .int p1, .int p2]) (QcI G P sz K) 0 0 (frA P sz) := by
  refine v_met (own := RX8) [.ref a, .int p1, .int p2] (by decide +kernel) rfl (Nat.le_of_ble_eq_true rfl) (fun p e s m args below meth c hsz o hr hnm => ?_)
  refine v_lv (lv2 := [(0, .ref a), (1, .int p1), (2, .int p2)]) rfl ?_
  have J52 : ∀ (x3_52 : Int32) (y1_52 : Int32) (y2_52 : Int32) (g52 : St), jX8_reads_52 P a p1 p2 K x3_52 y1_52 y2_52 g52 → V p l e rmX8_reads s m args below meth c 4 G (frA P sz) (MQ below (QcI G P sz K) args s 0 0 (frA P sz)) 0 0 P [(0, .ref a), (1, .int p1), (2, .int p2), (3, .int x3_52)] [.int y2_52, .int y1_52, .ref a] 52 g52 := by
    intro x3_52 y1_52 y2_52 g52  h
    unfold jX8_reads_52 at h
    refine v_iadd o dX8_reads_52 ?_
    refine v_pf o lpX8_152 (wfModel_o ha) ⟨rfl, rfl⟩ dX8_reads_53 ?_
    refine v_nmf (fun g53 eg53 => ?_)
    replace h := h g53 eg53
    refine v_iload_n o 3 dX8_reads_56 rfl ?_
    exact v_iret o rfl hr dX8_reads_57 h
  have J25 : ∀ (y1_25 : Int32) (g25 : St), jX8_reads_25 P a p1 p2 K y1_25 g25 → V p l e rmX8_reads s m args below meth c 4 G (frA P sz) (MQ below (QcI G P sz K) args s 0 0 (frA P sz)) 0 0 P [(0, .ref a), (1, .int p1), (2, .int p2)] [.int y1_25, .ref a] 25 g25 := by
    intro y1_25 g25  h
    unfold jX8_reads_25 at h
    refine v_pf o lpX8_155 (wfModel_o ha) (bzz h.1) dX8_reads_25 ?_
    replace h := h.2
    refine v_nmf (fun g25 eg25 => ?_)
    replace h := h g25 eg25
    refine v_aload_n o 0 dX8_reads_28 rfl ?_
    refine v_cVi o [] [] (fun sz => metX8_sign l G P g25 sz a ha _ h) (cwX8_159 o.1.2.2.2.2 (by decide)) ⟨_, _, rfl⟩ (by decide) (wfModel_o ha) rfl (Nat.le_of_ble_eq_true rfl) ⟨Nat.le_of_ble_eq_true rfl, Nat.le_of_ble_eq_true rfl⟩ dX8_reads_29 rfl (fun r29 g29 h => ?_)
    refine v_iload_n o 1 dX8_reads_32 rfl ?_
    refine v_isub o dX8_reads_33 ?_
    refine v_topi (fun x3_34 ex3_34 => ?_)
    replace h := h x3_34 ex3_34
    refine v_istore_n o (lv' := [(3, .int x3_34), (0, .ref a), (1, .int p1), (2, .int p2)]) dX8_reads_34 rfl (by decide) rfl ?_
    refine v_aload_n o 1 dX8_reads_35 rfl ?_
    refine v_dup o dX8_reads_36 rfl ?_
    refine v_gfI o lkX8_152 (by decide) (wfModel_o ha) dX8_reads_37 ?_
    refine v_aload_n o 1 dX8_reads_40 rfl ?_
    refine v_gfI o lkX8_155 (by decide) (wfModel_o ha) dX8_reads_41 ?_
    refine v_if_eq o (tgt := 51) dX8_reads_44 (by decide) (fun c44 => ?_) (fun c44 => ?_)
    · replace h := h.1 c44
      refine v_iconst o (v := 0) dX8_reads_51 (by decide) ?_
      refine v_sub [1, 2, 3, 0] (lv2 := [(0, .ref a), (1, .int p1), (2, .int p2), (3, .int x3_34)]) rfl ?_
      exact J52 x3_34 (g29 a 18) 0 g29  h
    · replace h := h.2 c44
      refine v_iconst o (v := 1) dX8_reads_47 (by decide) ?_
      refine v_goto o (tgt := 52) dX8_reads_48 (by decide) ?_
      refine v_sub [1, 2, 3, 0] (lv2 := [(0, .ref a), (1, .int p1), (2, .int p2), (3, .int x3_34)]) rfl ?_
      exact J52 x3_34 (g29 a 18) 1 g29  h
  have J24 : ∀ (g24 : St), jX8_reads_24 P a p1 p2 K  g24 → V p l e rmX8_reads s m args below meth c 4 G (frA P sz) (MQ below (QcI G P sz K) args s 0 0 (frA P sz)) 0 0 P [(0, .ref a), (1, .int p1), (2, .int p2)] [.ref a] 24 g24 := by
    intro  g24  h
    unfold jX8_reads_24 at h
    refine v_iconst o (v := 0) dX8_reads_24 (by decide) ?_
    refine v_sub [0, 1, 2] (lv2 := [(0, .ref a), (1, .int p1), (2, .int p2)]) rfl ?_
    exact J25 0 g24  h
  unfold vX8_reads at h
  refine v_aload_n o 0 dX8_reads_0 rfl ?_
  refine v_aload_n o 0 dX8_reads_1 rfl ?_
  refine v_gfI o lkX8_155 (by decide) (wfModel_o ha) dX8_reads_2 ?_
  refine v_if_eq o (tgt := 24) dX8_reads_5 (by decide) (fun c5 => ?_) (fun c5 => ?_)
  · replace h := h.1 c5
    refine v_sub [0, 1, 2] (lv2 := [(0, .ref a), (1, .int p1), (2, .int p2)]) rfl ?_
    exact J24  f  h
  · replace h := h.2 c5
    refine v_aload_n o 0 dX8_reads_8 rfl ?_
    refine v_cVi o [] [.ref a] (fun sz => metX8_sign l G P f sz a ha _ h) (cwX8_159 o.1.2.2.2.2 (by decide)) ⟨_, _, rfl⟩ (by decide) (wfModel_o ha) rfl (Nat.le_of_ble_eq_true rfl) ⟨Nat.le_of_ble_eq_true rfl, Nat.le_of_ble_eq_true rfl⟩ dX8_reads_9 rfl (fun r9 g9 h => ?_)
    refine v_iload_n o 1 dX8_reads_12 rfl ?_
    refine v_iload_n o 2 dX8_reads_13 rfl ?_
    refine v_cSi o [.int r9, .int p1, .int p2] [.ref a] (fun sz => metX8_in l G P g9 sz r9 p1 p2 _ h) (cwX8_44 o.1.2.2.2.2 (by decide)) rfl (Nat.le_of_ble_eq_true rfl) ⟨Nat.le_of_ble_eq_true rfl, Nat.le_of_ble_eq_true rfl⟩ dX8_reads_14 rfl (fun r14 g14 h => ?_)
    refine v_if_eq o (tgt := 24) dX8_reads_17 (by decide) (fun c17 => ?_) (fun c17 => ?_)
    · replace h := h.1 c17
      refine v_sub [0, 1, 2] (lv2 := [(0, .ref a), (1, .int p1), (2, .int p2)]) rfl ?_
      exact J24  g14  h
    · replace h := h.2 c17
      refine v_iconst o (v := 1) dX8_reads_20 (by decide) ?_
      refine v_goto o (tgt := 25) dX8_reads_21 (by decide) ?_
      refine v_sub [0, 1, 2] (lv2 := [(0, .ref a), (1, .int p1), (2, .int p2)]) rfl ?_
      exact J25 1 g14  h
abbrev kX8_reads := @vX8_reads
abbrev metX8_reads := @mX8_reads
theorem u8_reads {P : Sk} {f : St} {a t lo hi wl : Nat} {b : List Nat} {K : Int32 → St → Prop} (hT : TxM f a b) (hk : Tok b) (ht : f a 18 = nI t) (ht6 : t ≤ 60) (hw : f a 19 = nI wl) (hw1 : wl ≤ 1) (hlo : 1 ≤ lo) (hlo2 : lo < 1000) (hhi : hi < 1000)
  (hK1 : ∀ g, MF f g a (fun _ => False) (fun j => j = 18 ∨ j = 19) → wl = 1 → t < b.length → lo ≤ b.getD t 0 → b.getD t 0 ≤ hi → g a 18 = nI (t + 1) → g a 19 = 1 → K (nI (b.getD t 0 - lo)) g)
  (hK0 : ∀ g v, MF f g a (fun _ => False) (fun j => j = 18 ∨ j = 19) → (wl = 1 → t < b.length → ¬ (lo ≤ b.getD t 0 ∧ b.getD t 0 ≤ hi)) → g a 18 = nI t → g a 19 = 0 → K v g) : kX8_reads P f a (nI lo) (nI hi) K := by
  show vX8_reads P f a (nI lo) (nI hi) K
  unfold vX8_reads jX8_reads_24
  have s18 : ∀ v, setf f a 19 v a 18 = nI t := fun v => by rw [setf_off (Or.inr (by decide)), ht]
  have no : (wl = 1 → t < b.length → ¬ (lo ≤ b.getD t 0 ∧ b.getD t 0 ≤ hi)) → jX8_reads_25 P a (nI lo) (nI hi) K 0 f := by
    intro hn
    unfold jX8_reads_25 jX8_reads_52
    refine ⟨Or.inl rfl, fun g e => ?_⟩
    have r : MF f g a (fun _ => False) (fun j => j = 18 ∨ j = 19) := by
      rw [e]
      exact mf_fld f (Or.inr rfl)
    have e18 : g a 18 = nI t := by rw [e, s18]
    have e19 : g a 19 = 0 := by rw [e, setf_same]
    have fin : ∀ (v : Int32) (x3 : Int32), x3 = v - nI lo → (g a 19 = 0 → ∀ g53, g53 = setf g a 18 (g a 18 + 0) → K x3 g53) ∧ (¬ g a 19 = 0 → ∀ g53, g53 = setf g a 18 (g a 18 + 1) → K x3 g53) := by
      intro v x3 _
      refine ⟨fun _ g2 e2 => hK0 g2 x3 ?_ hn ?_ ?_, fun q => absurd e19 q⟩
      · rw [e2]
        exact r.trans (mf_fld _ (Or.inl rfl))
      · rw [e2, setf_same, e18, Int32.add_zero]
      · rw [e2, setf_off (Or.inr (by decide)), e19]
    exact u8_sign (hT.keep r (fun i h => absurd h id) (by omega)) hk e18 (by omega) (fun _ => fin _) (fun _ => fin _)
  have hwl : wl = 0 ∨ wl = 1 := by omega
  rcases hwl with h0 | h1
  · rw [hw, h0]
    refine ⟨fun _ => no (fun q => absurd (h0.symm.trans q) (by decide)), fun q => absurd rfl q⟩
  · rw [hw, h1]
    refine ⟨fun q => absurd q (by decide), fun _ => ?_⟩
    refine u8_sign hT hk ht (by omega) (fun htl => ?_) (fun htl => ?_)
    · have hc := (hk.at htl).2
      refine u8_in (fun q1 q2 => ?_) (fun q => ?_)
      · rw [nI_ltI (by omega) (by omega)] at q1 q2
        refine ⟨fun q => absurd q (by decide), fun _ => ?_⟩
        unfold jX8_reads_25 jX8_reads_52
        refine ⟨Or.inr rfl, fun g e => ?_⟩
        have r : MF f g a (fun _ => False) (fun j => j = 18 ∨ j = 19) := by
          rw [e]
          exact mf_fld f (Or.inr rfl)
        have e18 : g a 18 = nI t := by rw [e, s18]
        have e19 : g a 19 = 1 := by rw [e, setf_same]
        refine u8_sign (hT.keep r (fun i h => absurd h id) (by omega)) hk e18 (by omega) (fun _ x3 e3 => ?_) (fun q => absurd htl (by omega))
        refine ⟨fun q => absurd (e19.symm.trans q) (by decide), fun _ g2 e2 => ?_⟩
        rw [pk_sub (by omega)] at e3
        rw [e3]
        refine hK1 g2 ?_ h1 htl (by omega) (by omega) ?_ ?_
        · rw [e2]
          exact r.trans (mf_fld _ (Or.inl rfl))
        · rw [e2, setf_same, e18, nI_1]
        · rw [e2, setf_off (Or.inr (by decide)), e19]
      · rw [nI_ltI (by omega) (by omega), nI_ltI (by omega) (by omega)] at q
        exact ⟨fun _ => no (fun _ _ h => by omega), fun q2 => absurd rfl q2⟩
    · refine u8_in (fun q1 _ => ?_) (fun _ => ?_)
      · rw [show (0 : Int32) = nI 0 from rfl, nI_ltI (by omega) (by omega)] at q1
        omega
      · exact ⟨fun _ => no (fun _ q => by omega), fun q2 => absurd rfl q2⟩

def jX8_readsSide_66 (P : Sk) (a : Nat) (K : Int32 → St → Prop) (x1 : Int32) (y1 : Int32) (y2 : Int32) (f : St) : Prop :=
  ∀ g67 : St, g67 = setf f a 18 (y1 + y2) → K x1 g67
def jX8_readsSide_46 (P : Sk) (a : Nat) (K : Int32 → St → Prop) (x1 : Int32) (y1 : Int32) (f : St) : Prop :=
  (y1 = 0 ∨ y1 = 1) ∧ (∀ g46 : St, g46 = setf f a 19 y1 → (g46 a 19 = 0 → jX8_readsSide_66 P a K x1 (g46 a 18) 0 g46) ∧ (¬ g46 a 19 = 0 → jX8_readsSide_66 P a K x1 (g46 a 18) 1 g46))
def jX8_readsSide_45 (P : Sk) (a : Nat) (K : Int32 → St → Prop) (x1 : Int32) (f : St) : Prop :=
  jX8_readsSide_46 P a K x1 0 f
def jX8_readsSide_41 (P : Sk) (a : Nat) (K : Int32 → St → Prop) (x1 : Int32) (f : St) : Prop :=
  jX8_readsSide_46 P a K x1 1 f
def jX8_readsSide_14 (P : Sk) (a : Nat) (K : Int32 → St → Prop) (y0 : Int32) (f : St) : Prop :=
  (f a 19 = 0 → jX8_readsSide_45 P a K y0 f) ∧ (¬ f a 19 = 0 → kX8_sign P f a (fun r24 g24 => (r24 = 43 → jX8_readsSide_41 P a K y0 g24) ∧ (¬ r24 = 43 → kX8_sign P g24 a (fun r33 g33 => (¬ r33 = 45 → jX8_readsSide_45 P a K y0 g33) ∧ (r33 = 45 → jX8_readsSide_41 P a K y0 g33)))))
def vX8_readsSide (P : Sk) (f : St) (a : Nat) (K : Int32 → St → Prop) : Prop :=
  kX8_sign P f a (fun r1 g1 => (¬ r1 = 43 → jX8_readsSide_14 P a K 0 g1) ∧ (r1 = 43 → jX8_readsSide_14 P a K 1 g1))
set_option maxRecDepth 20000 in
set_option maxHeartbeats 4000000 in
theorem mX8_readsSide (l : Launch) (G : Gl) (P : Sk) (f : St) (sz : Nat) (a : Nat) (ha : IsModel P a) (K : Int32 → St → Prop) (h : vX8_readsSide P f a K)  :
  Met l yX8_readsSide (wU yX8_readsSide cX8_readsSide 2 (some .int)) rmX8_readsSide (PcW G P f sz [.ref a]) (QcI G P sz K) 0 0 (frA P sz) := by
  refine v_met (own := RX8) [.ref a] (by decide +kernel) rfl (Nat.le_of_ble_eq_true rfl) (fun p e s m args below meth c hsz o hr hnm => ?_)
  refine v_lv (lv2 := [(0, .ref a)]) rfl ?_
  have J66 : ∀ (x1_66 : Int32) (y1_66 : Int32) (y2_66 : Int32) (g66 : St), jX8_readsSide_66 P a K x1_66 y1_66 y2_66 g66 → V p l e rmX8_readsSide s m args below meth c 2 G (frA P sz) (MQ below (QcI G P sz K) args s 0 0 (frA P sz)) 0 0 P [(0, .ref a), (1, .int x1_66)] [.int y2_66, .int y1_66, .ref a] 66 g66 := by
    intro x1_66 y1_66 y2_66 g66  h
    unfold jX8_readsSide_66 at h
    refine v_iadd o dX8_readsSide_66 ?_
    refine v_pf o lpX8_152 (wfModel_o ha) ⟨rfl, rfl⟩ dX8_readsSide_67 ?_
    refine v_nmf (fun g67 eg67 => ?_)
    replace h := h g67 eg67
    refine v_iload_n o 1 dX8_readsSide_70 rfl ?_
    exact v_iret o rfl hr dX8_readsSide_71 h
  have J46 : ∀ (x1_46 : Int32) (y1_46 : Int32) (g46 : St), jX8_readsSide_46 P a K x1_46 y1_46 g46 → V p l e rmX8_readsSide s m args below meth c 2 G (frA P sz) (MQ below (QcI G P sz K) args s 0 0 (frA P sz)) 0 0 P [(0, .ref a), (1, .int x1_46)] [.int y1_46, .ref a] 46 g46 := by
    intro x1_46 y1_46 g46  h
    unfold jX8_readsSide_46 at h
    refine v_pf o lpX8_155 (wfModel_o ha) (bzz h.1) dX8_readsSide_46 ?_
    replace h := h.2
    refine v_nmf (fun g46 eg46 => ?_)
    replace h := h g46 eg46
    refine v_aload_n o 0 dX8_readsSide_49 rfl ?_
    refine v_dup o dX8_readsSide_50 rfl ?_
    refine v_gfI o lkX8_152 (by decide) (wfModel_o ha) dX8_readsSide_51 ?_
    refine v_aload_n o 0 dX8_readsSide_54 rfl ?_
    refine v_gfI o lkX8_155 (by decide) (wfModel_o ha) dX8_readsSide_55 ?_
    refine v_if_eq o (tgt := 65) dX8_readsSide_58 (by decide) (fun c58 => ?_) (fun c58 => ?_)
    · replace h := h.1 c58
      refine v_iconst o (v := 0) dX8_readsSide_65 (by decide) ?_
      refine v_sub [0, 1] (lv2 := [(0, .ref a), (1, .int x1_46)]) rfl ?_
      exact J66 x1_46 (g46 a 18) 0 g46  h
    · replace h := h.2 c58
      refine v_iconst o (v := 1) dX8_readsSide_61 (by decide) ?_
      refine v_goto o (tgt := 66) dX8_readsSide_62 (by decide) ?_
      refine v_sub [0, 1] (lv2 := [(0, .ref a), (1, .int x1_46)]) rfl ?_
      exact J66 x1_46 (g46 a 18) 1 g46  h
  have J45 : ∀ (x1_45 : Int32) (g45 : St), jX8_readsSide_45 P a K x1_45 g45 → V p l e rmX8_readsSide s m args below meth c 2 G (frA P sz) (MQ below (QcI G P sz K) args s 0 0 (frA P sz)) 0 0 P [(0, .ref a), (1, .int x1_45)] [.ref a] 45 g45 := by
    intro x1_45 g45  h
    unfold jX8_readsSide_45 at h
    refine v_iconst o (v := 0) dX8_readsSide_45 (by decide) ?_
    refine v_sub [0, 1] (lv2 := [(0, .ref a), (1, .int x1_45)]) rfl ?_
    exact J46 x1_45 0 g45  h
  have J41 : ∀ (x1_41 : Int32) (g41 : St), jX8_readsSide_41 P a K x1_41 g41 → V p l e rmX8_readsSide s m args below meth c 2 G (frA P sz) (MQ below (QcI G P sz K) args s 0 0 (frA P sz)) 0 0 P [(0, .ref a), (1, .int x1_41)] [.ref a] 41 g41 := by
    intro x1_41 g41  h
    unfold jX8_readsSide_41 at h
    refine v_iconst o (v := 1) dX8_readsSide_41 (by decide) ?_
    refine v_goto o (tgt := 46) dX8_readsSide_42 (by decide) ?_
    refine v_sub [0, 1] (lv2 := [(0, .ref a), (1, .int x1_41)]) rfl ?_
    exact J46 x1_41 1 g41  h
  have J14 : ∀ (y0_14 : Int32) (g14 : St), jX8_readsSide_14 P a K y0_14 g14 → V p l e rmX8_readsSide s m args below meth c 2 G (frA P sz) (MQ below (QcI G P sz K) args s 0 0 (frA P sz)) 0 0 P [(0, .ref a)] [.int y0_14] 14 g14 := by
    intro y0_14 g14  h
    unfold jX8_readsSide_14 at h
    refine v_istore_n o (lv' := [(1, .int y0_14), (0, .ref a)]) dX8_readsSide_14 rfl (by decide) rfl ?_
    refine v_aload_n o 1 dX8_readsSide_15 rfl ?_
    refine v_aload_n o 1 dX8_readsSide_16 rfl ?_
    refine v_gfI o lkX8_155 (by decide) (wfModel_o ha) dX8_readsSide_17 ?_
    refine v_if_eq o (tgt := 45) dX8_readsSide_20 (by decide) (fun c20 => ?_) (fun c20 => ?_)
    · replace h := h.1 c20
      refine v_sub [1, 0] (lv2 := [(0, .ref a), (1, .int y0_14)]) rfl ?_
      exact J45 y0_14 g14  h
    · replace h := h.2 c20
      refine v_aload_n o 1 dX8_readsSide_23 rfl ?_
      refine v_cVi o [] [.ref a] (fun sz => metX8_sign l G P g14 sz a ha _ h) (cwX8_159 o.1.2.2.2.2 (by decide)) ⟨_, _, rfl⟩ (by decide) (wfModel_o ha) rfl (Nat.le_of_ble_eq_true rfl) ⟨Nat.le_of_ble_eq_true rfl, Nat.le_of_ble_eq_true rfl⟩ dX8_readsSide_24 rfl (fun r24 g24 h => ?_)
      refine v_bipush o (v := 43) dX8_readsSide_27 (by decide) ?_
      refine v_icmp_eq o (tgt := 41) dX8_readsSide_29 (by decide) (fun c29 => ?_) (fun c29 => ?_)
      · replace h := h.1 c29
        refine v_sub [1, 0] (lv2 := [(0, .ref a), (1, .int y0_14)]) rfl ?_
        exact J41 y0_14 g24  h
      · replace h := h.2 c29
        refine v_aload_n o 1 dX8_readsSide_32 rfl ?_
        refine v_cVi o [] [.ref a] (fun sz => metX8_sign l G P g24 sz a ha _ h) (cwX8_159 o.1.2.2.2.2 (by decide)) ⟨_, _, rfl⟩ (by decide) (wfModel_o ha) rfl (Nat.le_of_ble_eq_true rfl) ⟨Nat.le_of_ble_eq_true rfl, Nat.le_of_ble_eq_true rfl⟩ dX8_readsSide_33 rfl (fun r33 g33 h => ?_)
        refine v_bipush o (v := 45) dX8_readsSide_36 (by decide) ?_
        refine v_icmp_ne o (tgt := 45) dX8_readsSide_38 (by decide) (fun c38 => ?_) (fun c38 => ?_)
        · replace h := h.1 c38
          refine v_sub [1, 0] (lv2 := [(0, .ref a), (1, .int y0_14)]) rfl ?_
          exact J45 y0_14 g33  h
        · replace h := h.2 c38
          refine v_sub [1, 0] (lv2 := [(0, .ref a), (1, .int y0_14)]) rfl ?_
          exact J41 y0_14 g33  h
  unfold vX8_readsSide at h
  refine v_aload_n o 0 dX8_readsSide_0 rfl ?_
  refine v_cVi o [] [] (fun sz => metX8_sign l G P f sz a ha _ h) (cwX8_159 o.1.2.2.2.2 (by decide)) ⟨_, _, rfl⟩ (by decide) (wfModel_o ha) rfl (Nat.le_of_ble_eq_true rfl) ⟨Nat.le_of_ble_eq_true rfl, Nat.le_of_ble_eq_true rfl⟩ dX8_readsSide_1 rfl (fun r1 g1 h => ?_)
  refine v_bipush o (v := 43) dX8_readsSide_4 (by decide) ?_
  refine v_icmp_ne o (tgt := 13) dX8_readsSide_6 (by decide) (fun c6 => ?_) (fun c6 => ?_)
  · replace h := h.1 c6
    refine v_iconst o (v := 0) dX8_readsSide_13 (by decide) ?_
    refine v_sub [0] (lv2 := [(0, .ref a)]) rfl ?_
    exact J14 0 g1  h
  · replace h := h.2 c6
    refine v_iconst o (v := 1) dX8_readsSide_9 (by decide) ?_
    refine v_goto o (tgt := 14) dX8_readsSide_10 (by decide) ?_
    refine v_sub [0] (lv2 := [(0, .ref a)]) rfl ?_
    exact J14 1 g1  h
abbrev kX8_readsSide := @vX8_readsSide
abbrev metX8_readsSide := @mX8_readsSide
theorem u8_readsSide {P : Sk} {f : St} {a t wl : Nat} {b : List Nat} {K : Int32 → St → Prop} (hT : TxM f a b) (hk : Tok b) (ht : f a 18 = nI t) (ht6 : t ≤ 60) (hw : f a 19 = nI wl) (hw1 : wl ≤ 1)
  (hK1 : ∀ g, MF f g a (fun _ => False) (fun j => j = 18 ∨ j = 19) → wl = 1 → t < b.length → (b.getD t 0 = 43 ∨ b.getD t 0 = 45) → g a 18 = nI (t + 1) → g a 19 = 1 → K (nI (if b.getD t 0 = 43 then 1 else 0)) g)
  (hK0 : ∀ g v, MF f g a (fun _ => False) (fun j => j = 18 ∨ j = 19) → (wl = 1 → t < b.length → ¬ (b.getD t 0 = 43 ∨ b.getD t 0 = 45)) → g a 18 = nI t → g a 19 = 0 → K v g) : kX8_readsSide P f a K := by
  show vX8_readsSide P f a K
  unfold vX8_readsSide
  have s18 : ∀ v, setf f a 19 v a 18 = nI t := fun v => by rw [setf_off (Or.inr (by decide)), ht]
  have no : ∀ y0, (wl = 1 → t < b.length → ¬ (b.getD t 0 = 43 ∨ b.getD t 0 = 45)) → jX8_readsSide_46 P a K y0 0 f := by
    intro y0 hn
    unfold jX8_readsSide_46 jX8_readsSide_66
    refine ⟨Or.inl rfl, fun g e => ?_⟩
    have e18 : g a 18 = nI t := by rw [e, s18]
    have e19 : g a 19 = 0 := by rw [e, setf_same]
    refine ⟨fun _ g2 e2 => hK0 g2 y0 ?_ hn ?_ ?_, fun q => absurd e19 q⟩
    · rw [e2, e]
      exact (mf_fld f (Or.inr rfl)).trans (mf_fld _ (Or.inl rfl))
    · rw [e2, setf_same, e18, Int32.add_zero]
    · rw [e2, setf_off (Or.inr (by decide)), e19]
  have yes : wl = 1 → t < b.length → (b.getD t 0 = 43 ∨ b.getD t 0 = 45) → jX8_readsSide_46 P a K (nI (if b.getD t 0 = 43 then 1 else 0)) 1 f := by
    intro h1 htl hs
    unfold jX8_readsSide_46 jX8_readsSide_66
    refine ⟨Or.inr rfl, fun g e => ?_⟩
    have e18 : g a 18 = nI t := by rw [e, s18]
    have e19 : g a 19 = 1 := by rw [e, setf_same]
    refine ⟨fun q => absurd (e19.symm.trans q) (by decide), fun _ g2 e2 => hK1 g2 ?_ h1 htl hs ?_ ?_⟩
    · rw [e2, e]
      exact (mf_fld f (Or.inr rfl)).trans (mf_fld _ (Or.inl rfl))
    · rw [e2, setf_same, e18, nI_1]
    · rw [e2, setf_off (Or.inr (by decide)), e19]
  have key : ∀ y0, (t < b.length → y0 = nI (if b.getD t 0 = 43 then 1 else 0)) → jX8_readsSide_14 P a K y0 f := by
    intro y0 hy
    unfold jX8_readsSide_14 jX8_readsSide_41 jX8_readsSide_45
    have hwl : wl = 0 ∨ wl = 1 := by omega
    rcases hwl with h0 | h1
    · rw [hw, h0]
      exact ⟨fun _ => no y0 (fun q => absurd (h0.symm.trans q) (by decide)), fun q => absurd rfl q⟩
    · rw [hw, h1]
      refine ⟨fun q => absurd q (by decide), fun _ => ?_⟩
      refine u8_sign hT hk ht (by omega) (fun htl => ?_) (fun htl => ?_)
      · have hc := (hk.at htl).2
        rw [show (43 : Int32) = nI 43 from rfl, nI_eq (by omega) (by omega)]
        refine ⟨fun q => ?_, fun q => ?_⟩
        · rw [hy htl]
          exact yes h1 htl (Or.inl q)
        · refine u8_sign hT hk ht (by omega) (fun _ => ?_) (fun q => absurd htl (by omega))
          rw [show (45 : Int32) = nI 45 from rfl, nI_eq (by omega) (by omega)]
          refine ⟨fun q2 => no y0 (fun _ _ h => by omega), fun q2 => ?_⟩
          rw [hy htl]
          exact yes h1 htl (Or.inr q2)
      · refine ⟨fun q => absurd q (by decide), fun _ => u8_sign hT hk ht (by omega) (fun q => absurd q (by omega)) (fun _ => ⟨fun _ => no y0 (fun _ q => by omega), fun q => absurd q (by decide)⟩)⟩
  refine u8_sign hT hk ht (by omega) (fun htl => ?_) (fun htl => ?_)
  · have hc := (hk.at htl).2
    rw [show (43 : Int32) = nI 43 from rfl, nI_eq (by omega) (by omega)]
    refine ⟨fun q => key 0 (fun _ => ?_), fun q => key 1 (fun _ => ?_)⟩
    · rw [if_neg q]
      rfl
    · rw [if_pos q]
      rfl
  · exact ⟨fun _ => key 0 (fun q => by omega), fun q => absurd q (by decide)⟩

def jX8_readsLoaf_129 (P : Sk) (a : Nat) (L38 : St → Prop) (K : Int32 → St → Prop) (f : St) : Prop :=
  (f a 19 = 0 ∨ f a 19 = 1) ∧ K (f a 19) f
def jX8_readsLoaf_126 (P : Sk) (a : Nat) (L38 : St → Prop) (K : Int32 → St → Prop) (x1 : Int32) (x2 : Int32) (f : St) : Prop :=
  L38 f
def jX8_readsLoaf_71 (P : Sk) (a : Nat) (L38 : St → Prop) (K : Int32 → St → Prop) (y1 : Int32) (f : St) : Prop :=
  (y1 = 0 ∨ y1 = 1) ∧ (∀ g71 : St, g71 = setf f a 19 y1 → kX8_reads P g71 a 97 ((97 + (g71 a 10)) - 2) (fun r86 g86 => kX8_readsSide P g86 a (fun r91 g91 => (g91 a 19 = 0 → jX8_readsLoaf_126 P a L38 K r86 r91 g91) ∧ (¬ g91 a 19 = 0 → vp_in (g91 a 9) 50 ∧ (∀ g115 : St, g115 = setf g91 (a + 5) (g91 a 9).toNatClampNeg ((2 * r86) + r91) → ∀ g123 : St, g123 = setf g115 a 9 ((g115 a 9) + 1) → jX8_readsLoaf_126 P a L38 K r86 r91 g123)))))
def bX8_readsLoaf_38 (P : Sk) (a : Nat) (L38 : St → Prop) (K : Int32 → St → Prop) (f : St) : Prop :=
  (f a 19 = 0 → jX8_readsLoaf_129 P a L38 K  f) ∧ (¬ f a 19 = 0 → (f a 7 ≤ f a 18 → jX8_readsLoaf_129 P a L38 K  f) ∧ (¬ f a 7 ≤ f a 18 → (24 ≤ f a 9 → jX8_readsLoaf_71 P a L38 K 0 f) ∧ (¬ 24 ≤ f a 9 → jX8_readsLoaf_71 P a L38 K 1 f)))
def vX8_readsLoaf (P : Sk) (f : St) (a : Nat) (L38 : St → Prop) (K : Int32 → St → Prop) : Prop :=
  ∀ g2 : St, g2 = setf f a 18 0 → ∀ g7 : St, g7 = setf g2 a 19 1 → kX8_reads P g7 a 50 55 (fun r17 g17 => ∀ g21 : St, g21 = setf g17 a 10 (2 + r17) → kX8_reads P g21 a 58 58 (fun r29 g29 => ∀ g35 : St, g35 = setf g29 a 9 0 → L38 g35))
set_option maxRecDepth 20000 in
set_option maxHeartbeats 4000000 in
theorem mX8_readsLoaf (l : Launch) (G : Gl) (P : Sk) (f : St) (sz : Nat) (a : Nat) (ha : IsModel P a) (K : Int32 → St → Prop) (I38 : St → Prop) (μ38 : St → Nat) 
  (h : vX8_readsLoaf P f a I38 K)
  (h38 : ∀ (g : St) , I38 g  → bX8_readsLoaf_38 P a (fun g'  => I38 g'  ∧ μ38 g'  < μ38 g ) K g ) :
  Met l yX8_readsLoaf (wU yX8_readsLoaf cX8_readsLoaf 3 (some .boolean)) rmX8_readsLoaf (PcW G P f sz [.ref a]) (QcI G P sz K) 0 0 (frA P sz) := by
  refine v_met (own := RX8) [.ref a] (by decide +kernel) rfl (Nat.le_of_ble_eq_true rfl) (fun p e s m args below meth c hsz o hr hnm => ?_)
  refine v_lv (lv2 := [(0, .ref a)]) rfl ?_
  have main : ∀ n : Nat, (∀ (g : St) , I38 g  → μ38 g  < n → V p l e rmX8_readsLoaf s m args below meth c 3 G (frA P sz) (MQ below (QcI G P sz K) args s 0 0 (frA P sz)) 0 0 P [(0, .ref a)] [] 38 g) := by
    intro n
    induction n with
    | zero => exact fun g  hI hm => absurd hm (Nat.not_lt_zero _)
    | succ n ih =>
      intro g  hI hm
      have h := h38 g  hI
      clear hI
      have J129 : ∀ (g129 : St), jX8_readsLoaf_129 P a (fun g'  => I38 g'  ∧ μ38 g'  < μ38 g ) K  g129 → V p l e rmX8_readsLoaf s m args below meth c 3 G (frA P sz) (MQ below (QcI G P sz K) args s 0 0 (frA P sz)) 0 0 P [(0, .ref a)] [] 129 g129 := by
        intro  g129  h
        unfold jX8_readsLoaf_129 at h
        refine v_aload_n o 0 dX8_readsLoaf_129 rfl ?_
        refine v_gfI o lkX8_155 (by decide) (wfModel_o ha) dX8_readsLoaf_130 ?_
        exact v_zret o rfl hr (bzz h.1).1 dX8_readsLoaf_133 h.2
      have J126 : ∀ (x1_126 : Int32) (x2_126 : Int32) (g126 : St), jX8_readsLoaf_126 P a (fun g'  => I38 g'  ∧ μ38 g'  < μ38 g ) K x1_126 x2_126 g126 → V p l e rmX8_readsLoaf s m args below meth c 3 G (frA P sz) (MQ below (QcI G P sz K) args s 0 0 (frA P sz)) 0 0 P [(0, .ref a), (1, .int x1_126), (2, .int x2_126)] [] 126 g126 := by
        intro x1_126 x2_126 g126  h
        unfold jX8_readsLoaf_126 at h
        refine v_goto o (tgt := 38) dX8_readsLoaf_126 (by decide) ?_
        refine v_sub [0] (lv2 := [(0, .ref a)]) rfl ?_
        exact ih g126   h.1 (by have := h.2; omega)
      have J71 : ∀ (y1_71 : Int32) (g71 : St), jX8_readsLoaf_71 P a (fun g'  => I38 g'  ∧ μ38 g'  < μ38 g ) K y1_71 g71 → V p l e rmX8_readsLoaf s m args below meth c 3 G (frA P sz) (MQ below (QcI G P sz K) args s 0 0 (frA P sz)) 0 0 P [(0, .ref a)] [.int y1_71, .ref a] 71 g71 := by
        intro y1_71 g71  h
        unfold jX8_readsLoaf_71 at h
        refine v_pf o lpX8_155 (wfModel_o ha) (bzz h.1) dX8_readsLoaf_71 ?_
        replace h := h.2
        refine v_nmf (fun g71 eg71 => ?_)
        replace h := h g71 eg71
        refine v_aload_n o 0 dX8_readsLoaf_74 rfl ?_
        refine v_bipush o (v := 97) dX8_readsLoaf_75 (by decide) ?_
        refine v_bipush o (v := 97) dX8_readsLoaf_77 (by decide) ?_
        refine v_aload_n o 0 dX8_readsLoaf_79 rfl ?_
        refine v_gfI o lkX8_55 (by decide) (wfModel_o ha) dX8_readsLoaf_80 ?_
        refine v_iadd o dX8_readsLoaf_83 ?_
        refine v_iconst o (v := 2) dX8_readsLoaf_84 (by decide) ?_
        refine v_isub o dX8_readsLoaf_85 ?_
        refine v_cVi o [.int 97, .int ((97 + (g71 a 10)) - 2)] [] (fun sz => metX8_reads l G P g71 sz a ha 97 ((97 + (g71 a 10)) - 2) _ h) (cwX8_162 o.1.2.2.2.2 (by decide)) ⟨_, _, rfl⟩ (by decide) (wfModel_o ha) rfl (Nat.le_of_ble_eq_true rfl) ⟨Nat.le_of_ble_eq_true rfl, Nat.le_of_ble_eq_true rfl⟩ dX8_readsLoaf_86 rfl (fun r86 g86 h => ?_)
        refine v_istore_n o (lv' := [(1, .int r86), (0, .ref a)]) dX8_readsLoaf_89 rfl (by decide) rfl ?_
        refine v_aload_n o 1 dX8_readsLoaf_90 rfl ?_
        refine v_cVi o [] [] (fun sz => metX8_readsSide l G P g86 sz a ha _ h) (cwX8_165 o.1.2.2.2.2 (by decide)) ⟨_, _, rfl⟩ (by decide) (wfModel_o ha) rfl (Nat.le_of_ble_eq_true rfl) ⟨Nat.le_of_ble_eq_true rfl, Nat.le_of_ble_eq_true rfl⟩ dX8_readsLoaf_91 rfl (fun r91 g91 h => ?_)
        refine v_istore_n o (lv' := [(2, .int r91), (1, .int r86), (0, .ref a)]) dX8_readsLoaf_94 rfl (by decide) rfl ?_
        refine v_aload_n o 2 dX8_readsLoaf_95 rfl ?_
        refine v_gfI o lkX8_155 (by decide) (wfModel_o ha) dX8_readsLoaf_96 ?_
        refine v_if_eq o (tgt := 126) dX8_readsLoaf_99 (by decide) (fun c99 => ?_) (fun c99 => ?_)
        · replace h := h.1 c99
          refine v_sub [2, 1, 0] (lv2 := [(0, .ref a), (1, .int r86), (2, .int r91)]) rfl ?_
          exact J126 r86 r91 g91  h
        · replace h := h.2 c99
          refine v_aload_n o 2 dX8_readsLoaf_102 rfl ?_
          refine v_gfR o lkX8_22 (by decide) (wfModel_o ha) (wfModel_r8 ha) dX8_readsLoaf_103 ?_
          refine v_aload_n o 2 dX8_readsLoaf_106 rfl ?_
          refine v_gfI o lkX8_58 (by decide) (wfModel_o ha) dX8_readsLoaf_107 ?_
          refine v_iconst o (v := 2) dX8_readsLoaf_110 (by decide) ?_
          refine v_iload_n o 1 dX8_readsLoaf_111 rfl ?_
          refine v_imul o dX8_readsLoaf_112 ?_
          refine v_iload_n o 0 dX8_readsLoaf_113 rfl ?_
          refine v_iadd o dX8_readsLoaf_114 ?_
          refine v_iast o (wfModel_t8 ha) (wfModel_n8 ha) h.1 dX8_readsLoaf_115 ?_
          replace h := h.2
          refine v_nmf (fun g115 eg115 => ?_)
          replace h := h g115 eg115
          refine v_aload_n o 2 dX8_readsLoaf_116 rfl ?_
          refine v_dup o dX8_readsLoaf_117 rfl ?_
          refine v_gfI o lkX8_58 (by decide) (wfModel_o ha) dX8_readsLoaf_118 ?_
          refine v_iconst o (v := 1) dX8_readsLoaf_121 (by decide) ?_
          refine v_iadd o dX8_readsLoaf_122 ?_
          refine v_pf o lpX8_58 (wfModel_o ha) ⟨rfl, rfl⟩ dX8_readsLoaf_123 ?_
          refine v_nmf (fun g123 eg123 => ?_)
          replace h := h g123 eg123
          refine v_sub [2, 1, 0] (lv2 := [(0, .ref a), (1, .int r86), (2, .int r91)]) rfl ?_
          exact J126 r86 r91 g123  h
      unfold bX8_readsLoaf_38 at h
      refine v_aload_n o 0 dX8_readsLoaf_38 rfl ?_
      refine v_gfI o lkX8_155 (by decide) (wfModel_o ha) dX8_readsLoaf_39 ?_
      refine v_if_eq o (tgt := 129) dX8_readsLoaf_42 (by decide) (fun c42 => ?_) (fun c42 => ?_)
      · replace h := h.1 c42
        refine v_sub [0] (lv2 := [(0, .ref a)]) rfl ?_
        exact J129  g  h
      · replace h := h.2 c42
        refine v_aload_n o 0 dX8_readsLoaf_45 rfl ?_
        refine v_gfI o lkX8_152 (by decide) (wfModel_o ha) dX8_readsLoaf_46 ?_
        refine v_aload_n o 0 dX8_readsLoaf_49 rfl ?_
        refine v_gfI o lkX8_133 (by decide) (wfModel_o ha) dX8_readsLoaf_50 ?_
        refine v_icmp_ge o (tgt := 129) dX8_readsLoaf_53 (by decide) (fun c53 => ?_) (fun c53 => ?_)
        · replace h := h.1 c53
          refine v_sub [0] (lv2 := [(0, .ref a)]) rfl ?_
          exact J129  g  h
        · replace h := h.2 c53
          refine v_aload_n o 0 dX8_readsLoaf_56 rfl ?_
          refine v_aload_n o 0 dX8_readsLoaf_57 rfl ?_
          refine v_gfI o lkX8_58 (by decide) (wfModel_o ha) dX8_readsLoaf_58 ?_
          refine v_bipush o (v := 24) dX8_readsLoaf_61 (by decide) ?_
          refine v_icmp_ge o (tgt := 70) dX8_readsLoaf_63 (by decide) (fun c63 => ?_) (fun c63 => ?_)
          · replace h := h.1 c63
            refine v_iconst o (v := 0) dX8_readsLoaf_70 (by decide) ?_
            refine v_sub [0] (lv2 := [(0, .ref a)]) rfl ?_
            exact J71 0 g  h
          · replace h := h.2 c63
            refine v_iconst o (v := 1) dX8_readsLoaf_66 (by decide) ?_
            refine v_goto o (tgt := 71) dX8_readsLoaf_67 (by decide) ?_
            refine v_sub [0] (lv2 := [(0, .ref a)]) rfl ?_
            exact J71 1 g  h
  unfold vX8_readsLoaf at h
  refine v_aload_n o 0 dX8_readsLoaf_0 rfl ?_
  refine v_iconst o (v := 0) dX8_readsLoaf_1 (by decide) ?_
  refine v_pf o lpX8_152 (wfModel_o ha) ⟨rfl, rfl⟩ dX8_readsLoaf_2 ?_
  refine v_nmf (fun g2 eg2 => ?_)
  replace h := h g2 eg2
  refine v_aload_n o 0 dX8_readsLoaf_5 rfl ?_
  refine v_iconst o (v := 1) dX8_readsLoaf_6 (by decide) ?_
  refine v_pf o lpX8_155 (wfModel_o ha) bz1 dX8_readsLoaf_7 ?_
  refine v_nmf (fun g7 eg7 => ?_)
  replace h := h g7 eg7
  refine v_aload_n o 0 dX8_readsLoaf_10 rfl ?_
  refine v_iconst o (v := 2) dX8_readsLoaf_11 (by decide) ?_
  refine v_aload_n o 0 dX8_readsLoaf_12 rfl ?_
  refine v_bipush o (v := 50) dX8_readsLoaf_13 (by decide) ?_
  refine v_bipush o (v := 55) dX8_readsLoaf_15 (by decide) ?_
  refine v_cVi o [.int 50, .int 55] [.int 2, .ref a] (fun sz => metX8_reads l G P g7 sz a ha 50 55 _ h) (cwX8_162 o.1.2.2.2.2 (by decide)) ⟨_, _, rfl⟩ (by decide) (wfModel_o ha) rfl (Nat.le_of_ble_eq_true rfl) ⟨Nat.le_of_ble_eq_true rfl, Nat.le_of_ble_eq_true rfl⟩ dX8_readsLoaf_17 rfl (fun r17 g17 h => ?_)
  refine v_iadd o dX8_readsLoaf_20 ?_
  refine v_pf o lpX8_55 (wfModel_o ha) ⟨rfl, rfl⟩ dX8_readsLoaf_21 ?_
  refine v_nmf (fun g21 eg21 => ?_)
  replace h := h g21 eg21
  refine v_aload_n o 0 dX8_readsLoaf_24 rfl ?_
  refine v_bipush o (v := 58) dX8_readsLoaf_25 (by decide) ?_
  refine v_bipush o (v := 58) dX8_readsLoaf_27 (by decide) ?_
  refine v_cVi o [.int 58, .int 58] [] (fun sz => metX8_reads l G P g21 sz a ha 58 58 _ h) (cwX8_162 o.1.2.2.2.2 (by decide)) ⟨_, _, rfl⟩ (by decide) (wfModel_o ha) rfl (Nat.le_of_ble_eq_true rfl) ⟨Nat.le_of_ble_eq_true rfl, Nat.le_of_ble_eq_true rfl⟩ dX8_readsLoaf_29 rfl (fun r29 g29 h => ?_)
  refine v_pop o dX8_readsLoaf_32 rfl ?_
  refine v_aload_n o 0 dX8_readsLoaf_33 rfl ?_
  refine v_iconst o (v := 0) dX8_readsLoaf_34 (by decide) ?_
  refine v_pf o lpX8_58 (wfModel_o ha) ⟨rfl, rfl⟩ dX8_readsLoaf_35 ?_
  refine v_nmf (fun g35 eg35 => ?_)
  replace h := h g35 eg35
  refine v_sub [0] (lv2 := [(0, .ref a)]) rfl ?_
  exact (main (μ38 g35  + 1)) g35   h (Nat.lt_succ_self _)
def WX8_readsLoaf (P : Sk) (f : St) (a : Nat) (K : Int32 → St → Prop) : Prop := ∃ (I38 : St → Prop) (μ38 : St → Nat), (vX8_readsLoaf P f a I38 K) ∧ (∀ (g : St) , I38 g  → bX8_readsLoaf_38 P a (fun g'  => I38 g'  ∧ μ38 g'  < μ38 g ) K g)
def kX8_readsLoaf (P : Sk) (f : St) (a : Nat) (K : Int32 → St → Prop) : Prop := ∃ b, TxM f a b ∧ Tok b ∧ (∀ g, Scr f g a → LoafT b → MW g a (wdT b) → g a 10 = nI (b.getD 0 0 - 48) → g a 18 = nI b.length → K 1 g) ∧ ∀ g e, Scr f g a → ¬ LoafT b → FeL b e → g a 18 = nI e → K 0 g
theorem okL_at1 {b : List Nat} : okL b 1 ↔ b.getD 1 0 = 58 := by
  unfold okL
  rw [if_neg (show ¬ (1 : Nat) = 0 by decide), if_pos rfl]
theorem okL_at0 {b : List Nat} : okL b 0 ↔ 50 ≤ b.getD 0 0 ∧ b.getD 0 0 ≤ 55 := by
  unfold okL
  rw [if_pos rfl]
theorem okL_e {b : List Nat} {i : Nat} (h2 : 2 ≤ i) (he : i % 2 = 0) (h5 : i < 50) : okL b i ↔ 97 ≤ b.getD i 0 ∧ b.getD i 0 + 50 ≤ 97 + b.getD 0 0 := by
  unfold okL
  rw [if_neg (show ¬ i = 0 by omega), if_neg (show ¬ i = 1 by omega), if_neg (show ¬ 50 ≤ i by omega), if_pos he]
theorem okL_o {b : List Nat} {i : Nat} (h2 : 2 ≤ i) (he : ¬ i % 2 = 0) (h5 : i < 50) : okL b i ↔ (b.getD i 0 = 43 ∨ b.getD i 0 = 45) := by
  unfold okL
  rw [if_neg (show ¬ i = 0 by omega), if_neg (show ¬ i = 1 by omega), if_neg (show ¬ 50 ≤ i by omega), if_neg he]
theorem okL_50 {b : List Nat} : ¬ okL b 50 := by
  unfold okL
  rw [if_neg (show ¬ (50 : Nat) = 0 by decide), if_neg (show ¬ (50 : Nat) = 1 by decide), if_pos (show 50 ≤ 50 by decide)]
  exact id
theorem wX8_readsLoaf (P : Sk) (f : St) (a : Nat) (ha : IsModel P a) (K : Int32 → St → Prop) (h : kX8_readsLoaf P f a K) : WX8_readsLoaf P f a K := by
  obtain ⟨b, hT, hk, hK1, hK0⟩ := h
  have h6 := hk.1
  have scr2 : ∀ g g2, MF g g2 a (fun _ => False) (fun j => j = 18 ∨ j = 19) → Scr g g2 a := fun g g2 r => r.mono (fun i h => absurd h id) (fun j h => by omega)
  have txs : ∀ g g2, TxM g a b → Scr g g2 a → TxM g2 a b := fun g g2 t r => t.keep r (fun i h => by omega) (by omega)
  refine ⟨fun g => Scr f g a ∧ ((∃ k, g a 18 = nI (2 + 2 * k) ∧ 2 + 2 * k ≤ b.length ∧ g a 19 = 1 ∧ (∀ j, j < 2 + 2 * k → okL b j) ∧ MW g a ((wdT b).take k) ∧ g a 10 = nI (b.getD 0 0 - 48)) ∨ (∃ e, g a 18 = nI e ∧ g a 19 = 0 ∧ FeL b e ∧ ¬ LoafT b)), fun g => 60 - (g a 18).toNatClampNeg + (g a 19).toNatClampNeg, ?_, ?_⟩
  · unfold vX8_readsLoaf
    intro g2 e2 g7 e7
    have s7 : Scr f g7 a := by
      rw [e7, e2]
      exact (mf_fld f (by omega)).trans (mf_fld _ (by omega))
    have t7 := txs f g7 hT s7
    have a18 : g7 a 18 = nI 0 := by
      rw [e7, setf_off (Or.inr (by decide)), e2, setf_same]
      rfl
    have a19 : g7 a 19 = nI 1 := by
      rw [e7, setf_same]
      rfl
    refine u8_reads (lo := 50) (hi := 55) t7 hk a18 (by omega) a19 (by decide) (by decide) (by decide) (by decide) (fun g r _ h0 q1 q2 b18 b19 => ?_) (fun g v r hn b18 b19 => ?_)
    · intro g21 e21
      have s21 : Scr f g21 a := by
        rw [e21]
        exact s7.trans ((scr2 _ _ r).trans (mf_fld _ (by omega)))
      have c18 : g21 a 18 = nI 1 := by
        rw [e21, setf_off (Or.inr (by decide)), b18]
      have c19 : g21 a 19 = nI 1 := by
        rw [e21, setf_off (Or.inr (by decide)), b19]
        rfl
      have c10 : g21 a 10 = nI (b.getD 0 0 - 48) := by
        rw [e21, setf_same, show (2 : Int32) = nI 2 from rfl, nI_add]
        congr 1
        omega
      have ok0 : okL b 0 := okL_at0.mpr ⟨q1, q2⟩
      refine u8_reads (lo := 58) (hi := 58) (txs f g21 hT s21) hk c18 (by omega) c19 (by decide) (by decide) (by decide) (by decide) (fun g2 r2 _ h1 p1 p2 d18 d19 => ?_) (fun g2 v2 r2 hn2 d18 d19 => ?_)
      · intro g3 e3
        refine ⟨?_, Or.inl ⟨0, ?_, by omega, ?_, fun j hj => ?_, ⟨?_, fun i hi => absurd hi (Nat.not_lt_zero _)⟩, ?_⟩⟩
        · rw [e3]
          exact s21.trans ((scr2 _ _ r2).trans (mf_fld _ (by omega)))
        · rw [e3, setf_off (Or.inr (by decide)), d18]
        · rw [e3, setf_off (Or.inr (by decide)), d19]
        · by_cases c : j = 0
          · rw [c]
            exact ok0
          · rw [show j = 1 by omega]
            exact okL_at1.mpr (by omega)
        · rw [e3, setf_same]
          rfl
        · rw [e3, setf_off (Or.inr (by decide)), r2.2 10 (by omega), c10]
      · intro g3 e3
        refine ⟨?_, Or.inr ⟨1, ?_, ?_, ⟨by omega, fun j hj => ?_, ?_⟩, fun hl => ?_⟩⟩
        · rw [e3]
          exact s21.trans ((scr2 _ _ r2).trans (mf_fld _ (by omega)))
        · rw [e3, setf_off (Or.inr (by decide)), d18]
        · rw [e3, setf_off (Or.inr (by decide)), d19]
        · rw [show j = 0 by omega]
          exact ok0
        · by_cases c : 1 = b.length
          · exact Or.inl c
          · refine Or.inr (fun o => hn2 rfl (by omega) ?_)
            have := okL_at1.mp o
            omega
        · have h2 := hl.1
          have := okL_at1.mp (hl.2.2 1 (by omega))
          exact hn2 rfl (by omega) (by omega)
    · intro g21 e21
      have s21 : Scr f g21 a := by
        rw [e21]
        exact s7.trans ((scr2 _ _ r).trans (mf_fld _ (by omega)))
      have c18 : g21 a 18 = nI 0 := by
        rw [e21, setf_off (Or.inr (by decide)), b18]
      have c19 : g21 a 19 = nI 0 := by
        rw [e21, setf_off (Or.inr (by decide)), b19]
        rfl
      refine u8_reads (lo := 58) (hi := 58) (txs f g21 hT s21) hk c18 (by omega) c19 (by decide) (by decide) (by decide) (by decide) (fun g2 r2 q _ _ _ _ _ => absurd q (by decide)) (fun g2 v2 r2 hn2 d18 d19 => ?_)
      intro g3 e3
      refine ⟨?_, Or.inr ⟨0, ?_, ?_, ⟨by omega, fun j hj => absurd hj (Nat.not_lt_zero _), ?_⟩, fun hl => ?_⟩⟩
      · rw [e3]
        exact s21.trans ((scr2 _ _ r2).trans (mf_fld _ (by omega)))
      · rw [e3, setf_off (Or.inr (by decide)), d18]
      · rw [e3, setf_off (Or.inr (by decide)), d19]
      · by_cases c : 0 = b.length
        · exact Or.inl c
        · exact Or.inr (fun o => hn rfl (by omega) (okL_at0.mp o))
      · have h2 := hl.1
        exact hn rfl (by omega) (okL_at0.mp (hl.2.2 0 (by omega)))
  · rintro g ⟨hs, hx⟩
    unfold bX8_readsLoaf_38 jX8_readsLoaf_129
    rcases hx with ⟨k, a18, hkl, a19, hok, hm, h10⟩ | ⟨e, a18, a19, hfe, hnl⟩
    · have hT2 := txs f g hT hs
      have hkw : (wdT b).length = (b.length - 2) / 2 := wdT_len b
      have hlen : ((wdT b).take k).length = k := by
        rw [List.length_take]
        omega
      have ok0 := okL_at0.mp (hok 0 (by omega))
      rw [a19, hT2.1, a18, hm.1, hlen, nI_leI (by omega) (by omega), show (24 : Int32) = nI 24 from rfl, nI_leI (by omega) (by omega)]
      refine ⟨fun q => absurd q (by decide), fun _ => ⟨fun q => ⟨Or.inr rfl, ?_⟩, fun q => ?_⟩⟩
      · have hL : LoafT b := ⟨by omega, by omega, fun j hj => hok j (by omega)⟩
        have ew : (wdT b).take k = wdT b := List.take_of_length_le (by omega)
        rw [ew] at hm
        refine hK1 g hs hL hm h10 ?_
        rw [a18]
        congr 1
        omega
      · have bad : ∀ (g2 : St) (e : Nat), Scr f g2 a → g2 a 18 = nI e → g2 a 19 = 0 → 2 + 2 * k ≤ e → e ≤ 60 → FeL b e → ¬ LoafT b → (Scr f g2 a ∧ ((∃ k, g2 a 18 = nI (2 + 2 * k) ∧ 2 + 2 * k ≤ b.length ∧ g2 a 19 = 1 ∧ (∀ j, j < 2 + 2 * k → okL b j) ∧ MW g2 a ((wdT b).take k) ∧ g2 a 10 = nI (b.getD 0 0 - 48)) ∨ (∃ e, g2 a 18 = nI e ∧ g2 a 19 = 0 ∧ FeL b e ∧ ¬ LoafT b))) ∧ 60 - (g2 a 18).toNatClampNeg + (g2 a 19).toNatClampNeg < 60 - (g a 18).toNatClampNeg + (g a 19).toNatClampNeg := by
          intro g2 e s b18 b19 he he6 fe nl
          refine ⟨⟨s, Or.inr ⟨e, b18, b19, fe, nl⟩⟩, ?_⟩
          rw [b18, b19, a18, a19, nI_clamp (by omega), nI_clamp (by omega), tn0, tn1]
          omega
        unfold jX8_readsLoaf_71 jX8_readsLoaf_126
        have e97 : ∀ g2 : St, g2 a 10 = nI (b.getD 0 0 - 48) → (97 : Int32) + g2 a 10 - 2 = nI (97 + (b.getD 0 0 - 48) - 2) := fun g2 e => by
          rw [e, show (97 : Int32) = nI 97 from rfl, show (2 : Int32) = nI 2 from rfl, nI_add, pk_sub (by omega)]
        refine ⟨fun q24 => ⟨Or.inl rfl, fun g1 e1 => ?_⟩, fun q24 => ⟨Or.inr rfl, fun g1 e1 => ?_⟩⟩
        · have s1 : Scr f g1 a := by
            rw [e1]
            exact hs.trans (mf_fld _ (by omega))
          have b18 : g1 a 18 = nI (2 + 2 * k) := by rw [e1, setf_off (Or.inr (by decide)), a18]
          have b19 : g1 a 19 = nI 0 := by
            rw [e1, setf_same]
            rfl
          have b10 : g1 a 10 = nI (b.getD 0 0 - 48) := by rw [e1, setf_off (Or.inr (by decide)), h10]
          rw [e97 g1 b10]
          refine u8_reads (lo := 97) (txs f g1 hT s1) hk b18 (by omega) b19 (by decide) (by decide) (by decide) (by omega) (fun g2 _ q _ _ _ _ _ => absurd q (by decide)) (fun g2 v2 r2 _ c18 c19 => ?_)
          have s2 := s1.trans (scr2 _ _ r2)
          refine u8_readsSide (wl := 0) (txs f g2 hT s2) hk c18 (by omega) c19 (by decide) (fun g3 _ q _ _ _ _ => absurd q (by decide)) (fun g3 v3 r3 _ d18 d19 => ?_)
          refine ⟨fun _ => bad g3 (2 + 2 * k) (s2.trans (scr2 _ _ r3)) d18 d19 (Nat.le_refl _) (by omega) ⟨by omega, hok, Or.inr ?_⟩ (fun hl => ?_), fun q => absurd d19 q⟩
          · by_cases c : k = 24
            · rw [c]
              exact okL_50
            · exact absurd (hok 50 (by omega)) okL_50
          · exact okL_50 (hl.2.2 50 (by omega))
        · have s1 : Scr f g1 a := by
            rw [e1]
            exact hs.trans (mf_fld _ (by omega))
          have b18 : g1 a 18 = nI (2 + 2 * k) := by rw [e1, setf_off (Or.inr (by decide)), a18]
          have b19 : g1 a 19 = nI 1 := by
            rw [e1, setf_same]
            rfl
          have b10 : g1 a 10 = nI (b.getD 0 0 - 48) := by rw [e1, setf_off (Or.inr (by decide)), h10]
          have m1 : MW g1 a ((wdT b).take k) := by
            rw [e1]
            exact hm.keep (A := fun _ => False) (J := fun j => j = 19) (mf_fld _ rfl) (fun i h => absurd h id) (by decide)
          have oke := okL_e (b := b) (i := 2 + 2 * k) (by omega) (by omega) (by omega)
          have oko := okL_o (b := b) (i := 2 + 2 * k + 1) (by omega) (by omega) (by omega)
          rw [e97 g1 b10]
          refine u8_reads (lo := 97) (txs f g1 hT s1) hk b18 (by omega) b19 (by decide) (by decide) (by decide) (by omega) (fun g2 r2 _ ht q1 q2 c18 c19 => ?_) (fun g2 v2 r2 hn c18 c19 => ?_)
          · have s2 := s1.trans (scr2 _ _ r2)
            have okE := oke.mpr ⟨q1, by omega⟩
            have m2 : MW g2 a ((wdT b).take k) := m1.keep r2 (fun i h => absurd h id) (by omega)
            have n2 : g2 a 10 = nI (b.getD 0 0 - 48) := by rw [r2.2 10 (by omega), b10]
            refine u8_readsSide (wl := 1) (txs f g2 hT s2) hk c18 (by omega) c19 (by decide) (fun g3 r3 _ ht3 hsd d18 d19 => ?_) (fun g3 v3 r3 hn3 d18 d19 => ?_)
            · have s3 := s2.trans (scr2 _ _ r3)
              have m3 : MW g3 a ((wdT b).take k) := m2.keep r3 (fun i h => absurd h id) (by omega)
              have n3 : g3 a 10 = nI (b.getD 0 0 - 48) := by rw [r3.2 10 (by omega), n2]
              refine ⟨fun q => absurd (d19.symm.trans q) (by decide), fun _ => ?_⟩
              rw [m3.1, hlen, nI_clamp (by omega), show (2 : Int32) = nI 2 from rfl, nI_mul, nI_add]
              refine ⟨vp_nI (by omega) (by decide), fun g4 e4 g5 e5 => ?_⟩
              have f9 : g4 a 9 = nI k := by rw [e4, setf_off (Or.inl (by omega)), m3.1, hlen]
              rw [f9, nI_1] at e5
              have e4b : g4 = setf g3 (a + 5) ((wdT b).take k).length (nI (2 * (b.getD (2 + 2 * k) 0 - 97) + (if b.getD (2 + 2 * k + 1) 0 = 43 then 1 else 0))) := by rw [hlen]; exact e4
              have e5b : g5 = setf g4 a 9 (nI (((wdT b).take k).length + 1)) := by rw [hlen]; exact e5
              obtain ⟨m5, r5⟩ := mw_snoc m3 e4b e5b
              have ew : (wdT b).take k ++ [2 * (b.getD (2 + 2 * k) 0 - 97) + (if b.getD (2 + 2 * k + 1) 0 = 43 then 1 else 0)] = (wdT b).take (k + 1) := by
                rw [take_snoc (wdT b) k (by omega), wdT_at b (by omega), show 3 + 2 * k = 2 + 2 * k + 1 by omega]
              rw [ew] at m5
              have g18 : g5 a 18 = nI (2 + 2 * (k + 1)) := by
                rw [r5.2 18 (by omega), d18]
                congr 1
              have g19 : g5 a 19 = 1 := by rw [r5.2 19 (by omega), d19]
              refine ⟨⟨s3.trans (r5.mono (fun i h => by omega) (fun j h => by omega)), Or.inl ⟨k + 1, g18, by omega, g19, fun j hj => ?_, m5, ?_⟩⟩, ?_⟩
              · by_cases c1 : j < 2 + 2 * k
                · exact hok j c1
                · by_cases c2 : j = 2 + 2 * k
                  · rw [c2]
                    exact okE
                  · rw [show j = 2 + 2 * k + 1 by omega]
                    exact oko.mpr hsd
              · rw [r5.2 10 (by omega), n3]
              · show 60 - (g5 a 18).toNatClampNeg + (g5 a 19).toNatClampNeg < 60 - (g a 18).toNatClampNeg + (g a 19).toNatClampNeg
                rw [g18, g19, a18, a19, nI_clamp (by omega), nI_clamp (by omega)]
                omega
            · refine ⟨fun _ => bad g3 (2 + 2 * k + 1) (s2.trans (scr2 _ _ r3)) d18 d19 (by omega) (by omega) ⟨by omega, fun j hj => ?_, ?_⟩ (fun hl => ?_), fun q => absurd d19 q⟩
              · by_cases c1 : j < 2 + 2 * k
                · exact hok j c1
                · rw [show j = 2 + 2 * k by omega]
                  exact okE
              · by_cases c : 2 + 2 * k + 1 = b.length
                · exact Or.inl c
                · exact Or.inr (fun o => hn3 rfl (by omega) (oko.mp o))
              · have h2 := hl.2.1
                exact hn3 rfl (by omega) (oko.mp (hl.2.2 _ (by omega)))
          · have s2 := s1.trans (scr2 _ _ r2)
            have nok : ¬ okL b (2 + 2 * k) := fun o => by
              have := oke.mp o
              exact hn rfl (by omega) ⟨this.1, by omega⟩
            refine u8_readsSide (wl := 0) (txs f g2 hT s2) hk c18 (by omega) c19 (by decide) (fun g3 _ q _ _ _ _ => absurd q (by decide)) (fun g3 v3 r3 _ d18 d19 => ?_)
            exact ⟨fun _ => bad g3 (2 + 2 * k) (s2.trans (scr2 _ _ r3)) d18 d19 (Nat.le_refl _) (by omega) ⟨by omega, hok, Or.inr nok⟩ (fun hl => nok (hl.2.2 _ (by omega))), fun q => absurd d19 q⟩
    · rw [a19]
      exact ⟨fun _ => ⟨Or.inl rfl, hK0 g e hs hnl hfe a18⟩, fun q => absurd rfl q⟩

theorem metX8_readsLoaf (l : Launch) (G : Gl) (P : Sk) (f : St) (sz : Nat) (a : Nat) (ha : IsModel P a) (K : Int32 → St → Prop) (h : kX8_readsLoaf P f a K) : Met l yX8_readsLoaf (wU yX8_readsLoaf cX8_readsLoaf 3 (some .boolean)) rmX8_readsLoaf (PcW G P f sz [.ref a]) (QcI G P sz K) 0 0 (frA P sz) := by
  obtain ⟨I38, μ38, qh, qh38⟩ := wX8_readsLoaf P f a ha K h
  exact mX8_readsLoaf l G P f sz a ha K I38 μ38 qh qh38

