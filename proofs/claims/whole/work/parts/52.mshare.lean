def vJxe99ae_isNaN_b9ae7 (P : Sk) (f : St) (p0 : UInt64) (K : Int32 → St → Prop) : Prop :=
  (Op.cmpValue (FP.dcmp p0 p0) .l = 0 → K 0 f) ∧ (¬ Op.cmpValue (FP.dcmp p0 p0) .l = 0 → K 1 f)
set_option maxRecDepth 20000 in
set_option maxHeartbeats 4000000 in
theorem mJxe99ae_isNaN_b9ae7 (l : Launch) (G : Gl) (P : Sk) (f : St) (sz : Nat) (p0 : UInt64) (K : Int32 → St → Prop) (h : vJxe99ae_isNaN_b9ae7 P f p0 K)  :
  Met l yJxe99ae_isNaN_b9ae7 (wU yJxe99ae_isNaN_b9ae7 cJxe99ae_isNaN_b9ae7 2 (some .boolean)) rmJxe99ae_isNaN_b9ae7 (PcW G P f sz [.double p0]) (QcI G P sz K) 0 0 (frA P sz) := by
  refine v_met (own := RJxe99ae) [.double p0] (by decide +kernel) rfl (Nat.le_of_ble_eq_true rfl) (fun p e s m args below meth c hsz o hr hnm => ?_)
  refine v_lv (lv2 := [(0, .double p0)]) rfl ?_
  unfold vJxe99ae_isNaN_b9ae7 at h
  refine v_dload_n o 0 dJxe99ae_isNaN_b9ae7_0 rfl ?_
  refine v_dload_n o 0 dJxe99ae_isNaN_b9ae7_1 rfl ?_
  refine v_dcmp o dJxe99ae_isNaN_b9ae7_2 ?_
  refine v_if_eq o (tgt := 10) dJxe99ae_isNaN_b9ae7_3 (by decide) (fun c3 => ?_) (fun c3 => ?_)
  · replace h := h.1 c3
    refine v_iconst o (v := 0) dJxe99ae_isNaN_b9ae7_10 (by decide) ?_
    exact v_zret o rfl hr bz0.1 dJxe99ae_isNaN_b9ae7_11 h
  · replace h := h.2 c3
    refine v_iconst o (v := 1) dJxe99ae_isNaN_b9ae7_6 (by decide) ?_
    refine v_goto o (tgt := 11) dJxe99ae_isNaN_b9ae7_7 (by decide) ?_
    exact v_zret o rfl hr bz1.1 dJxe99ae_isNaN_b9ae7_11 h
abbrev kJxe99ae_isNaN_b9ae7 := @vJxe99ae_isNaN_b9ae7
abbrev metJxe99ae_isNaN_b9ae7 := @mJxe99ae_isNaN_b9ae7

def vJxe99ae_doubleToLongBits_ccdee (P : Sk) (f : St) (p0 : UInt64) (K : Int64 → St → Prop) : Prop :=
  kJxe99ae_isNaN_b9ae7 P f p0 (fun r1 g1 => (¬ r1 = 0 → K 9221120237041090560 g1) ∧ (r1 = 0 → K (p0.toInt64) g1))
set_option maxRecDepth 20000 in
set_option maxHeartbeats 4000000 in
theorem mJxe99ae_doubleToLongBits_ccdee (l : Launch) (G : Gl) (P : Sk) (f : St) (sz : Nat) (p0 : UInt64) (K : Int64 → St → Prop) (h : vJxe99ae_doubleToLongBits_ccdee P f p0 K)  :
  Met l yJxe99ae_doubleToLongBits_ccdee (wU yJxe99ae_doubleToLongBits_ccdee cJxe99ae_doubleToLongBits_ccdee 2 (some .long)) rmJxe99ae_doubleToLongBits_ccdee (PcW G P f sz [.double p0]) (QcL G P sz K) 0 0 (frA P sz) := by
  refine v_met (own := RJxe99ae) [.double p0] (by decide +kernel) rfl (Nat.le_of_ble_eq_true rfl) (fun p e s m args below meth c hsz o hr hnm => ?_)
  refine v_lv (lv2 := [(0, .double p0)]) rfl ?_
  unfold vJxe99ae_doubleToLongBits_ccdee at h
  refine v_dload_n o 0 dJxe99ae_doubleToLongBits_ccdee_0 rfl ?_
  refine v_cSi o [.double p0] [] (fun sz => metJxe99ae_isNaN_b9ae7 l G P f sz p0 _ h) (cwJxe99ae_122 o.1.2.2.2.2 (by decide)) rfl (Nat.le_of_ble_eq_true rfl) ⟨Nat.le_of_ble_eq_true rfl, Nat.le_of_ble_eq_true rfl⟩ dJxe99ae_doubleToLongBits_ccdee_1 rfl (fun r1 g1 h => ?_)
  refine v_if_ne o (tgt := 12) dJxe99ae_doubleToLongBits_ccdee_4 (by decide) (fun c4 => ?_) (fun c4 => ?_)
  · replace h := h.1 c4
    refine v_ldc2 o (v := 9221120237041090560) dJxe99ae_doubleToLongBits_ccdee_12 (mU 1421 (by decide +kernel) rfl) ?_
    exact v_lret o rfl hr dJxe99ae_doubleToLongBits_ccdee_15 h
  · replace h := h.2 c4
    refine v_dload_n o 0 dJxe99ae_doubleToLongBits_ccdee_7 rfl ?_
    refine v_drb o (mU 1418 (by decide +kernel) rfl) (mU 1420 (by decide +kernel) rfl) (mU 1419 (by decide +kernel) rfl) (mU 99 (by decide +kernel) rfl) (by decide) (by decide) dJxe99ae_doubleToLongBits_ccdee_8 ?_
    exact v_lret o rfl hr dJxe99ae_doubleToLongBits_ccdee_11 h
abbrev kJxe99ae_doubleToLongBits_ccdee := @vJxe99ae_doubleToLongBits_ccdee
abbrev metJxe99ae_doubleToLongBits_ccdee := @mJxe99ae_doubleToLongBits_ccdee
theorem ux_bits {P : Sk} {f : St} {d : UInt64} {K : Int64 → St → Prop} (h : vf_n64 d) (hK : K d.toInt64 f) : kJxe99ae_doubleToLongBits_ccdee P f d K := by
  show vJxe99ae_doubleToLongBits_ccdee P f d K
  unfold vJxe99ae_doubleToLongBits_ccdee
  show vJxe99ae_isNaN_b9ae7 P f d _
  unfold vJxe99ae_isNaN_b9ae7
  rw [dc_nn h]
  exact ⟨fun _ => ⟨fun q => absurd rfl q, fun _ => hK⟩, fun q => absurd rfl q⟩

def bX8_share_4 (P : Sk) (a : Nat) (L4 : St → Int32 → Int32 → Prop) (K : UInt64 → St → Prop) (f : St) (x1 : Int32) (x2 : Int32) : Prop :=
  vp_in 0 160 ∧ ((f (a + 1) ((0 : Int32)).toNatClampNeg ≤ x2 → kX8_crossings P f a (fun r29 g29 => (¬ r29 = 0 → kX8_crossings P g29 a (fun r42 g42 => vf_n64 (FP.ddiv (FP.i2d x1) (FP.i2d r42)) ∧ (K (FP.ddiv (FP.i2d x1) (FP.i2d r42)) g42))) ∧ (r29 = 0 → K (FP.dconst1) g29))) ∧ (¬ f (a + 1) ((0 : Int32)).toNatClampNeg ≤ x2 → kX8_looseLength P f a x2 (fun r17 g17 => ∀ x1_21 : Int32, x1_21 = x1 + r17 → ∀ x2_22 : Int32, x2_22 = x2 + 1 → L4 g17 x1_21 x2_22)))
def vX8_share (P : Sk) (f : St) (a : Nat) (L4 : St → Int32 → Int32 → Prop) (K : UInt64 → St → Prop) : Prop :=
  L4 f 0 0
set_option maxRecDepth 20000 in
set_option maxHeartbeats 4000000 in
theorem mX8_share (l : Launch) (G : Gl) (P : Sk) (f : St) (sz : Nat) (a : Nat) (ha : IsModel P a) (K : UInt64 → St → Prop) (I4 : St → Int32 → Int32 → Prop) (μ4 : St → Int32 → Int32 → Nat) 
  (h : vX8_share P f a I4 K)
  (h4 : ∀ (g : St) (x1 : Int32) (x2 : Int32) , I4 g x1 x2 → bX8_share_4 P a (fun g' z0 z1 => I4 g' z0 z1 ∧ μ4 g' z0 z1 < μ4 g x1 x2) K g x1 x2) :
  Met l yX8_share (wU yX8_share cX8_share 3 (some .double)) rmX8_share (PcW G P f sz [.ref a]) (QcD G P sz K) 0 0 (frA P sz) := by
  refine v_met (own := RX8) [.ref a] (by decide +kernel) rfl (Nat.le_of_ble_eq_true rfl) (fun p e s m args below meth c hsz o hr hnm => ?_)
  refine v_lv (lv2 := [(0, .ref a)]) rfl ?_
  have main : ∀ n : Nat, (∀ (g : St) (x1 : Int32) (x2 : Int32) , I4 g x1 x2 → μ4 g x1 x2 < n → V p l e rmX8_share s m args below meth c 3 G (frA P sz) (MQ below (QcD G P sz K) args s 0 0 (frA P sz)) 0 0 P [(0, .ref a), (1, .int x1), (2, .int x2)] [] 4 g) := by
    intro n
    induction n with
    | zero => exact fun g x1 x2 hI hm => absurd hm (Nat.not_lt_zero _)
    | succ n ih =>
      intro g x1 x2 hI hm
      have h := h4 g x1 x2 hI
      clear hI
      unfold bX8_share_4 at h
      refine v_iload_n o 2 dX8_share_4 rfl ?_
      refine v_aload_n o 0 dX8_share_5 rfl ?_
      refine v_gfR o lkX8_7 (by decide) (wfModel_o ha) (wfModel_r1 ha) dX8_share_6 ?_
      refine v_iconst o (v := 0) dX8_share_9 (by decide) ?_
      refine v_iald o (wfModel_t1 ha) (wfModel_n1 ha) h.1 dX8_share_10 ?_
      replace h := h.2
      refine v_icmp_ge o (tgt := 28) dX8_share_11 (by decide) (fun c11 => ?_) (fun c11 => ?_)
      · replace h := h.1 c11
        refine v_aload_n o 0 dX8_share_28 rfl ?_
        refine v_cVi o [] [] (fun sz => metX8_crossings l G P g sz a ha _ h) (cwX8_232 o.1.2.2.2.2 (by decide)) ⟨_, _, rfl⟩ (by decide) (wfModel_o ha) rfl (Nat.le_of_ble_eq_true rfl) ⟨Nat.le_of_ble_eq_true rfl, Nat.le_of_ble_eq_true rfl⟩ dX8_share_29 rfl (fun r29 g29 h => ?_)
        refine v_if_ne o (tgt := 39) dX8_share_32 (by decide) (fun c32 => ?_) (fun c32 => ?_)
        · replace h := h.1 c32
          refine v_iload_n o 1 dX8_share_39 rfl ?_
          refine v_i2d o dX8_share_40 ?_
          refine v_aload_n o 0 dX8_share_41 rfl ?_
          refine v_cVi o [] [.double (FP.i2d x1)] (fun sz => metX8_crossings l G P g29 sz a ha _ h) (cwX8_232 o.1.2.2.2.2 (by decide)) ⟨_, _, rfl⟩ (by decide) (wfModel_o ha) rfl (Nat.le_of_ble_eq_true rfl) ⟨Nat.le_of_ble_eq_true rfl, Nat.le_of_ble_eq_true rfl⟩ dX8_share_42 rfl (fun r42 g42 h => ?_)
          refine v_i2d o dX8_share_45 ?_
          refine v_ddiv o dX8_share_46 h.1 ?_
          replace h := h.2
          exact v_dret o rfl hr dX8_share_47 h
        · replace h := h.2 c32
          refine v_dconst1 o dX8_share_35 ?_
          refine v_goto o (tgt := 47) dX8_share_36 (by decide) ?_
          exact v_dret o rfl hr dX8_share_47 h
      · replace h := h.2 c11
        refine v_iload_n o 1 dX8_share_14 rfl ?_
        refine v_aload_n o 0 dX8_share_15 rfl ?_
        refine v_iload_n o 2 dX8_share_16 rfl ?_
        refine v_cVi o [.int x2] [.int x1] (fun sz => metX8_looseLength l G P g sz a ha x2 _ h) (cwX8_217 o.1.2.2.2.2 (by decide)) ⟨_, _, rfl⟩ (by decide) (wfModel_o ha) rfl (Nat.le_of_ble_eq_true rfl) ⟨Nat.le_of_ble_eq_true rfl, Nat.le_of_ble_eq_true rfl⟩ dX8_share_17 rfl (fun r17 g17 h => ?_)
        refine v_iadd o dX8_share_20 ?_
        refine v_topi (fun x1_21 ex1_21 => ?_)
        replace h := h x1_21 ex1_21
        refine v_istore_n o (lv' := [(1, .int x1_21), (0, .ref a), (2, .int x2)]) dX8_share_21 rfl (by decide) rfl ?_
        obtain ⟨x2_22, ex2_22⟩ : ∃ y : Int32, y = x2 + 1 := ⟨_, rfl⟩
        replace h := h x2_22 ex2_22
        refine v_iinc o (v := x2_22) (lv' := [(2, .int x2_22), (1, .int x1_21), (0, .ref a)]) 2 dX8_share_22 rfl (by rw [ex2_22]; rfl) (by decide) rfl ?_
        refine v_goto o (tgt := 4) dX8_share_25 (by decide) ?_
        refine v_sub [2, 1, 0] (lv2 := [(0, .ref a), (1, .int x1_21), (2, .int x2_22)]) rfl ?_
        exact ih g17 x1_21 x2_22  h.1 (by have := h.2; omega)
  unfold vX8_share at h
  refine v_iconst o (v := 0) dX8_share_0 (by decide) ?_
  refine v_istore_n o (lv' := [(1, .int 0), (0, .ref a)]) dX8_share_1 rfl (by decide) rfl ?_
  refine v_iconst o (v := 0) dX8_share_2 (by decide) ?_
  refine v_istore_n o (lv' := [(2, .int 0), (1, .int 0), (0, .ref a)]) dX8_share_3 rfl (by decide) rfl ?_
  refine v_sub [2, 1, 0] (lv2 := [(0, .ref a), (1, .int 0), (2, .int 0)]) rfl ?_
  exact (main (μ4 f 0 0 + 1)) f 0 0  h (Nat.lt_succ_self _)
def WX8_share (P : Sk) (f : St) (a : Nat) (K : UInt64 → St → Prop) : Prop := ∃ (I4 : St → Int32 → Int32 → Prop) (μ4 : St → Int32 → Int32 → Nat), (vX8_share P f a I4 K) ∧ (∀ (g : St) (x1 : Int32) (x2 : Int32) , I4 g x1 x2 → bX8_share_4 P a (fun g' z0 z1 => I4 g' z0 z1 ∧ μ4 g' z0 z1 < μ4 g x1 x2) K g x1 x2)
def kX8_share (P : Sk) (f : St) (a : Nat) (K : UInt64 → St → Prop) : Prop := ∃ A, MIs f a A ∧ ∀ g, Sc9 f g a → K (shV A) g
theorem wX8_share (P : Sk) (f : St) (a : Nat) (ha : IsModel P a) (K : UInt64 → St → Prop) (h : kX8_share P f a K) : WX8_share P f a K := by
  obtain ⟨A, hM, hK⟩ := h
  have hb := hM.bok
  have h6 := hb.1
  have h144 := smL_144 hb
  have in0 : vp_in 0 160 := vp_nI (i := 0) (by decide) (by decide)
  refine ⟨fun g x1 x2 => Sc9 f g a ∧ ∃ k, x2 = nI k ∧ k ≤ A.1.1.length ∧ x1 = nI (smL lnF A.1.1 k), fun g x1 x2 => A.1.1.length - x2.toNatClampNeg, ?_, ?_⟩
  · unfold vX8_share
    exact ⟨Sc9.refl _ _, 0, rfl, Nat.zero_le _, rfl⟩
  · rintro g x1 x2 ⟨s, k, rfl, hk, rfl⟩
    unfold bX8_share_4
    have S := hM.1.sc9 s
    rw [tn0, S.1, nI_leI (by omega) (by omega)]
    refine ⟨in0, fun q => ?_, fun q => ?_⟩
    · rw [show k = A.1.1.length by omega]
      refine ⟨A.1, S, hb, ?_⟩
      have hv := hK g s
      unfold shV at hv
      change _ ∧ _
      rw [show (0 : Int32) = nI 0 from rfl, nI_eq (by omega) (by omega)]
      refine ⟨fun c => ⟨A.1, S, hb, ?_⟩, fun c => ?_⟩
      · rw [if_neg c] at hv
        have hn := shV_nn hb
        unfold shV at hn
        rw [if_neg c] at hn
        exact ⟨hn, hv⟩
      · rw [if_pos c] at hv
        exact hv
    · have hp := hasB_n (bd := A.1) (i := k) (by omega) hb
      refine u8_looseLength S hb hp.1 (fun g2 s2 m2 => ?_)
      intro z ez y ey
      rw [hp.2, nI_add] at ez
      rw [nI_1] at ey
      exact ⟨⟨s.tr s2, k + 1, ey, by omega, ez⟩, mu_up ey (by omega) (by omega)⟩

theorem metX8_share (l : Launch) (G : Gl) (P : Sk) (f : St) (sz : Nat) (a : Nat) (ha : IsModel P a) (K : UInt64 → St → Prop) (h : kX8_share P f a K) : Met l yX8_share (wU yX8_share cX8_share 3 (some .double)) rmX8_share (PcW G P f sz [.ref a]) (QcD G P sz K) 0 0 (frA P sz) := by
  obtain ⟨I4, μ4, qh, qh4⟩ := wX8_share P f a ha K h
  exact mX8_share l G P f sz a ha K I4 μ4 qh qh4

def vX8_looseShare (P : Sk) (f : St) (a : Nat) (K : UInt64 → St → Prop) : Prop :=
  ∀ g2 : St, g2 = setf f a 0 0 → kX8_share P g2 a (fun r6 g6 => K r6 g6)
set_option maxRecDepth 20000 in
set_option maxHeartbeats 4000000 in
theorem mX8_looseShare (l : Launch) (G : Gl) (P : Sk) (f : St) (sz : Nat) (a : Nat) (ha : IsModel P a) (K : UInt64 → St → Prop) (h : vX8_looseShare P f a K)  :
  Met l yX8_looseShare (wU yX8_looseShare cX8_looseShare 1 (some .double)) rmX8_looseShare (PcW G P f sz [.ref a]) (QcD G P sz K) 0 0 (frA P sz) := by
  refine v_met (own := RX8) [.ref a] (by decide +kernel) rfl (Nat.le_of_ble_eq_true rfl) (fun p e s m args below meth c hsz o hr hnm => ?_)
  refine v_lv (lv2 := [(0, .ref a)]) rfl ?_
  unfold vX8_looseShare at h
  refine v_aload_n o 0 dX8_looseShare_0 rfl ?_
  refine v_iconst o (v := 0) dX8_looseShare_1 (by decide) ?_
  refine v_pf o lpX8_40 (wfModel_o ha) ⟨rfl, rfl⟩ dX8_looseShare_2 ?_
  refine v_nmf (fun g2 eg2 => ?_)
  replace h := h g2 eg2
  refine v_aload_n o 0 dX8_looseShare_5 rfl ?_
  refine v_cVd o [] [] (fun sz => metX8_share l G P g2 sz a ha _ h) (cwX8_253 o.1.2.2.2.2 (by decide)) ⟨_, _, rfl⟩ (by decide) (wfModel_o ha) rfl (Nat.le_of_ble_eq_true rfl) ⟨Nat.le_of_ble_eq_true rfl, Nat.le_of_ble_eq_true rfl⟩ dX8_looseShare_6 rfl (fun r6 g6 h => ?_)
  exact v_dret o rfl hr dX8_looseShare_9 h
abbrev kX8_looseShare := @vX8_looseShare
abbrev metX8_looseShare := @mX8_looseShare
theorem u8_looseShare {P : Sk} {f : St} {a : Nat} {A : Ab} {K : UInt64 → St → Prop} (hM : MIs f a A) (hK : ∀ g, An f g a → MIs g a A → K (shV A) g) : kX8_looseShare P f a K := by
  show vX8_looseShare P f a K
  unfold vX8_looseShare
  intro g2 e2
  obtain ⟨M, z, r0⟩ := mi_start hM e2
  exact ⟨A, M, fun g s => hK g (MF.trans r0 s.scr.an) (M.scr s.scr)⟩

