def bX7_looseShare_4 (P : Sk) (a : Nat) (L4 : St → Int32 → Int32 → Prop) (K : UInt64 → St → Prop) (f : St) (x1 : Int32) (x2 : Int32) : Prop :=
  kX0_size P f (a + 4) (fun r9 g9 => (r9 ≤ x2 → kX7_crossingsOfAll P g9 a (fun r39 g39 => (¬ r39 = 0 → vf_n64 (FP.ddiv (FP.i2d x1) (FP.i2d r39)) ∧ (K (FP.ddiv (FP.i2d x1) (FP.i2d r39)) g39)) ∧ (r39 = 0 → K (FP.dconst1) g39))) ∧ (¬ r9 ≤ x2 → kX6_size P g9 ((atB (a + 4) x2) + 4) (fun r27 g27 => ∀ x1_31 : Int32, x1_31 = x1 + r27 → ∀ x2_32 : Int32, x2_32 = x2 + 1 → L4 g27 x1_31 x2_32)))
def vX7_looseShare (P : Sk) (f : St) (a : Nat) (L4 : St → Int32 → Int32 → Prop) (K : UInt64 → St → Prop) : Prop :=
  L4 f 0 0
set_option maxRecDepth 20000 in
set_option maxHeartbeats 4000000 in
theorem mX7_looseShare (l : Launch) (G : Gl) (P : Sk) (f : St) (sz : Nat) (a : Nat) (ha : IsComp P a) (K : UInt64 → St → Prop) (I4 : St → Int32 → Int32 → Prop) (μ4 : St → Int32 → Int32 → Nat) 
  (h : vX7_looseShare P f a I4 K)
  (h4 : ∀ (g : St) (x1 : Int32) (x2 : Int32) , I4 g x1 x2 → bX7_looseShare_4 P a (fun g' z0 z1 => I4 g' z0 z1 ∧ μ4 g' z0 z1 < μ4 g x1 x2) K g x1 x2) :
  Met l yX7_looseShare (wU yX7_looseShare cX7_looseShare 3 (some .double)) rmX7_looseShare (PcW G P f sz [.ref a]) (QcD G P sz K) 0 0 (frA P sz) := by
  refine v_met (own := RX7) [.ref a] (by decide +kernel) rfl (Nat.le_of_ble_eq_true rfl) (fun p e s m args below meth c hsz o hr hnm => ?_)
  refine v_lv (lv2 := [(0, .ref a)]) rfl ?_
  have main : ∀ n : Nat, (∀ (g : St) (x1 : Int32) (x2 : Int32) , I4 g x1 x2 → μ4 g x1 x2 < n → V p l e rmX7_looseShare s m args below meth c 3 G (frA P sz) (MQ below (QcD G P sz K) args s 0 0 (frA P sz)) 0 0 P [(0, .ref a), (1, .int x1), (2, .int x2)] [] 4 g) := by
    intro n
    induction n with
    | zero => exact fun g x1 x2 hI hm => absurd hm (Nat.not_lt_zero _)
    | succ n ih =>
      intro g x1 x2 hI hm
      have h := h4 g x1 x2 hI
      clear hI
      unfold bX7_looseShare_4 at h
      refine v_iload_n o 2 dX7_looseShare_4 rfl ?_
      refine v_aload_n o 0 dX7_looseShare_5 rfl ?_
      refine v_gfR o lkX7_19 (by decide) (wfComp_o ha) (wfComp_r1 ha) dX7_looseShare_6 ?_
      refine v_cVi o [] [.int x2] (fun sz => metX0_size l G P g sz (a + 4) (wfComp_t1 ha) _ h) (cwX7_65 o.1.2.2.2.2 (by decide)) ⟨_, _, rfl⟩ (by decide) (wfBoard_o (wfComp_t1 ha)) rfl (Nat.le_of_ble_eq_true rfl) ⟨Nat.le_of_ble_eq_true rfl, Nat.le_of_ble_eq_true rfl⟩ dX7_looseShare_9 rfl (fun r9 g9 h => ?_)
      refine v_icmp_ge o (tgt := 38) dX7_looseShare_12 (by decide) (fun c12 => ?_) (fun c12 => ?_)
      · replace h := h.1 c12
        refine v_aload_n o 0 dX7_looseShare_38 rfl ?_
        refine v_cVi o [] [] (fun sz => metX7_crossingsOfAll l G P g9 sz a ha _ h) (cwX7_227 o.1.2.2.2.2 (by decide)) ⟨_, _, rfl⟩ (by decide) (wfComp_o ha) rfl (Nat.le_of_ble_eq_true rfl) ⟨Nat.le_of_ble_eq_true rfl, Nat.le_of_ble_eq_true rfl⟩ dX7_looseShare_39 rfl (fun r39 g39 h => ?_)
        refine v_istore_n o (lv' := [(2, .int r39), (0, .ref a), (1, .int x1)]) dX7_looseShare_42 rfl (by decide) rfl ?_
        refine v_iload_n o 0 dX7_looseShare_43 rfl ?_
        refine v_if_ne o (tgt := 51) dX7_looseShare_44 (by decide) (fun c44 => ?_) (fun c44 => ?_)
        · replace h := h.1 c44
          refine v_iload_n o 2 dX7_looseShare_51 rfl ?_
          refine v_i2d o dX7_looseShare_52 ?_
          refine v_iload_n o 0 dX7_looseShare_53 rfl ?_
          refine v_i2d o dX7_looseShare_54 ?_
          refine v_ddiv o dX7_looseShare_55 h.1 ?_
          replace h := h.2
          exact v_dret o rfl hr dX7_looseShare_56 h
        · replace h := h.2 c44
          refine v_dconst1 o dX7_looseShare_47 ?_
          refine v_goto o (tgt := 56) dX7_looseShare_48 (by decide) ?_
          exact v_dret o rfl hr dX7_looseShare_56 h
      · replace h := h.2 c12
        refine v_iload_n o 1 dX7_looseShare_15 rfl ?_
        refine v_aload_n o 0 dX7_looseShare_16 rfl ?_
        refine v_gfR o lkX7_19 (by decide) (wfComp_o ha) (wfComp_r1 ha) dX7_looseShare_17 ?_
        refine v_iload_n o 2 dX7_looseShare_20 rfl ?_
        refine v_cVr o [.int x2] [.int x1] (fun sz => metX0_at l G P g9 sz (a + 4) (wfComp_t1 ha) x2) (cwX7_102 o.1.2.2.2.2 (by decide)) ⟨_, _, rfl⟩ (by decide) (wfBoard_o (wfComp_t1 ha)) rfl (Nat.le_of_ble_eq_true rfl) ⟨Nat.le_of_ble_eq_true rfl, Nat.le_of_ble_eq_true rfl⟩ dX7_looseShare_21 rfl (fun r21 g21 h21 => ?_)
        obtain ⟨rfl, rfl⟩ := h21
        refine v_cVr o [] [.int x1] (fun sz => metX2_looseWord l G P g9 sz (atB (a + 4) x2) (is_atB (wfComp_t1 ha) x2)) (cwX7_209 o.1.2.2.2.2 (by decide)) ⟨_, _, rfl⟩ (by decide) (wfLoaf_o (is_atB (wfComp_t1 ha) x2)) rfl (Nat.le_of_ble_eq_true rfl) ⟨Nat.le_of_ble_eq_true rfl, Nat.le_of_ble_eq_true rfl⟩ dX7_looseShare_24 rfl (fun r24 g24 h24 => ?_)
        obtain ⟨rfl, rfl⟩ := h24
        refine v_cVi o [] [.int x1] (fun sz => metX6_size l G P g9 sz ((atB (a + 4) x2) + 4) (wfLoaf_t1 (is_atB (wfComp_t1 ha) x2)) _ h) (cwX7_106 o.1.2.2.2.2 (by decide)) ⟨_, _, rfl⟩ (by decide) (wfWord_o (wfLoaf_t1 (is_atB (wfComp_t1 ha) x2))) rfl (Nat.le_of_ble_eq_true rfl) ⟨Nat.le_of_ble_eq_true rfl, Nat.le_of_ble_eq_true rfl⟩ dX7_looseShare_27 rfl (fun r27 g27 h => ?_)
        refine v_iadd o dX7_looseShare_30 ?_
        refine v_topi (fun x1_31 ex1_31 => ?_)
        replace h := h x1_31 ex1_31
        refine v_istore_n o (lv' := [(1, .int x1_31), (0, .ref a), (2, .int x2)]) dX7_looseShare_31 rfl (by decide) rfl ?_
        obtain ⟨x2_32, ex2_32⟩ : ∃ y : Int32, y = x2 + 1 := ⟨_, rfl⟩
        replace h := h x2_32 ex2_32
        refine v_iinc o (v := x2_32) (lv' := [(2, .int x2_32), (1, .int x1_31), (0, .ref a)]) 2 dX7_looseShare_32 rfl (by rw [ex2_32]; rfl) (by decide) rfl ?_
        refine v_goto o (tgt := 4) dX7_looseShare_35 (by decide) ?_
        refine v_sub [2, 1, 0] (lv2 := [(0, .ref a), (1, .int x1_31), (2, .int x2_32)]) rfl ?_
        exact ih g27 x1_31 x2_32  h.1 (by have := h.2; omega)
  unfold vX7_looseShare at h
  refine v_iconst o (v := 0) dX7_looseShare_0 (by decide) ?_
  refine v_istore_n o (lv' := [(1, .int 0), (0, .ref a)]) dX7_looseShare_1 rfl (by decide) rfl ?_
  refine v_iconst o (v := 0) dX7_looseShare_2 (by decide) ?_
  refine v_istore_n o (lv' := [(2, .int 0), (1, .int 0), (0, .ref a)]) dX7_looseShare_3 rfl (by decide) rfl ?_
  refine v_sub [2, 1, 0] (lv2 := [(0, .ref a), (1, .int 0), (2, .int 0)]) rfl ?_
  exact (main (μ4 f 0 0 + 1)) f 0 0  h (Nat.lt_succ_self _)
def WX7_looseShare (P : Sk) (f : St) (a : Nat) (K : UInt64 → St → Prop) : Prop := ∃ (I4 : St → Int32 → Int32 → Prop) (μ4 : St → Int32 → Int32 → Nat), (vX7_looseShare P f a I4 K) ∧ (∀ (g : St) (x1 : Int32) (x2 : Int32) , I4 g x1 x2 → bX7_looseShare_4 P a (fun g' z0 z1 => I4 g' z0 z1 ∧ μ4 g' z0 z1 < μ4 g x1 x2) K g x1 x2)
def lnF (y : Lf) : Nat := (NF y.2).length
def shV (A : Ab) : UInt64 := if smL lnW A.1.1 A.1.1.length = 0 then FP.dconst1 else shr (smL lnF A.1.1 A.1.1.length) (smL lnW A.1.1 A.1.1.length)
theorem smL_mono {φ ψ : Lf → Nat} {ls : List Lf} (h : ∀ y, φ y ≤ ψ y) : ∀ k, smL φ ls k ≤ smL ψ ls k
  | 0 => Nat.le_refl _
  | k + 1 => by
    have h1 := smL_mono (ls := ls) h k
    have h2 := h (lfAt ls k)
    simp only [smL]
    omega
theorem smL_144 {bd : Bd} (h : Bok bd) : smL lnW bd.1 bd.1.length ≤ 144 := by
  have h1 := smL_le (φ := lnW) (ls := bd.1) (m := 24) (fun i hi => (h.at hi).1.2.2.1) _ (Nat.le_refl _)
  have := h.1
  omega
def kX7_looseShare (P : Sk) (f : St) (a : Nat) (K : UInt64 → St → Prop) : Prop := ∃ A, CompIs f a A ∧ K (shV A) f
theorem wX7_looseShare (P : Sk) (f : St) (a : Nat) (ha : IsComp P a) (K : UInt64 → St → Prop) (h : kX7_looseShare P f a K) : WX7_looseShare P f a K := by
  obtain ⟨A, hC, hK⟩ := h
  have h6 := hC.2.2.2.2.2.1
  have hl6 := h6.1
  refine ⟨fun g x1 x2 => ∃ k, x2 = nI k ∧ g = f ∧ k ≤ A.1.1.length ∧ x1 = nI (smL lnF A.1.1 k), fun g x1 x2 => A.1.1.length - x2.toNatClampNeg, ?_, ?_⟩
  · unfold vX7_looseShare
    exact ⟨0, rfl, rfl, Nat.zero_le _, rfl⟩
  · rintro g x1 x2 ⟨k, rfl, rfl, hk, rfl⟩
    unfold bX7_looseShare_4
    refine u0_size hC.2.1.1 ?_
    rw [nI_leI (by omega) (by omega)]
    refine ⟨fun q => ?_, fun q => ?_⟩
    · have h144 := smL_144 h6
      have hm := smL_mono (φ := lnF) (ψ := lnW) (ls := A.1.1) (fun y => NF_len y.2) A.1.1.length
      refine ⟨A, hC, ?_⟩
      change _ ∧ _
      rw [nI_z (by omega), show k = A.1.1.length by omega]
      unfold shV at hK
      refine ⟨fun q2 => ?_, fun q2 => ?_⟩
      · rw [if_neg q2] at hK
        exact ⟨shr_ok _ _ hm (by omega) h144, hK⟩
      · rw [if_pos q2] at hK
        exact hK
    · obtain ⟨hb, hb2⟩ := hasB_n (i := k) (show k < A.1.1.length by omega) h6
      have hL := hC.2.1.atP h6 hb
      rw [hb2] at hL
      refine u6_size hL.2.1.2.1 ?_
      intro x e y e2
      rw [nI_add] at e
      rw [nI_1] at e2
      exact ⟨⟨k + 1, e2, rfl, by omega, e⟩, mu_up e2 (by omega) (by omega)⟩

theorem metX7_looseShare (l : Launch) (G : Gl) (P : Sk) (f : St) (sz : Nat) (a : Nat) (ha : IsComp P a) (K : UInt64 → St → Prop) (h : kX7_looseShare P f a K) : Met l yX7_looseShare (wU yX7_looseShare cX7_looseShare 3 (some .double)) rmX7_looseShare (PcW G P f sz [.ref a]) (QcD G P sz K) 0 0 (frA P sz) := by
  obtain ⟨I4, μ4, qh, qh4⟩ := wX7_looseShare P f a ha K h
  exact mX7_looseShare l G P f sz a ha K I4 μ4 qh qh4

