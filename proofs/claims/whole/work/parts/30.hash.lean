def bX7_looseShare_4 (P : Sk) (a : Nat) (L4 : St → Int32 → Int32 → Prop) (K : UInt64 → St → Prop) (f : St) (x1 : Int32) (x2 : Int32) : Prop :=
  kX0_size P f (a + 4) (fun r9 g9 => (r9 ≤ x2 → kX7_crossingsOfAll P g9 a (fun r39 g39 => (¬ r39 = 0 → vf_n64 (FP.ddiv (FP.i2d x1) (FP.i2d r39)) ∧ (K (FP.ddiv (FP.i2d x1) (FP.i2d r39)) g39)) ∧ (r39 = 0 → K (FP.dconst1) g39))) ∧ (¬ r9 ≤ x2 → kX6_size P g9 ((atB (a + 4) x2) + 4) (fun r27 g27 => ∀ x1_31 : Int32, x1_31 = x1 + r27 → ∀ x2_32 : Int32, x2_32 = x2 + 1 → L4 g27 x1_31 x2_32)))
def vX7_looseShare (P : Sk) (f : St) (a : Nat) (L4 : St → Int32 → Int32 → Prop) (K : UInt64 → St → Prop) : Prop :=
  L4 f 0 0
set_option maxRecDepth 20000 in
set_option maxHeartbeats 4000000 in
theorem mX7_looseShare (l : Launch) (G : Gl) (P : Sk) (f : St) (sz : Nat) (a : Nat) (ha : IsComp P a) (K : UInt64 → St → Prop) (I4 : St → Int32 → Int32 → Prop) (μ4 : St → Int32 → Int32 → Nat) 
  (h : vX7_looseShare P f a I4 K)
  (h4 : ∀ (g : St) (x1 : Int32) (x2 : Int32) , I4 g x1 x2 → bX7_looseShare_4 P a (fun g' z0 z1 => I4 g' z0 z1 ∧ μ4 g' z0 z1 < μ4 g x1 x2) K g x1 x2) :
  Met l yX7_looseShare (wU yX7_looseShare cX7_looseShare 3 (some .double)) rmX7_looseShare (PcW G P f sz [.ref a]) (QcD G P sz K) 0 0 (frA P sz) := by
  refine v_met (own := RX7) [.ref a] (by decide +kernel) rfl (Nat.le_of_ble_eq_true rfl) (fun p e s m args below meth c hsz o hr hnm => ?_)
  refine v_lv (lv2 := [(0, .ref a)]) rfl ?_
  have main : ∀ n : Nat, (∀ (g : St) (x1 : Int32) (x2 : Int32) , I4 g x1 x2 → μ4 g x1 x2 < n → V p l e rmX7_looseShare s m args below meth c 3 G (frA P sz) (MQ below (QcD G P sz K) args s 0 0 (frA P sz)) 0 0 P [(0, .ref a), (1, .int x1), (2, .int x2)] [] 4 g) := by
    intro n
    induction n with
    | zero => exact fun g x1 x2 hI hm => absurd hm (Nat.not_lt_zero _)
    | succ n ih =>
      intro g x1 x2 hI hm
      have h := h4 g x1 x2 hI
      clear hI
      unfold bX7_looseShare_4 at h
      refine v_iload_n o 2 dX7_looseShare_4 rfl ?_
      refine v_aload_n o 0 dX7_looseShare_5 rfl ?_
      refine v_gfR o lkX7_19 (by decide) (wfComp_o ha) (wfComp_r1 ha) dX7_looseShare_6 ?_
      refine v_cVi o [] [.int x2] (fun sz => metX0_size l G P g sz (a + 4) (wfComp_t1 ha) _ h) (cwX7_65 o.1.2.2.2.2 (by decide)) ⟨_, _, rfl⟩ (by decide) (wfBoard_o (wfComp_t1 ha)) rfl (Nat.le_of_ble_eq_true rfl) ⟨Nat.le_of_ble_eq_true rfl, Nat.le_of_ble_eq_true rfl⟩ dX7_looseShare_9 rfl (fun r9 g9 h => ?_)
      refine v_icmp_ge o (tgt := 38) dX7_looseShare_12 (by decide) (fun c12 => ?_) (fun c12 => ?_)
      · replace h := h.1 c12
        refine v_aload_n o 0 dX7_looseShare_38 rfl ?_
        refine v_cVi o [] [] (fun sz => metX7_crossingsOfAll l G P g9 sz a ha _ h) (cwX7_227 o.1.2.2.2.2 (by decide)) ⟨_, _, rfl⟩ (by decide) (wfComp_o ha) rfl (Nat.le_of_ble_eq_true rfl) ⟨Nat.le_of_ble_eq_true rfl, Nat.le_of_ble_eq_true rfl⟩ dX7_looseShare_39 rfl (fun r39 g39 h => ?_)
        refine v_istore_n o (lv' := [(2, .int r39), (0, .ref a), (1, .int x1)]) dX7_looseShare_42 rfl (by decide) rfl ?_
        refine v_iload_n o 0 dX7_looseShare_43 rfl ?_
        refine v_if_ne o (tgt := 51) dX7_looseShare_44 (by decide) (fun c44 => ?_) (fun c44 => ?_)
        · replace h := h.1 c44
          refine v_iload_n o 2 dX7_looseShare_51 rfl ?_
          refine v_i2d o dX7_looseShare_52 ?_
          refine v_iload_n o 0 dX7_looseShare_53 rfl ?_
          refine v_i2d o dX7_looseShare_54 ?_
          refine v_ddiv o dX7_looseShare_55 h.1 ?_
          replace h := h.2
          exact v_dret o rfl hr dX7_looseShare_56 h
        · replace h := h.2 c44
          refine v_dconst1 o dX7_looseShare_47 ?_
          refine v_goto o (tgt := 56) dX7_looseShare_48 (by decide) ?_
          exact v_dret o rfl hr dX7_looseShare_56 h
      · replace h := h.2 c12
        refine v_iload_n o 1 dX7_looseShare_15 rfl ?_
        refine v_aload_n o 0 dX7_looseShare_16 rfl ?_
        refine v_gfR o lkX7_19 (by decide) (wfComp_o ha) (wfComp_r1 ha) dX7_looseShare_17 ?_
        refine v_iload_n o 2 dX7_looseShare_20 rfl ?_
        refine v_cVr o [.int x2] [.int x1] (fun sz => metX0_at l G P g9 sz (a + 4) (wfComp_t1 ha) x2) (cwX7_102 o.1.2.2.2.2 (by decide)) ⟨_, _, rfl⟩ (by decide) (wfBoard_o (wfComp_t1 ha)) rfl (Nat.le_of_ble_eq_true rfl) ⟨Nat.le_of_ble_eq_true rfl, Nat.le_of_ble_eq_true rfl⟩ dX7_looseShare_21 rfl (fun r21 g21 h21 => ?_)
        obtain ⟨rfl, rfl⟩ := h21
        refine v_cVr o [] [.int x1] (fun sz => metX2_looseWord l G P g9 sz (atB (a + 4) x2) (is_atB (wfComp_t1 ha) x2)) (cwX7_209 o.1.2.2.2.2 (by decide)) ⟨_, _, rfl⟩ (by decide) (wfLoaf_o (is_atB (wfComp_t1 ha) x2)) rfl (Nat.le_of_ble_eq_true rfl) ⟨Nat.le_of_ble_eq_true rfl, Nat.le_of_ble_eq_true rfl⟩ dX7_looseShare_24 rfl (fun r24 g24 h24 => ?_)
        obtain ⟨rfl, rfl⟩ := h24
        refine v_cVi o [] [.int x1] (fun sz => metX6_size l G P g9 sz ((atB (a + 4) x2) + 4) (wfLoaf_t1 (is_atB (wfComp_t1 ha) x2)) _ h) (cwX7_106 o.1.2.2.2.2 (by decide)) ⟨_, _, rfl⟩ (by decide) (wfWord_o (wfLoaf_t1 (is_atB (wfComp_t1 ha) x2))) rfl (Nat.le_of_ble_eq_true rfl) ⟨Nat.le_of_ble_eq_true rfl, Nat.le_of_ble_eq_true rfl⟩ dX7_looseShare_27 rfl (fun r27 g27 h => ?_)
        refine v_iadd o dX7_looseShare_30 ?_
        refine v_topi (fun x1_31 ex1_31 => ?_)
        replace h := h x1_31 ex1_31
        refine v_istore_n o (lv' := [(1, .int x1_31), (0, .ref a), (2, .int x2)]) dX7_looseShare_31 rfl (by decide) rfl ?_
        obtain ⟨x2_32, ex2_32⟩ : ∃ y : Int32, y = x2 + 1 := ⟨_, rfl⟩
        replace h := h x2_32 ex2_32
        refine v_iinc o (v := x2_32) (lv' := [(2, .int x2_32), (1, .int x1_31), (0, .ref a)]) 2 dX7_looseShare_32 rfl (by rw [ex2_32]; rfl) (by decide) rfl ?_
        refine v_goto o (tgt := 4) dX7_looseShare_35 (by decide) ?_
        refine v_sub [2, 1, 0] (lv2 := [(0, .ref a), (1, .int x1_31), (2, .int x2_32)]) rfl ?_
        exact ih g27 x1_31 x2_32  h.1 (by have := h.2; omega)
  unfold vX7_looseShare at h
  refine v_iconst o (v := 0) dX7_looseShare_0 (by decide) ?_
  refine v_istore_n o (lv' := [(1, .int 0), (0, .ref a)]) dX7_looseShare_1 rfl (by decide) rfl ?_
  refine v_iconst o (v := 0) dX7_looseShare_2 (by decide) ?_
  refine v_istore_n o (lv' := [(2, .int 0), (1, .int 0), (0, .ref a)]) dX7_looseShare_3 rfl (by decide) rfl ?_
  refine v_sub [2, 1, 0] (lv2 := [(0, .ref a), (1, .int 0), (2, .int 0)]) rfl ?_
  exact (main (μ4 f 0 0 + 1)) f 0 0  h (Nat.lt_succ_self _)
def WX7_looseShare (P : Sk) (f : St) (a : Nat) (K : UInt64 → St → Prop) : Prop := ∃ (I4 : St → Int32 → Int32 → Prop) (μ4 : St → Int32 → Int32 → Nat), (vX7_looseShare P f a I4 K) ∧ (∀ (g : St) (x1 : Int32) (x2 : Int32) , I4 g x1 x2 → bX7_looseShare_4 P a (fun g' z0 z1 => I4 g' z0 z1 ∧ μ4 g' z0 z1 < μ4 g x1 x2) K g x1 x2)
def lnF (y : Lf) : Nat := (NF y.2).length
def shV (A : Ab) : UInt64 := if smL lnW A.1.1 A.1.1.length = 0 then FP.dconst1 else shr (smL lnF A.1.1 A.1.1.length) (smL lnW A.1.1 A.1.1.length)
theorem smL_mono {φ ψ : Lf → Nat} {ls : List Lf} (h : ∀ y, φ y ≤ ψ y) : ∀ k, smL φ ls k ≤ smL ψ ls k
  | 0 => Nat.le_refl _
  | k + 1 => by
    have h1 := smL_mono (ls := ls) h k
    have h2 := h (lfAt ls k)
    simp only [smL]
    omega
theorem smL_144 {bd : Bd} (h : Bok bd) : smL lnW bd.1 bd.1.length ≤ 144 := by
  have h1 := smL_le (φ := lnW) (ls := bd.1) (m := 24) (fun i hi => (h.at hi).1.2.2.1) _ (Nat.le_refl _)
  have := h.1
  omega
def kX7_looseShare (P : Sk) (f : St) (a : Nat) (K : UInt64 → St → Prop) : Prop := ∃ A, CompIs f a A ∧ K (shV A) f
theorem wX7_looseShare (P : Sk) (f : St) (a : Nat) (ha : IsComp P a) (K : UInt64 → St → Prop) (h : kX7_looseShare P f a K) : WX7_looseShare P f a K := by
  obtain ⟨A, hC, hK⟩ := h
  have h6 := hC.2.2.2.2.2.1
  have hl6 := h6.1
  refine ⟨fun g x1 x2 => ∃ k, x2 = nI k ∧ g = f ∧ k ≤ A.1.1.length ∧ x1 = nI (smL lnF A.1.1 k), fun g x1 x2 => A.1.1.length - x2.toNatClampNeg, ?_, ?_⟩
  · unfold vX7_looseShare
    exact ⟨0, rfl, rfl, Nat.zero_le _, rfl⟩
  · rintro g x1 x2 ⟨k, rfl, rfl, hk, rfl⟩
    unfold bX7_looseShare_4
    refine u0_size hC.2.1.1 ?_
    rw [nI_leI (by omega) (by omega)]
    refine ⟨fun q => ?_, fun q => ?_⟩
    · have h144 := smL_144 h6
      have hm := smL_mono (φ := lnF) (ψ := lnW) (ls := A.1.1) (fun y => NF_len y.2) A.1.1.length
      refine ⟨A, hC, ?_⟩
      change _ ∧ _
      rw [nI_z (by omega), show k = A.1.1.length by omega]
      unfold shV at hK
      refine ⟨fun q2 => ?_, fun q2 => ?_⟩
      · rw [if_neg q2] at hK
        exact ⟨shr_ok _ _ hm (by omega) h144, hK⟩
      · rw [if_pos q2] at hK
        exact hK
    · obtain ⟨hb, hb2⟩ := hasB_n (i := k) (show k < A.1.1.length by omega) h6
      have hL := hC.2.1.atP h6 hb
      rw [hb2] at hL
      refine u6_size hL.2.1.2.1 ?_
      intro x e y e2
      rw [nI_add] at e
      rw [nI_1] at e2
      exact ⟨⟨k + 1, e2, rfl, by omega, e⟩, mu_up e2 (by omega) (by omega)⟩

theorem metX7_looseShare (l : Launch) (G : Gl) (P : Sk) (f : St) (sz : Nat) (a : Nat) (ha : IsComp P a) (K : UInt64 → St → Prop) (h : kX7_looseShare P f a K) : Met l yX7_looseShare (wU yX7_looseShare cX7_looseShare 3 (some .double)) rmX7_looseShare (PcW G P f sz [.ref a]) (QcD G P sz K) 0 0 (frA P sz) := by
  obtain ⟨I4, μ4, qh, qh4⟩ := wX7_looseShare P f a ha K h
  exact mX7_looseShare l G P f sz a ha K I4 μ4 qh qh4

def bX7_hashOfLoaf_6 (P : Sk) (a : Nat) (p1 : Int64) (p3 : Int32) (L6 : St → Int64 → Int32 → Prop) (L63 : St → Int64 → Int32 → Prop) (L110 : St → Int64 → Int32 → Prop) (K : Int64 → St → Prop) (f : St) (x4 : Int64) (x6 : Int32) : Prop :=
  (10 < x6 → kX5_timesUntilHome P f ((atB (a + 4) p3) + 7) (fun r53 g53 => ∀ x4_58 : Int64, x4_58 = (31 * x4) + (r53.toInt64) → L63 g53 x4_58 0)) ∧ (¬ 10 < x6 → kX7_numberOfLoaf P f a p3 x6 (fun r23 g23 => ∀ x4_28 : Int64, x4_28 = (31 * x4) + (r23.toInt64) → ∀ x6_30 : Int32, x6_30 = x6 + 1 → L6 g23 x4_28 x6_30))
def bX7_hashOfLoaf_63 (P : Sk) (a : Nat) (p1 : Int64) (p3 : Int32) (L6 : St → Int64 → Int32 → Prop) (L63 : St → Int64 → Int32 → Prop) (L110 : St → Int64 → Int32 → Prop) (K : Int64 → St → Prop) (f : St) (x4 : Int64) (x6 : Int32) : Prop :=
  (3 < x6 → kX2_hashOfParts P f (atB (a + 4) p3) x4 (fun r102 g102 => L110 g102 r102 0)) ∧ (¬ 3 < x6 → kX7_looseSizeIfChanged P f a p3 x6 (fun r79 g79 => ∀ x4_84 : Int64, x4_84 = (31 * x4) + (r79.toInt64) → ∀ x6_86 : Int32, x6_86 = x6 + 1 → L63 g79 x4_84 x6_86))
def bX7_hashOfLoaf_110 (P : Sk) (a : Nat) (p1 : Int64) (p3 : Int32) (L6 : St → Int64 → Int32 → Prop) (L63 : St → Int64 → Int32 → Prop) (L110 : St → Int64 → Int32 → Prop) (K : Int64 → St → Prop) (f : St) (x4 : Int64) (x6 : Int32) : Prop :=
  kX0_size P f (a + 4) (fun r116 g116 => (r116 ≤ x6 → K x4 g116) ∧ (¬ r116 ≤ x6 → kX7_likeness P g116 a p3 x6 (fun r132 g132 => ∀ x4_137 : Int64, x4_137 = (31 * x4) + (r132.toInt64) → ∀ x6_139 : Int32, x6_139 = x6 + 1 → L110 g132 x4_137 x6_139)))
def vX7_hashOfLoaf (P : Sk) (f : St) (a : Nat) (p1 : Int64) (p3 : Int32) (L6 : St → Int64 → Int32 → Prop) (L63 : St → Int64 → Int32 → Prop) (L110 : St → Int64 → Int32 → Prop) (K : Int64 → St → Prop) : Prop :=
  L6 f p1 0
set_option maxRecDepth 20000 in
set_option maxHeartbeats 4000000 in
theorem mX7_hashOfLoaf (l : Launch) (G : Gl) (P : Sk) (f : St) (sz : Nat) (a : Nat) (ha : IsComp P a) (p1 : Int64) (p3 : Int32) (K : Int64 → St → Prop) (I6 : St → Int64 → Int32 → Prop) (μ6 : St → Int64 → Int32 → Nat) (I63 : St → Int64 → Int32 → Prop) (μ63 : St → Int64 → Int32 → Nat) (I110 : St → Int64 → Int32 → Prop) (μ110 : St → Int64 → Int32 → Nat) 
  (h : vX7_hashOfLoaf P f a p1 p3 I6 I63 I110 K)
  (h6 : ∀ (g : St) (x4 : Int64) (x6 : Int32) , I6 g x4 x6 → bX7_hashOfLoaf_6 P a p1 p3 (fun g' z0 z1 => I6 g' z0 z1 ∧ μ6 g' z0 z1 < μ6 g x4 x6) (fun g' z0 z1 => I63 g' z0 z1 ∧ μ63 g' z0 z1 < μ6 g x4 x6) (fun g' z0 z1 => I110 g' z0 z1 ∧ μ110 g' z0 z1 < μ6 g x4 x6) K g x4 x6)
  (h63 : ∀ (g : St) (x4 : Int64) (x6 : Int32) , I63 g x4 x6 → bX7_hashOfLoaf_63 P a p1 p3 (fun g' z0 z1 => I6 g' z0 z1 ∧ μ6 g' z0 z1 < μ63 g x4 x6) (fun g' z0 z1 => I63 g' z0 z1 ∧ μ63 g' z0 z1 < μ63 g x4 x6) (fun g' z0 z1 => I110 g' z0 z1 ∧ μ110 g' z0 z1 < μ63 g x4 x6) K g x4 x6)
  (h110 : ∀ (g : St) (x4 : Int64) (x6 : Int32) , I110 g x4 x6 → bX7_hashOfLoaf_110 P a p1 p3 (fun g' z0 z1 => I6 g' z0 z1 ∧ μ6 g' z0 z1 < μ110 g x4 x6) (fun g' z0 z1 => I63 g' z0 z1 ∧ μ63 g' z0 z1 < μ110 g x4 x6) (fun g' z0 z1 => I110 g' z0 z1 ∧ μ110 g' z0 z1 < μ110 g x4 x6) K g x4 x6) :
  Met l yX7_hashOfLoaf (wU yX7_hashOfLoaf cX7_hashOfLoaf 7 (some .long)) rmX7_hashOfLoaf (PcW G P f sz [.ref a, .long p1, .int p3]) (QcL G P sz K) 0 0 (frA P sz) := by
  refine v_met (own := RX7) [.ref a, .long p1, .int p3] (by decide +kernel) rfl (Nat.le_of_ble_eq_true rfl) (fun p e s m args below meth c hsz o hr hnm => ?_)
  refine v_lv (lv2 := [(0, .ref a), (1, .long p1), (3, .int p3)]) rfl ?_
  have main : ∀ n : Nat, (∀ (g : St) (x4 : Int64) (x6 : Int32) , I6 g x4 x6 → μ6 g x4 x6 < n → V p l e rmX7_hashOfLoaf s m args below meth c 7 G (frA P sz) (MQ below (QcL G P sz K) args s 0 0 (frA P sz)) 0 0 P [(0, .ref a), (1, .long p1), (3, .int p3), (4, .long x4), (6, .int x6)] [] 6 g) ∧ (∀ (g : St) (x4 : Int64) (x6 : Int32) , I63 g x4 x6 → μ63 g x4 x6 < n → V p l e rmX7_hashOfLoaf s m args below meth c 7 G (frA P sz) (MQ below (QcL G P sz K) args s 0 0 (frA P sz)) 0 0 P [(0, .ref a), (1, .long p1), (3, .int p3), (4, .long x4), (6, .int x6)] [] 63 g) ∧ (∀ (g : St) (x4 : Int64) (x6 : Int32) , I110 g x4 x6 → μ110 g x4 x6 < n → V p l e rmX7_hashOfLoaf s m args below meth c 7 G (frA P sz) (MQ below (QcL G P sz K) args s 0 0 (frA P sz)) 0 0 P [(0, .ref a), (1, .long p1), (3, .int p3), (4, .long x4), (6, .int x6)] [] 110 g) := by
    intro n
    induction n with
    | zero => exact ⟨fun g x4 x6 hI hm => absurd hm (Nat.not_lt_zero _), fun g x4 x6 hI hm => absurd hm (Nat.not_lt_zero _), fun g x4 x6 hI hm => absurd hm (Nat.not_lt_zero _)⟩
    | succ n ih =>
      refine ⟨?_, ?_, ?_⟩
      · intro g x4 x6 hI hm
        have h := h6 g x4 x6 hI
        clear hI
        unfold bX7_hashOfLoaf_6 at h
        refine v_iload o 4 dX7_hashOfLoaf_6 rfl ?_
        refine v_bipush o (v := 10) dX7_hashOfLoaf_8 (by decide) ?_
        refine v_icmp_gt o (tgt := 36) dX7_hashOfLoaf_10 (by decide) (fun c10 => ?_) (fun c10 => ?_)
        · replace h := h.1 c10
          refine v_ldc2 o (v := 31) dX7_hashOfLoaf_36 (mU 396 (by decide +kernel) rfl) ?_
          refine v_lload o 3 dX7_hashOfLoaf_39 rfl ?_
          refine v_lmul o dX7_hashOfLoaf_41 ?_
          refine v_aload_n o 0 dX7_hashOfLoaf_42 rfl ?_
          refine v_gfR o lkX7_19 (by decide) (wfComp_o ha) (wfComp_r1 ha) dX7_hashOfLoaf_43 ?_
          refine v_iload_n o 2 dX7_hashOfLoaf_46 rfl ?_
          refine v_cVr o [.int p3] [.long (31 * x4)] (fun sz => metX0_at l G P g sz (a + 4) (wfComp_t1 ha) p3) (cwX7_102 o.1.2.2.2.2 (by decide)) ⟨_, _, rfl⟩ (by decide) (wfBoard_o (wfComp_t1 ha)) rfl (Nat.le_of_ble_eq_true rfl) ⟨Nat.le_of_ble_eq_true rfl, Nat.le_of_ble_eq_true rfl⟩ dX7_hashOfLoaf_47 rfl (fun r47 g47 h47 => ?_)
          obtain ⟨rfl, rfl⟩ := h47
          refine v_cVr o [] [.long (31 * x4)] (fun sz => metX2_trace l G P g sz (atB (a + 4) p3) (is_atB (wfComp_t1 ha) p3)) (cwX7_124 o.1.2.2.2.2 (by decide)) ⟨_, _, rfl⟩ (by decide) (wfLoaf_o (is_atB (wfComp_t1 ha) p3)) rfl (Nat.le_of_ble_eq_true rfl) ⟨Nat.le_of_ble_eq_true rfl, Nat.le_of_ble_eq_true rfl⟩ dX7_hashOfLoaf_50 rfl (fun r50 g50 h50 => ?_)
          obtain ⟨rfl, rfl⟩ := h50
          refine v_cVi o [] [.long (31 * x4)] (fun sz => metX5_timesUntilHome l G P g sz ((atB (a + 4) p3) + 7) (wfLoaf_t2 (is_atB (wfComp_t1 ha) p3)) _ h) (cwX7_224 o.1.2.2.2.2 (by decide)) ⟨_, _, rfl⟩ (by decide) (wfTrace_o (wfLoaf_t2 (is_atB (wfComp_t1 ha) p3))) rfl (Nat.le_of_ble_eq_true rfl) ⟨Nat.le_of_ble_eq_true rfl, Nat.le_of_ble_eq_true rfl⟩ dX7_hashOfLoaf_53 rfl (fun r53 g53 h => ?_)
          refine v_i2l o dX7_hashOfLoaf_56 ?_
          refine v_ladd o dX7_hashOfLoaf_57 ?_
          refine v_topl (fun x4_58 ex4_58 => ?_)
          replace h := h x4_58 ex4_58
          refine v_lstore o (lv' := [(4, .long x4_58), (0, .ref a), (1, .long p1), (3, .int p3), (6, .int x6)]) dX7_hashOfLoaf_58 (by decide) rfl ?_
          refine v_iconst o (v := 0) dX7_hashOfLoaf_60 (by decide) ?_
          refine v_istore o (lv' := [(6, .int 0), (4, .long x4_58), (0, .ref a), (1, .long p1), (3, .int p3)]) dX7_hashOfLoaf_61 (by decide) rfl ?_
          refine v_sub [2, 3, 4, 1, 0] (lv2 := [(0, .ref a), (1, .long p1), (3, .int p3), (4, .long x4_58), (6, .int 0)]) rfl ?_
          exact ih.2.1 g53 x4_58 0  h.1 (by have := h.2; omega)
        · replace h := h.2 c10
          refine v_ldc2 o (v := 31) dX7_hashOfLoaf_13 (mU 396 (by decide +kernel) rfl) ?_
          refine v_lload o 3 dX7_hashOfLoaf_16 rfl ?_
          refine v_lmul o dX7_hashOfLoaf_18 ?_
          refine v_aload_n o 0 dX7_hashOfLoaf_19 rfl ?_
          refine v_iload_n o 2 dX7_hashOfLoaf_20 rfl ?_
          refine v_iload o 4 dX7_hashOfLoaf_21 rfl ?_
          refine v_cVi o [.int p3, .int x6] [.long (31 * x4)] (fun sz => metX7_numberOfLoaf l G P g sz a ha p3 x6 _ h) (cwX7_206 o.1.2.2.2.2 (by decide)) ⟨_, _, rfl⟩ (by decide) (wfComp_o ha) rfl (Nat.le_of_ble_eq_true rfl) ⟨Nat.le_of_ble_eq_true rfl, Nat.le_of_ble_eq_true rfl⟩ dX7_hashOfLoaf_23 rfl (fun r23 g23 h => ?_)
          refine v_i2l o dX7_hashOfLoaf_26 ?_
          refine v_ladd o dX7_hashOfLoaf_27 ?_
          refine v_topl (fun x4_28 ex4_28 => ?_)
          replace h := h x4_28 ex4_28
          refine v_lstore o (lv' := [(4, .long x4_28), (0, .ref a), (1, .long p1), (3, .int p3), (6, .int x6)]) dX7_hashOfLoaf_28 (by decide) rfl ?_
          obtain ⟨x6_30, ex6_30⟩ : ∃ y : Int32, y = x6 + 1 := ⟨_, rfl⟩
          replace h := h x6_30 ex6_30
          refine v_iinc o (v := x6_30) (lv' := [(6, .int x6_30), (4, .long x4_28), (0, .ref a), (1, .long p1), (3, .int p3)]) 4 dX7_hashOfLoaf_30 rfl (by rw [ex6_30]; rfl) (by decide) rfl ?_
          refine v_goto o (tgt := 6) dX7_hashOfLoaf_33 (by decide) ?_
          refine v_sub [2, 3, 4, 1, 0] (lv2 := [(0, .ref a), (1, .long p1), (3, .int p3), (4, .long x4_28), (6, .int x6_30)]) rfl ?_
          exact ih.1 g23 x4_28 x6_30  h.1 (by have := h.2; omega)
      · intro g x4 x6 hI hm
        have h := h63 g x4 x6 hI
        clear hI
        unfold bX7_hashOfLoaf_63 at h
        refine v_iload o 4 dX7_hashOfLoaf_63 rfl ?_
        refine v_iconst o (v := 3) dX7_hashOfLoaf_65 (by decide) ?_
        refine v_icmp_gt o (tgt := 92) dX7_hashOfLoaf_66 (by decide) (fun c66 => ?_) (fun c66 => ?_)
        · replace h := h.1 c66
          refine v_aload_n o 0 dX7_hashOfLoaf_92 rfl ?_
          refine v_gfR o lkX7_19 (by decide) (wfComp_o ha) (wfComp_r1 ha) dX7_hashOfLoaf_93 ?_
          refine v_iload_n o 2 dX7_hashOfLoaf_96 rfl ?_
          refine v_cVr o [.int p3] [] (fun sz => metX0_at l G P g sz (a + 4) (wfComp_t1 ha) p3) (cwX7_102 o.1.2.2.2.2 (by decide)) ⟨_, _, rfl⟩ (by decide) (wfBoard_o (wfComp_t1 ha)) rfl (Nat.le_of_ble_eq_true rfl) ⟨Nat.le_of_ble_eq_true rfl, Nat.le_of_ble_eq_true rfl⟩ dX7_hashOfLoaf_97 rfl (fun r97 g97 h97 => ?_)
          obtain ⟨rfl, rfl⟩ := h97
          refine v_lload o 3 dX7_hashOfLoaf_100 rfl ?_
          refine v_cVl o [.long x4] [] (fun sz => metX2_hashOfParts l G P g sz (atB (a + 4) p3) (is_atB (wfComp_t1 ha) p3) x4 _ h) (cwX7_341 o.1.2.2.2.2 (by decide)) ⟨_, _, rfl⟩ (by decide) (wfLoaf_o (is_atB (wfComp_t1 ha) p3)) rfl (Nat.le_of_ble_eq_true rfl) ⟨Nat.le_of_ble_eq_true rfl, Nat.le_of_ble_eq_true rfl⟩ dX7_hashOfLoaf_102 rfl (fun r102 g102 h => ?_)
          refine v_lstore o (lv' := [(4, .long r102), (0, .ref a), (1, .long p1), (3, .int p3), (6, .int x6)]) dX7_hashOfLoaf_105 (by decide) rfl ?_
          refine v_iconst o (v := 0) dX7_hashOfLoaf_107 (by decide) ?_
          refine v_istore o (lv' := [(6, .int 0), (4, .long r102), (0, .ref a), (1, .long p1), (3, .int p3)]) dX7_hashOfLoaf_108 (by decide) rfl ?_
          refine v_sub [2, 3, 4, 1, 0] (lv2 := [(0, .ref a), (1, .long p1), (3, .int p3), (4, .long r102), (6, .int 0)]) rfl ?_
          exact ih.2.2 g102 r102 0  h.1 (by have := h.2; omega)
        · replace h := h.2 c66
          refine v_ldc2 o (v := 31) dX7_hashOfLoaf_69 (mU 396 (by decide +kernel) rfl) ?_
          refine v_lload o 3 dX7_hashOfLoaf_72 rfl ?_
          refine v_lmul o dX7_hashOfLoaf_74 ?_
          refine v_aload_n o 0 dX7_hashOfLoaf_75 rfl ?_
          refine v_iload_n o 2 dX7_hashOfLoaf_76 rfl ?_
          refine v_iload o 4 dX7_hashOfLoaf_77 rfl ?_
          refine v_cVi o [.int p3, .int x6] [.long (31 * x4)] (fun sz => metX7_looseSizeIfChanged l G P g sz a ha p3 x6 _ h) (cwX7_218 o.1.2.2.2.2 (by decide)) ⟨_, _, rfl⟩ (by decide) (wfComp_o ha) rfl (Nat.le_of_ble_eq_true rfl) ⟨Nat.le_of_ble_eq_true rfl, Nat.le_of_ble_eq_true rfl⟩ dX7_hashOfLoaf_79 rfl (fun r79 g79 h => ?_)
          refine v_i2l o dX7_hashOfLoaf_82 ?_
          refine v_ladd o dX7_hashOfLoaf_83 ?_
          refine v_topl (fun x4_84 ex4_84 => ?_)
          replace h := h x4_84 ex4_84
          refine v_lstore o (lv' := [(4, .long x4_84), (0, .ref a), (1, .long p1), (3, .int p3), (6, .int x6)]) dX7_hashOfLoaf_84 (by decide) rfl ?_
          obtain ⟨x6_86, ex6_86⟩ : ∃ y : Int32, y = x6 + 1 := ⟨_, rfl⟩
          replace h := h x6_86 ex6_86
          refine v_iinc o (v := x6_86) (lv' := [(6, .int x6_86), (4, .long x4_84), (0, .ref a), (1, .long p1), (3, .int p3)]) 4 dX7_hashOfLoaf_86 rfl (by rw [ex6_86]; rfl) (by decide) rfl ?_
          refine v_goto o (tgt := 63) dX7_hashOfLoaf_89 (by decide) ?_
          refine v_sub [2, 3, 4, 1, 0] (lv2 := [(0, .ref a), (1, .long p1), (3, .int p3), (4, .long x4_84), (6, .int x6_86)]) rfl ?_
          exact ih.2.1 g79 x4_84 x6_86  h.1 (by have := h.2; omega)
      · intro g x4 x6 hI hm
        have h := h110 g x4 x6 hI
        clear hI
        unfold bX7_hashOfLoaf_110 at h
        refine v_iload o 4 dX7_hashOfLoaf_110 rfl ?_
        refine v_aload_n o 0 dX7_hashOfLoaf_112 rfl ?_
        refine v_gfR o lkX7_19 (by decide) (wfComp_o ha) (wfComp_r1 ha) dX7_hashOfLoaf_113 ?_
        refine v_cVi o [] [.int x6] (fun sz => metX0_size l G P g sz (a + 4) (wfComp_t1 ha) _ h) (cwX7_65 o.1.2.2.2.2 (by decide)) ⟨_, _, rfl⟩ (by decide) (wfBoard_o (wfComp_t1 ha)) rfl (Nat.le_of_ble_eq_true rfl) ⟨Nat.le_of_ble_eq_true rfl, Nat.le_of_ble_eq_true rfl⟩ dX7_hashOfLoaf_116 rfl (fun r116 g116 h => ?_)
        refine v_icmp_ge o (tgt := 145) dX7_hashOfLoaf_119 (by decide) (fun c119 => ?_) (fun c119 => ?_)
        · replace h := h.1 c119
          refine v_lload o 3 dX7_hashOfLoaf_145 rfl ?_
          exact v_lret o rfl hr dX7_hashOfLoaf_147 h
        · replace h := h.2 c119
          refine v_ldc2 o (v := 31) dX7_hashOfLoaf_122 (mU 396 (by decide +kernel) rfl) ?_
          refine v_lload o 3 dX7_hashOfLoaf_125 rfl ?_
          refine v_lmul o dX7_hashOfLoaf_127 ?_
          refine v_aload_n o 0 dX7_hashOfLoaf_128 rfl ?_
          refine v_iload_n o 2 dX7_hashOfLoaf_129 rfl ?_
          refine v_iload o 4 dX7_hashOfLoaf_130 rfl ?_
          refine v_cVi o [.int p3, .int x6] [.long (31 * x4)] (fun sz => metX7_likeness l G P g116 sz a ha p3 x6 _ h) (cwX7_221 o.1.2.2.2.2 (by decide)) ⟨_, _, rfl⟩ (by decide) (wfComp_o ha) rfl (Nat.le_of_ble_eq_true rfl) ⟨Nat.le_of_ble_eq_true rfl, Nat.le_of_ble_eq_true rfl⟩ dX7_hashOfLoaf_132 rfl (fun r132 g132 h => ?_)
          refine v_i2l o dX7_hashOfLoaf_135 ?_
          refine v_ladd o dX7_hashOfLoaf_136 ?_
          refine v_topl (fun x4_137 ex4_137 => ?_)
          replace h := h x4_137 ex4_137
          refine v_lstore o (lv' := [(4, .long x4_137), (0, .ref a), (1, .long p1), (3, .int p3), (6, .int x6)]) dX7_hashOfLoaf_137 (by decide) rfl ?_
          obtain ⟨x6_139, ex6_139⟩ : ∃ y : Int32, y = x6 + 1 := ⟨_, rfl⟩
          replace h := h x6_139 ex6_139
          refine v_iinc o (v := x6_139) (lv' := [(6, .int x6_139), (4, .long x4_137), (0, .ref a), (1, .long p1), (3, .int p3)]) 4 dX7_hashOfLoaf_139 rfl (by rw [ex6_139]; rfl) (by decide) rfl ?_
          refine v_goto o (tgt := 110) dX7_hashOfLoaf_142 (by decide) ?_
          refine v_sub [2, 3, 4, 1, 0] (lv2 := [(0, .ref a), (1, .long p1), (3, .int p3), (4, .long x4_137), (6, .int x6_139)]) rfl ?_
          exact ih.2.2 g132 x4_137 x6_139  h.1 (by have := h.2; omega)
  unfold vX7_hashOfLoaf at h
  refine v_lload_n o 1 dX7_hashOfLoaf_0 rfl ?_
  refine v_lstore o (lv' := [(4, .long p1), (0, .ref a), (1, .long p1), (3, .int p3)]) dX7_hashOfLoaf_1 (by decide) rfl ?_
  refine v_iconst o (v := 0) dX7_hashOfLoaf_3 (by decide) ?_
  refine v_istore o (lv' := [(6, .int 0), (4, .long p1), (0, .ref a), (1, .long p1), (3, .int p3)]) dX7_hashOfLoaf_4 (by decide) rfl ?_
  refine v_sub [2, 3, 4, 1, 0] (lv2 := [(0, .ref a), (1, .long p1), (3, .int p3), (4, .long p1), (6, .int 0)]) rfl ?_
  exact (main (μ6 f p1 0 + 1)).1 f p1 0  h (Nat.lt_succ_self _)
def WX7_hashOfLoaf (P : Sk) (f : St) (a : Nat) (p1 : Int64) (p3 : Int32) (K : Int64 → St → Prop) : Prop := ∃ (I6 : St → Int64 → Int32 → Prop) (I63 : St → Int64 → Int32 → Prop) (I110 : St → Int64 → Int32 → Prop) (μ6 : St → Int64 → Int32 → Nat) (μ63 : St → Int64 → Int32 → Nat) (μ110 : St → Int64 → Int32 → Nat), (vX7_hashOfLoaf P f a p1 p3 I6 I63 I110 K) ∧ (∀ (g : St) (x4 : Int64) (x6 : Int32) , I6 g x4 x6 → bX7_hashOfLoaf_6 P a p1 p3 (fun g' z0 z1 => I6 g' z0 z1 ∧ μ6 g' z0 z1 < μ6 g x4 x6) (fun g' z0 z1 => I63 g' z0 z1 ∧ μ63 g' z0 z1 < μ6 g x4 x6) (fun g' z0 z1 => I110 g' z0 z1 ∧ μ110 g' z0 z1 < μ6 g x4 x6) K g x4 x6) ∧ (∀ (g : St) (x4 : Int64) (x6 : Int32) , I63 g x4 x6 → bX7_hashOfLoaf_63 P a p1 p3 (fun g' z0 z1 => I6 g' z0 z1 ∧ μ6 g' z0 z1 < μ63 g x4 x6) (fun g' z0 z1 => I63 g' z0 z1 ∧ μ63 g' z0 z1 < μ63 g x4 x6) (fun g' z0 z1 => I110 g' z0 z1 ∧ μ110 g' z0 z1 < μ63 g x4 x6) K g x4 x6) ∧ (∀ (g : St) (x4 : Int64) (x6 : Int32) , I110 g x4 x6 → bX7_hashOfLoaf_110 P a p1 p3 (fun g' z0 z1 => I6 g' z0 z1 ∧ μ6 g' z0 z1 < μ110 g x4 x6) (fun g' z0 z1 => I63 g' z0 z1 ∧ μ63 g' z0 z1 < μ110 g x4 x6) (fun g' z0 z1 => I110 g' z0 z1 ∧ μ110 g' z0 z1 < μ110 g x4 x6) K g x4 x6)
noncomputable def hsA (ls : List Lf) (i : Nat) (h : Int64) : Int64 := 31 * hN (nL ls i) 11 h + (nI (perV (lfAt ls i))).toInt64
noncomputable def hsB (ls : List Lf) (i : Nat) (h : Int64) : Int64 := hN (fun how => nI (NF (chg (lfAt ls i).1 (lfAt ls i).2 how)).length) 4 (hsA ls i h)
noncomputable def hsL (ls : List Lf) (i : Nat) (h : Int64) : Int64 := hN (fun o => nI (lk (lfAt ls i) (lfAt ls o))) ls.length (hsP (lfAt ls i) (hsB ls i h))
def kX7_hashOfLoaf (P : Sk) (f : St) (a : Nat) (p1 : Int64) (p3 : Int32) (K : Int64 → St → Prop) : Prop := ∃ A i, p3 = nI i ∧ i < A.1.1.length ∧ CompIs f a A ∧ ∀ g, Fr f g a (a + 1438) → CompIs g a A → K (hsL A.1.1 i p1) g
theorem wX7_hashOfLoaf (P : Sk) (f : St) (a : Nat) (ha : IsComp P a) (p1 : Int64) (p3 : Int32) (K : Int64 → St → Prop) (h : kX7_hashOfLoaf P f a p1 p3 K) : WX7_hashOfLoaf P f a p1 p3 K := by
  obtain ⟨A, i, rfl, hi, hC, hK⟩ := h
  have h6 := hC.2.2.2.2.2.1
  have hl6 := h6.1
  obtain ⟨hb, hb2⟩ := hasB_n hi h6
  have hk := h6.at hi
  refine ⟨fun g x4 x6 => ∃ k, x6 = nI k ∧ k ≤ 11 ∧ Fr f g a (a + 1438) ∧ CompIs g a A ∧ x4 = hN (nL A.1.1 i) k p1,
    fun g x4 x6 => ∃ k, x6 = nI k ∧ k ≤ 4 ∧ Fr f g a (a + 1438) ∧ CompIs g a A ∧ x4 = hN (fun how => nI (NF (chg (lfAt A.1.1 i).1 (lfAt A.1.1 i).2 how)).length) k (hsA A.1.1 i p1),
    fun g x4 x6 => ∃ k, x6 = nI k ∧ k ≤ A.1.1.length ∧ Fr f g a (a + 1438) ∧ CompIs g a A ∧ x4 = hN (fun o => nI (lk (lfAt A.1.1 i) (lfAt A.1.1 o))) k (hsP (lfAt A.1.1 i) (hsB A.1.1 i p1)),
    fun g x4 x6 => 2000 + (11 - x6.toNatClampNeg), fun g x4 x6 => 1000 + (4 - x6.toNatClampNeg), fun g x4 x6 => A.1.1.length - x6.toNatClampNeg, ?_, ?_, ?_, ?_⟩
  · exact ⟨0, rfl, by omega, Fr.refl _ _ _, hC, rfl⟩
  · rintro g x4 x6 ⟨k, rfl, hk11, hfr, hCg, rfl⟩
    unfold bX7_hashOfLoaf_6
    rw [show (10 : Int32) = nI 10 from rfl, nI_ltI (by omega) (by omega)]
    refine ⟨fun q => ?_, fun q => ?_⟩
    · have hL := hCg.2.1.atP h6 hb
      rw [hb2] at hL
      refine ⟨_, _, hL.2.2.ends hk.1, ?_⟩
      intro y e
      rw [show k = 11 by omega] at e
      refine ⟨⟨0, rfl, by omega, hfr, hCg, e⟩, ?_⟩
      show 1000 + (4 - (nI 0).toNatClampNeg) < 2000 + (11 - (nI k).toNatClampNeg)
      omega
    · refine u7_numberOfLoaf ha hCg hi (by omega) (fun g2 r2 hC2 => ?_)
      rw [nI_1]
      intro y e z e2
      refine ⟨⟨k + 1, e2, by omega, hfr.trans r2, hC2, e⟩, ?_⟩
      show 2000 + (11 - z.toNatClampNeg) < 2000 + (11 - (nI k).toNatClampNeg)
      have := mu_up (N := 11) e2 (by omega) (by omega)
      omega
  · rintro g x4 x6 ⟨k, rfl, hk4, hfr, hCg, rfl⟩
    unfold bX7_hashOfLoaf_63
    rw [show (3 : Int32) = nI 3 from rfl, nI_ltI (by omega) (by omega)]
    refine ⟨fun q => ?_, fun q => ?_⟩
    · have hL := hCg.2.1.atP h6 hb
      rw [hb2] at hL
      refine ⟨_, hL, hk, ?_⟩
      rw [show k = 4 by omega]
      refine ⟨⟨0, rfl, Nat.zero_le _, hfr, hCg, rfl⟩, ?_⟩
      show A.1.1.length - (nI 0).toNatClampNeg < 1000 + (4 - (nI 4).toNatClampNeg)
      omega
    · refine u7_looseSize hCg hb (by omega) (fun g2 r2 hC2 => ?_)
      rw [nI_1, hb2]
      intro y e z e2
      refine ⟨⟨k + 1, e2, by omega, hfr.trans r2, hC2, e⟩, ?_⟩
      show 1000 + (4 - z.toNatClampNeg) < 1000 + (4 - (nI k).toNatClampNeg)
      have := mu_up (N := 4) e2 (by omega) (by omega)
      omega
  · rintro g x4 x6 ⟨k, rfl, hkl, hfr, hCg, rfl⟩
    unfold bX7_hashOfLoaf_110
    refine u0_size hCg.2.1.1 ?_
    rw [nI_leI (by omega) (by omega)]
    refine ⟨fun q => ?_, fun q => ?_⟩
    · rw [show k = A.1.1.length by omega]
      exact hK g hfr hCg
    · obtain ⟨hc, hc2⟩ := hasB_n (i := k) (show k < A.1.1.length by omega) h6
      refine ⟨A, hCg, hb, hc, fun g2 r2 hC2 => ?_⟩
      rw [nI_1, hb2, hc2]
      intro y e z e2
      exact ⟨⟨k + 1, e2, by omega, hfr.trans r2, hC2, e⟩, mu_up e2 (by omega) (by omega)⟩

theorem metX7_hashOfLoaf (l : Launch) (G : Gl) (P : Sk) (f : St) (sz : Nat) (a : Nat) (ha : IsComp P a) (p1 : Int64) (p3 : Int32) (K : Int64 → St → Prop) (h : kX7_hashOfLoaf P f a p1 p3 K) : Met l yX7_hashOfLoaf (wU yX7_hashOfLoaf cX7_hashOfLoaf 7 (some .long)) rmX7_hashOfLoaf (PcW G P f sz [.ref a, .long p1, .int p3]) (QcL G P sz K) 0 0 (frA P sz) := by
  obtain ⟨I6, I63, I110, μ6, μ63, μ110, qh, qh6, qh63, qh110⟩ := wX7_hashOfLoaf P f a ha p1 p3 K h
  exact mX7_hashOfLoaf l G P f sz a ha p1 p3 K I6 μ6 I63 μ63 I110 μ110 qh qh6 qh63 qh110

def jX7_bitsOfShare_50 (P : Sk) (p0 : UInt64) (L18 : St → UInt64 → Int64 → Int32 → Prop) (K : Int64 → St → Prop) (x2 : UInt64) (x4 : Int64) (x6 : Int32) (f : St) : Prop :=
  vf_n64 (FP.dsub x2 (FP.dconst1)) ∧ (vf_n64 (FP.dmul (FP.dsub x2 (FP.dconst1)) (4841369599423283200 : UInt64)) ∧ (∀ x6_58 : Int64, x6_58 = FP.d2l (FP.dmul (FP.dsub x2 (FP.dconst1)) (4841369599423283200 : UInt64)) → K ((x4 <<< ((52 : Int32).toInt64 &&& 63)) + x6_58) f))
def bX7_bitsOfShare_18 (P : Sk) (p0 : UInt64) (L18 : St → UInt64 → Int64 → Int32 → Prop) (K : Int64 → St → Prop) (f : St) (x2 : UInt64) (x4 : Int64) (x6 : Int32) : Prop :=
  (1023 ≤ x6 → jX7_bitsOfShare_50 P p0 L18 K x2 x4 x6 f) ∧ (¬ 1023 ≤ x6 → (0 ≤ Op.cmpValue (FP.dcmp x2 (FP.dconst1)) .g → jX7_bitsOfShare_50 P p0 L18 K x2 x4 x6 f) ∧ (¬ 0 ≤ Op.cmpValue (FP.dcmp x2 (FP.dconst1)) .g → vf_n64 (FP.dmul x2 (4611686018427387904 : UInt64)) ∧ (∀ x2_37 : UInt64, x2_37 = FP.dmul x2 (4611686018427387904 : UInt64) → ∀ x4_42 : Int64, x4_42 = x4 - 1 → ∀ x6_44 : Int32, x6_44 = x6 + 1 → L18 f x2_37 x4_42 x6_44)))
def vX7_bitsOfShare (P : Sk) (f : St) (p0 : UInt64) (L18 : St → UInt64 → Int64 → Int32 → Prop) (K : Int64 → St → Prop) : Prop :=
  (0 < Op.cmpValue (FP.dcmp p0 (FP.dconst0)) .g → L18 f p0 1023 0) ∧ (¬ 0 < Op.cmpValue (FP.dcmp p0 (FP.dconst0)) .g → K 0 f)
set_option maxRecDepth 20000 in
set_option maxHeartbeats 4000000 in
theorem mX7_bitsOfShare (l : Launch) (G : Gl) (P : Sk) (f : St) (sz : Nat) (p0 : UInt64) (K : Int64 → St → Prop) (I18 : St → UInt64 → Int64 → Int32 → Prop) (μ18 : St → UInt64 → Int64 → Int32 → Nat) 
  (h : vX7_bitsOfShare P f p0 I18 K)
  (h18 : ∀ (g : St) (x2 : UInt64) (x4 : Int64) (x6 : Int32) , I18 g x2 x4 x6 → bX7_bitsOfShare_18 P p0 (fun g' z0 z1 z2 => I18 g' z0 z1 z2 ∧ μ18 g' z0 z1 z2 < μ18 g x2 x4 x6) K g x2 x4 x6) :
  Met l yX7_bitsOfShare (wU yX7_bitsOfShare cX7_bitsOfShare 8 (some .long)) rmX7_bitsOfShare (PcW G P f sz [.double p0]) (QcL G P sz K) 0 0 (frA P sz) := by
  refine v_met (own := RX7) [.double p0] (by decide +kernel) rfl (Nat.le_of_ble_eq_true rfl) (fun p e s m args below meth c hsz o hr hnm => ?_)
  refine v_lv (lv2 := [(0, .double p0)]) rfl ?_
  have main : ∀ n : Nat, (∀ (g : St) (x2 : UInt64) (x4 : Int64) (x6 : Int32) , I18 g x2 x4 x6 → μ18 g x2 x4 x6 < n → V p l e rmX7_bitsOfShare s m args below meth c 8 G (frA P sz) (MQ below (QcL G P sz K) args s 0 0 (frA P sz)) 0 0 P [(0, .double p0), (2, .double x2), (4, .long x4), (6, .int x6)] [] 18 g) := by
    intro n
    induction n with
    | zero => exact fun g x2 x4 x6 hI hm => absurd hm (Nat.not_lt_zero _)
    | succ n ih =>
      intro g x2 x4 x6 hI hm
      have h := h18 g x2 x4 x6 hI
      clear hI
      have J50 : ∀ (x2_50 : UInt64) (x4_50 : Int64) (x6_50 : Int32) (g50 : St), jX7_bitsOfShare_50 P p0 (fun g' z0 z1 z2 => I18 g' z0 z1 z2 ∧ μ18 g' z0 z1 z2 < μ18 g x2 x4 x6) K x2_50 x4_50 x6_50 g50 → V p l e rmX7_bitsOfShare s m args below meth c 8 G (frA P sz) (MQ below (QcL G P sz K) args s 0 0 (frA P sz)) 0 0 P [(0, .double p0), (2, .double x2_50), (4, .long x4_50), (6, .int x6_50)] [] 50 g50 := by
        intro x2_50 x4_50 x6_50 g50  h
        unfold jX7_bitsOfShare_50 at h
        refine v_dload_n o 1 dX7_bitsOfShare_50 rfl ?_
        refine v_dconst1 o dX7_bitsOfShare_51 ?_
        refine v_dsub o dX7_bitsOfShare_52 h.1 ?_
        replace h := h.2
        refine v_ldc2d o (v := 4841369599423283200) dX7_bitsOfShare_53 (mU 601 (by decide +kernel) rfl) ?_
        refine v_dmul o dX7_bitsOfShare_56 h.1 ?_
        replace h := h.2
        refine v_d2l o dX7_bitsOfShare_57 ?_
        refine v_topl (fun x6_58 ex6_58 => ?_)
        replace h := h x6_58 ex6_58
        refine v_lstore o (lv' := [(6, .long x6_58), (0, .double p0), (2, .double x2_50), (4, .long x4_50)]) dX7_bitsOfShare_58 (by decide) rfl ?_
        refine v_lload o 3 dX7_bitsOfShare_60 rfl ?_
        refine v_bipush o (v := 52) dX7_bitsOfShare_62 (by decide) ?_
        refine v_lshl o dX7_bitsOfShare_64 ?_
        refine v_lload o 0 dX7_bitsOfShare_65 rfl ?_
        refine v_ladd o dX7_bitsOfShare_67 ?_
        exact v_lret o rfl hr dX7_bitsOfShare_68 h
      unfold bX7_bitsOfShare_18 at h
      refine v_iload o 3 dX7_bitsOfShare_18 rfl ?_
      refine v_sipush o (v := 1023) dX7_bitsOfShare_20 (by decide) ?_
      refine v_icmp_ge o (tgt := 50) dX7_bitsOfShare_23 (by decide) (fun c23 => ?_) (fun c23 => ?_)
      · replace h := h.1 c23
        refine v_sub [0, 1, 2, 3] (lv2 := [(0, .double p0), (2, .double x2), (4, .long x4), (6, .int x6)]) rfl ?_
        exact J50 x2 x4 x6 g  h
      · replace h := h.2 c23
        refine v_dload_n o 1 dX7_bitsOfShare_26 rfl ?_
        refine v_dconst1 o dX7_bitsOfShare_27 ?_
        refine v_dcmp o dX7_bitsOfShare_28 ?_
        refine v_if_ge o (tgt := 50) dX7_bitsOfShare_29 (by decide) (fun c29 => ?_) (fun c29 => ?_)
        · replace h := h.1 c29
          refine v_sub [0, 1, 2, 3] (lv2 := [(0, .double p0), (2, .double x2), (4, .long x4), (6, .int x6)]) rfl ?_
          exact J50 x2 x4 x6 g  h
        · replace h := h.2 c29
          refine v_dload_n o 1 dX7_bitsOfShare_32 rfl ?_
          refine v_ldc2d o (v := 4611686018427387904) dX7_bitsOfShare_33 (mU 600 (by decide +kernel) rfl) ?_
          refine v_dmul o dX7_bitsOfShare_36 h.1 ?_
          replace h := h.2
          refine v_topd (fun x2_37 ex2_37 => ?_)
          replace h := h x2_37 ex2_37
          refine v_dstore_n o (lv' := [(2, .double x2_37), (0, .double p0), (4, .long x4), (6, .int x6)]) dX7_bitsOfShare_37 rfl (by decide) rfl ?_
          refine v_lload o 2 dX7_bitsOfShare_38 rfl ?_
          refine v_lconst o (v := 1) dX7_bitsOfShare_40 (by decide) ?_
          refine v_lsub o dX7_bitsOfShare_41 ?_
          refine v_topl (fun x4_42 ex4_42 => ?_)
          replace h := h x4_42 ex4_42
          refine v_lstore o (lv' := [(4, .long x4_42), (2, .double x2_37), (0, .double p0), (6, .int x6)]) dX7_bitsOfShare_42 (by decide) rfl ?_
          obtain ⟨x6_44, ex6_44⟩ : ∃ y : Int32, y = x6 + 1 := ⟨_, rfl⟩
          replace h := h x6_44 ex6_44
          refine v_iinc o (v := x6_44) (lv' := [(6, .int x6_44), (4, .long x4_42), (2, .double x2_37), (0, .double p0)]) 3 dX7_bitsOfShare_44 rfl (by rw [ex6_44]; rfl) (by decide) rfl ?_
          refine v_goto o (tgt := 18) dX7_bitsOfShare_47 (by decide) ?_
          refine v_sub [3, 2, 1, 0] (lv2 := [(0, .double p0), (2, .double x2_37), (4, .long x4_42), (6, .int x6_44)]) rfl ?_
          exact ih g x2_37 x4_42 x6_44  h.1 (by have := h.2; omega)
  unfold vX7_bitsOfShare at h
  refine v_dload_n o 0 dX7_bitsOfShare_0 rfl ?_
  refine v_dconst0 o dX7_bitsOfShare_1 ?_
  refine v_dcmp o dX7_bitsOfShare_2 ?_
  refine v_if_gt o (tgt := 8) dX7_bitsOfShare_3 (by decide) (fun c3 => ?_) (fun c3 => ?_)
  · replace h := h.1 c3
    refine v_dload_n o 0 dX7_bitsOfShare_8 rfl ?_
    refine v_dstore_n o (lv' := [(2, .double p0), (0, .double p0)]) dX7_bitsOfShare_9 rfl (by decide) rfl ?_
    refine v_ldc2 o (v := 1023) dX7_bitsOfShare_10 (mU 599 (by decide +kernel) rfl) ?_
    refine v_lstore o (lv' := [(4, .long 1023), (2, .double p0), (0, .double p0)]) dX7_bitsOfShare_13 (by decide) rfl ?_
    refine v_iconst o (v := 0) dX7_bitsOfShare_15 (by decide) ?_
    refine v_istore o (lv' := [(6, .int 0), (4, .long 1023), (2, .double p0), (0, .double p0)]) dX7_bitsOfShare_16 (by decide) rfl ?_
    refine v_sub [3, 2, 1, 0] (lv2 := [(0, .double p0), (2, .double p0), (4, .long 1023), (6, .int 0)]) rfl ?_
    exact (main (μ18 f p0 1023 0 + 1)) f p0 1023 0  h (Nat.lt_succ_self _)
  · replace h := h.2 c3
    refine v_lconst o (v := 0) dX7_bitsOfShare_6 (by decide) ?_
    exact v_lret o rfl hr dX7_bitsOfShare_7 h
def WX7_bitsOfShare (P : Sk) (f : St) (p0 : UInt64) (K : Int64 → St → Prop) : Prop := ∃ (I18 : St → UInt64 → Int64 → Int32 → Prop) (μ18 : St → UInt64 → Int64 → Int32 → Nat), (vX7_bitsOfShare P f p0 I18 K) ∧ (∀ (g : St) (x2 : UInt64) (x4 : Int64) (x6 : Int32) , I18 g x2 x4 x6 → bX7_bitsOfShare_18 P p0 (fun g' z0 z1 z2 => I18 g' z0 z1 z2 ∧ μ18 g' z0 z1 z2 < μ18 g x2 x4 x6) K g x2 x4 x6)
def kX7_bitsOfShare (P : Sk) (f : St) (p0 : UInt64) (K : Int64 → St → Prop) : Prop := ∃ v, bitsC p0 = some v ∧ K v f
theorem wX7_bitsOfShare (P : Sk) (f : St) (p0 : UInt64) (K : Int64 → St → Prop) (h : kX7_bitsOfShare P f p0 K) : WX7_bitsOfShare P f p0 K := by
  obtain ⟨v, hv, hK⟩ := h
  unfold bitsC at hv
  refine ⟨fun g x2 x4 x6 => ∃ k fu, x6 = nI k ∧ g = f ∧ k + fu = 20 ∧ bsF fu x2 x4 = some v, fun g x2 x4 x6 => 20 - x6.toNatClampNeg, ?_, ?_⟩
  · unfold vX7_bitsOfShare
    refine ⟨fun q => ?_, fun q => ?_⟩
    · rw [if_pos q] at hv
      exact ⟨0, 20, rfl, rfl, rfl, hv⟩
    · rw [if_neg q] at hv
      have e := Option.some.inj hv
      rw [← e] at hK
      exact hK
  · rintro g x2 x4 x6 ⟨k, fu, rfl, rfl, hkf, hb⟩
    cases fu with
    | zero =>
      rw [bsF] at hb
      simp at hb
    | succ fu =>
      rw [bsF] at hb
      unfold bX7_bitsOfShare_18
      refine ⟨fun q => ?_, fun _ => ⟨fun q => ?_, fun q => ?_⟩⟩
      · have q2 : nI 1023 ≤ nI k := q
        rw [nI_leI (by omega) (by omega)] at q2
        omega
      · rw [if_pos q] at hb
        unfold jX7_bitsOfShare_50
        cases c : (nn (FP.dsub x2 (FP.dconst1)) && nn (FP.dmul (FP.dsub x2 (FP.dconst1)) (4841369599423283200 : UInt64))) with
        | false =>
          rw [c] at hb
          simp at hb
        | true =>
          rw [c] at hb
          have c2 := Bool.and_eq_true_iff.mp c
          have e := Option.some.inj hb
          refine ⟨nn_ok c2.1, nn_ok c2.2, fun y ey => ?_⟩
          rw [ey, e]
          exact hK
      · rw [if_neg q] at hb
        cases c : nn (FP.dmul x2 (4611686018427387904 : UInt64)) with
        | false =>
          rw [c] at hb
          simp at hb
        | true =>
          rw [c] at hb
          refine ⟨nn_ok c, fun y ey z ez t et => ?_⟩
          rw [nI_1] at et
          refine ⟨⟨k + 1, fu, et, rfl, by omega, ?_⟩, mu_up et (by omega) (by omega)⟩
          rw [ey, ez]
          exact hb

theorem metX7_bitsOfShare (l : Launch) (G : Gl) (P : Sk) (f : St) (sz : Nat) (p0 : UInt64) (K : Int64 → St → Prop) (h : kX7_bitsOfShare P f p0 K) : Met l yX7_bitsOfShare (wU yX7_bitsOfShare cX7_bitsOfShare 8 (some .long)) rmX7_bitsOfShare (PcW G P f sz [.double p0]) (QcL G P sz K) 0 0 (frA P sz) := by
  obtain ⟨I18, μ18, qh, qh18⟩ := wX7_bitsOfShare P f p0 K h
  exact mX7_bitsOfShare l G P f sz p0 K I18 μ18 qh qh18

def bX7_digest_6 (P : Sk) (a : Nat) (L6 : St → Int64 → Int32 → Prop) (L33 : St → Int64 → Int32 → Prop) (L118 : St → Int64 → Int32 → Prop) (K : Int64 → St → Prop) (f : St) (x1 : Int64) (x3 : Int32) : Prop :=
  (6 < x3 → L33 f x1 0) ∧ (¬ 6 < x3 → kX7_numberOfBoard P f a x3 (fun r19 g19 => ∀ x1_24 : Int64, x1_24 = (31 * x1) + (r19.toInt64) → ∀ x3_25 : Int32, x3_25 = x3 + 1 → L6 g19 x1_24 x3_25))
def bX7_digest_33 (P : Sk) (a : Nat) (L6 : St → Int64 → Int32 → Prop) (L33 : St → Int64 → Int32 → Prop) (L118 : St → Int64 → Int32 → Prop) (K : Int64 → St → Prop) (f : St) (x1 : Int64) (x3 : Int32) : Prop :=
  kX0_size P f (a + 4) (fun r38 g38 => (r38 ≤ x3 → kX0_stopPart P g38 (a + 4) (fun r66 g66 => ∀ x1_71 : Int64, x1_71 = (31 * x1) + (r66.toInt64) → kX0_stopReason P g66 (a + 4) (fun r81 g81 => ∀ x1_86 : Int64, x1_86 = (31 * x1_71) + (r81.toInt64) → kX7_looseShare P g81 a (fun r93 g93 => kX7_bitsOfShare P g93 r93 (fun r96 g96 => ∀ x1_100 : Int64, x1_100 = (31 * x1_86) + r96 → kX4_size P g96 (a + 1) (fun r110 g110 => ∀ x1_115 : Int64, x1_115 = (31 * x1_100) + (r110.toInt64) → L118 g110 x1_115 0)))))) ∧ (¬ r38 ≤ x3 → kX7_hashOfLoaf P g38 a x1 x3 (fun r47 g47 => ∀ x3_51 : Int32, x3_51 = x3 + 1 → L33 g47 r47 x3_51)))
def bX7_digest_118 (P : Sk) (a : Nat) (L6 : St → Int64 → Int32 → Prop) (L33 : St → Int64 → Int32 → Prop) (L118 : St → Int64 → Int32 → Prop) (K : Int64 → St → Prop) (f : St) (x1 : Int64) (x3 : Int32) : Prop :=
  kX4_size P f (a + 1) (fun r123 g123 => (r123 ≤ x3 → K x1 g123) ∧ (¬ r123 ≤ x3 → kX4_signAt P g123 (a + 1) x3 (fun r139 g139 => ∀ x1_144 : Int64, x1_144 = (31 * x1) + (r139.toInt64) → ∀ x3_145 : Int32, x3_145 = x3 + 1 → L118 g139 x1_144 x3_145)))
def vX7_digest (P : Sk) (f : St) (a : Nat) (L6 : St → Int64 → Int32 → Prop) (L33 : St → Int64 → Int32 → Prop) (L118 : St → Int64 → Int32 → Prop) (K : Int64 → St → Prop) : Prop :=
  L6 f 4051 0
set_option maxRecDepth 20000 in
set_option maxHeartbeats 4000000 in
theorem mX7_digest (l : Launch) (G : Gl) (P : Sk) (f : St) (sz : Nat) (a : Nat) (ha : IsComp P a) (K : Int64 → St → Prop) (I6 : St → Int64 → Int32 → Prop) (μ6 : St → Int64 → Int32 → Nat) (I33 : St → Int64 → Int32 → Prop) (μ33 : St → Int64 → Int32 → Nat) (I118 : St → Int64 → Int32 → Prop) (μ118 : St → Int64 → Int32 → Nat) 
  (h : vX7_digest P f a I6 I33 I118 K)
  (h6 : ∀ (g : St) (x1 : Int64) (x3 : Int32) , I6 g x1 x3 → bX7_digest_6 P a (fun g' z0 z1 => I6 g' z0 z1 ∧ μ6 g' z0 z1 < μ6 g x1 x3) (fun g' z0 z1 => I33 g' z0 z1 ∧ μ33 g' z0 z1 < μ6 g x1 x3) (fun g' z0 z1 => I118 g' z0 z1 ∧ μ118 g' z0 z1 < μ6 g x1 x3) K g x1 x3)
  (h33 : ∀ (g : St) (x1 : Int64) (x3 : Int32) , I33 g x1 x3 → bX7_digest_33 P a (fun g' z0 z1 => I6 g' z0 z1 ∧ μ6 g' z0 z1 < μ33 g x1 x3) (fun g' z0 z1 => I33 g' z0 z1 ∧ μ33 g' z0 z1 < μ33 g x1 x3) (fun g' z0 z1 => I118 g' z0 z1 ∧ μ118 g' z0 z1 < μ33 g x1 x3) K g x1 x3)
  (h118 : ∀ (g : St) (x1 : Int64) (x3 : Int32) , I118 g x1 x3 → bX7_digest_118 P a (fun g' z0 z1 => I6 g' z0 z1 ∧ μ6 g' z0 z1 < μ118 g x1 x3) (fun g' z0 z1 => I33 g' z0 z1 ∧ μ33 g' z0 z1 < μ118 g x1 x3) (fun g' z0 z1 => I118 g' z0 z1 ∧ μ118 g' z0 z1 < μ118 g x1 x3) K g x1 x3) :
  Met l yX7_digest (wU yX7_digest cX7_digest 4 (some .long)) rmX7_digest (PcW G P f sz [.ref a]) (QcL G P sz K) 0 0 (frA P sz) := by
  refine v_met (own := RX7) [.ref a] (by decide +kernel) rfl (Nat.le_of_ble_eq_true rfl) (fun p e s m args below meth c hsz o hr hnm => ?_)
  refine v_lv (lv2 := [(0, .ref a)]) rfl ?_
  have main : ∀ n : Nat, (∀ (g : St) (x1 : Int64) (x3 : Int32) , I6 g x1 x3 → μ6 g x1 x3 < n → V p l e rmX7_digest s m args below meth c 4 G (frA P sz) (MQ below (QcL G P sz K) args s 0 0 (frA P sz)) 0 0 P [(0, .ref a), (1, .long x1), (3, .int x3)] [] 6 g) ∧ (∀ (g : St) (x1 : Int64) (x3 : Int32) , I33 g x1 x3 → μ33 g x1 x3 < n → V p l e rmX7_digest s m args below meth c 4 G (frA P sz) (MQ below (QcL G P sz K) args s 0 0 (frA P sz)) 0 0 P [(0, .ref a), (1, .long x1), (3, .int x3)] [] 33 g) ∧ (∀ (g : St) (x1 : Int64) (x3 : Int32) , I118 g x1 x3 → μ118 g x1 x3 < n → V p l e rmX7_digest s m args below meth c 4 G (frA P sz) (MQ below (QcL G P sz K) args s 0 0 (frA P sz)) 0 0 P [(0, .ref a), (1, .long x1), (3, .int x3)] [] 118 g) := by
    intro n
    induction n with
    | zero => exact ⟨fun g x1 x3 hI hm => absurd hm (Nat.not_lt_zero _), fun g x1 x3 hI hm => absurd hm (Nat.not_lt_zero _), fun g x1 x3 hI hm => absurd hm (Nat.not_lt_zero _)⟩
    | succ n ih =>
      refine ⟨?_, ?_, ?_⟩
      · intro g x1 x3 hI hm
        have h := h6 g x1 x3 hI
        clear hI
        unfold bX7_digest_6 at h
        refine v_iload_n o 2 dX7_digest_6 rfl ?_
        refine v_bipush o (v := 6) dX7_digest_7 (by decide) ?_
        refine v_icmp_gt o (tgt := 31) dX7_digest_9 (by decide) (fun c9 => ?_) (fun c9 => ?_)
        · replace h := h.1 c9
          refine v_iconst o (v := 0) dX7_digest_31 (by decide) ?_
          refine v_istore_n o (lv' := [(3, .int 0), (0, .ref a), (1, .long x1)]) dX7_digest_32 rfl (by decide) rfl ?_
          refine v_sub [1, 2, 0] (lv2 := [(0, .ref a), (1, .long x1), (3, .int 0)]) rfl ?_
          exact ih.2.1 g x1 0  h.1 (by have := h.2; omega)
        · replace h := h.2 c9
          refine v_ldc2 o (v := 31) dX7_digest_12 (mU 396 (by decide +kernel) rfl) ?_
          refine v_lload_n o 1 dX7_digest_15 rfl ?_
          refine v_lmul o dX7_digest_16 ?_
          refine v_aload_n o 0 dX7_digest_17 rfl ?_
          refine v_iload_n o 2 dX7_digest_18 rfl ?_
          refine v_cVi o [.int x3] [.long (31 * x1)] (fun sz => metX7_numberOfBoard l G P g sz a ha x3 _ h) (cwX7_215 o.1.2.2.2.2 (by decide)) ⟨_, _, rfl⟩ (by decide) (wfComp_o ha) rfl (Nat.le_of_ble_eq_true rfl) ⟨Nat.le_of_ble_eq_true rfl, Nat.le_of_ble_eq_true rfl⟩ dX7_digest_19 rfl (fun r19 g19 h => ?_)
          refine v_i2l o dX7_digest_22 ?_
          refine v_ladd o dX7_digest_23 ?_
          refine v_topl (fun x1_24 ex1_24 => ?_)
          replace h := h x1_24 ex1_24
          refine v_lstore_n o (lv' := [(1, .long x1_24), (0, .ref a), (3, .int x3)]) dX7_digest_24 rfl (by decide) rfl ?_
          obtain ⟨x3_25, ex3_25⟩ : ∃ y : Int32, y = x3 + 1 := ⟨_, rfl⟩
          replace h := h x3_25 ex3_25
          refine v_iinc o (v := x3_25) (lv' := [(3, .int x3_25), (1, .long x1_24), (0, .ref a)]) 2 dX7_digest_25 rfl (by rw [ex3_25]; rfl) (by decide) rfl ?_
          refine v_goto o (tgt := 6) dX7_digest_28 (by decide) ?_
          refine v_sub [2, 1, 0] (lv2 := [(0, .ref a), (1, .long x1_24), (3, .int x3_25)]) rfl ?_
          exact ih.1 g19 x1_24 x3_25  h.1 (by have := h.2; omega)
      · intro g x1 x3 hI hm
        have h := h33 g x1 x3 hI
        clear hI
        unfold bX7_digest_33 at h
        refine v_iload_n o 2 dX7_digest_33 rfl ?_
        refine v_aload_n o 0 dX7_digest_34 rfl ?_
        refine v_gfR o lkX7_19 (by decide) (wfComp_o ha) (wfComp_r1 ha) dX7_digest_35 ?_
        refine v_cVi o [] [.int x3] (fun sz => metX0_size l G P g sz (a + 4) (wfComp_t1 ha) _ h) (cwX7_65 o.1.2.2.2.2 (by decide)) ⟨_, _, rfl⟩ (by decide) (wfBoard_o (wfComp_t1 ha)) rfl (Nat.le_of_ble_eq_true rfl) ⟨Nat.le_of_ble_eq_true rfl, Nat.le_of_ble_eq_true rfl⟩ dX7_digest_38 rfl (fun r38 g38 h => ?_)
        refine v_icmp_ge o (tgt := 57) dX7_digest_41 (by decide) (fun c41 => ?_) (fun c41 => ?_)
        · replace h := h.1 c41
          refine v_ldc2 o (v := 31) dX7_digest_57 (mU 396 (by decide +kernel) rfl) ?_
          refine v_lload_n o 1 dX7_digest_60 rfl ?_
          refine v_lmul o dX7_digest_61 ?_
          refine v_aload_n o 0 dX7_digest_62 rfl ?_
          refine v_gfR o lkX7_19 (by decide) (wfComp_o ha) (wfComp_r1 ha) dX7_digest_63 ?_
          refine v_cVi o [] [.long (31 * x1)] (fun sz => metX0_stopPart l G P g38 sz (a + 4) (wfComp_t1 ha) _ h) (cwX7_184 o.1.2.2.2.2 (by decide)) ⟨_, _, rfl⟩ (by decide) (wfBoard_o (wfComp_t1 ha)) rfl (Nat.le_of_ble_eq_true rfl) ⟨Nat.le_of_ble_eq_true rfl, Nat.le_of_ble_eq_true rfl⟩ dX7_digest_66 rfl (fun r66 g66 h => ?_)
          refine v_i2l o dX7_digest_69 ?_
          refine v_ladd o dX7_digest_70 ?_
          refine v_topl (fun x1_71 ex1_71 => ?_)
          replace h := h x1_71 ex1_71
          refine v_lstore_n o (lv' := [(1, .long x1_71), (0, .ref a), (3, .int x3)]) dX7_digest_71 rfl (by decide) rfl ?_
          refine v_ldc2 o (v := 31) dX7_digest_72 (mU 396 (by decide +kernel) rfl) ?_
          refine v_lload_n o 0 dX7_digest_75 rfl ?_
          refine v_lmul o dX7_digest_76 ?_
          refine v_aload_n o 1 dX7_digest_77 rfl ?_
          refine v_gfR o lkX7_19 (by decide) (wfComp_o ha) (wfComp_r1 ha) dX7_digest_78 ?_
          refine v_cVi o [] [.long (31 * x1_71)] (fun sz => metX0_stopReason l G P g66 sz (a + 4) (wfComp_t1 ha) _ h) (cwX7_187 o.1.2.2.2.2 (by decide)) ⟨_, _, rfl⟩ (by decide) (wfBoard_o (wfComp_t1 ha)) rfl (Nat.le_of_ble_eq_true rfl) ⟨Nat.le_of_ble_eq_true rfl, Nat.le_of_ble_eq_true rfl⟩ dX7_digest_81 rfl (fun r81 g81 h => ?_)
          refine v_i2l o dX7_digest_84 ?_
          refine v_ladd o dX7_digest_85 ?_
          refine v_topl (fun x1_86 ex1_86 => ?_)
          replace h := h x1_86 ex1_86
          refine v_lstore_n o (lv' := [(1, .long x1_86), (0, .ref a), (3, .int x3)]) dX7_digest_86 rfl (by decide) rfl ?_
          refine v_ldc2 o (v := 31) dX7_digest_87 (mU 396 (by decide +kernel) rfl) ?_
          refine v_lload_n o 0 dX7_digest_90 rfl ?_
          refine v_lmul o dX7_digest_91 ?_
          refine v_aload_n o 1 dX7_digest_92 rfl ?_
          refine v_cVd o [] [.long (31 * x1_86)] (fun sz => metX7_looseShare l G P g81 sz a ha _ h) (cwX7_238 o.1.2.2.2.2 (by decide)) ⟨_, _, rfl⟩ (by decide) (wfComp_o ha) rfl (Nat.le_of_ble_eq_true rfl) ⟨Nat.le_of_ble_eq_true rfl, Nat.le_of_ble_eq_true rfl⟩ dX7_digest_93 rfl (fun r93 g93 h => ?_)
          refine v_cSl o [.double r93] [.long (31 * x1_86)] (fun sz => metX7_bitsOfShare l G P g93 sz r93 _ h) (cwX7_242 o.1.2.2.2.2 (by decide)) rfl (Nat.le_of_ble_eq_true rfl) ⟨Nat.le_of_ble_eq_true rfl, Nat.le_of_ble_eq_true rfl⟩ dX7_digest_96 rfl (fun r96 g96 h => ?_)
          refine v_ladd o dX7_digest_99 ?_
          refine v_topl (fun x1_100 ex1_100 => ?_)
          replace h := h x1_100 ex1_100
          refine v_lstore_n o (lv' := [(1, .long x1_100), (0, .ref a), (3, .int x3)]) dX7_digest_100 rfl (by decide) rfl ?_
          refine v_ldc2 o (v := 31) dX7_digest_101 (mU 396 (by decide +kernel) rfl) ?_
          refine v_lload_n o 0 dX7_digest_104 rfl ?_
          refine v_lmul o dX7_digest_105 ?_
          refine v_aload_n o 1 dX7_digest_106 rfl ?_
          refine v_gfR o lkX7_10 (by decide) (wfComp_o ha) (wfComp_r0 ha) dX7_digest_107 ?_
          refine v_cVi o [] [.long (31 * x1_100)] (fun sz => metX4_size l G P g96 sz (a + 1) (wfComp_t0 ha) _ h) (cwX7_152 o.1.2.2.2.2 (by decide)) ⟨_, _, rfl⟩ (by decide) (wfText_o (wfComp_t0 ha)) rfl (Nat.le_of_ble_eq_true rfl) ⟨Nat.le_of_ble_eq_true rfl, Nat.le_of_ble_eq_true rfl⟩ dX7_digest_110 rfl (fun r110 g110 h => ?_)
          refine v_i2l o dX7_digest_113 ?_
          refine v_ladd o dX7_digest_114 ?_
          refine v_topl (fun x1_115 ex1_115 => ?_)
          replace h := h x1_115 ex1_115
          refine v_lstore_n o (lv' := [(1, .long x1_115), (0, .ref a), (3, .int x3)]) dX7_digest_115 rfl (by decide) rfl ?_
          refine v_iconst o (v := 0) dX7_digest_116 (by decide) ?_
          refine v_istore_n o (lv' := [(3, .int 0), (1, .long x1_115), (0, .ref a)]) dX7_digest_117 rfl (by decide) rfl ?_
          refine v_sub [2, 1, 0] (lv2 := [(0, .ref a), (1, .long x1_115), (3, .int 0)]) rfl ?_
          exact ih.2.2 g110 x1_115 0  h.1 (by have := h.2; omega)
        · replace h := h.2 c41
          refine v_aload_n o 0 dX7_digest_44 rfl ?_
          refine v_lload_n o 1 dX7_digest_45 rfl ?_
          refine v_iload_n o 2 dX7_digest_46 rfl ?_
          refine v_cVl o [.long x1, .int x3] [] (fun sz => metX7_hashOfLoaf l G P g38 sz a ha x1 x3 _ h) (cwX7_234 o.1.2.2.2.2 (by decide)) ⟨_, _, rfl⟩ (by decide) (wfComp_o ha) rfl (Nat.le_of_ble_eq_true rfl) ⟨Nat.le_of_ble_eq_true rfl, Nat.le_of_ble_eq_true rfl⟩ dX7_digest_47 rfl (fun r47 g47 h => ?_)
          refine v_lstore_n o (lv' := [(1, .long r47), (0, .ref a), (3, .int x3)]) dX7_digest_50 rfl (by decide) rfl ?_
          obtain ⟨x3_51, ex3_51⟩ : ∃ y : Int32, y = x3 + 1 := ⟨_, rfl⟩
          replace h := h x3_51 ex3_51
          refine v_iinc o (v := x3_51) (lv' := [(3, .int x3_51), (1, .long r47), (0, .ref a)]) 2 dX7_digest_51 rfl (by rw [ex3_51]; rfl) (by decide) rfl ?_
          refine v_goto o (tgt := 33) dX7_digest_54 (by decide) ?_
          refine v_sub [2, 1, 0] (lv2 := [(0, .ref a), (1, .long r47), (3, .int x3_51)]) rfl ?_
          exact ih.2.1 g47 r47 x3_51  h.1 (by have := h.2; omega)
      · intro g x1 x3 hI hm
        have h := h118 g x1 x3 hI
        clear hI
        unfold bX7_digest_118 at h
        refine v_iload_n o 2 dX7_digest_118 rfl ?_
        refine v_aload_n o 0 dX7_digest_119 rfl ?_
        refine v_gfR o lkX7_10 (by decide) (wfComp_o ha) (wfComp_r0 ha) dX7_digest_120 ?_
        refine v_cVi o [] [.int x3] (fun sz => metX4_size l G P g sz (a + 1) (wfComp_t0 ha) _ h) (cwX7_152 o.1.2.2.2.2 (by decide)) ⟨_, _, rfl⟩ (by decide) (wfText_o (wfComp_t0 ha)) rfl (Nat.le_of_ble_eq_true rfl) ⟨Nat.le_of_ble_eq_true rfl, Nat.le_of_ble_eq_true rfl⟩ dX7_digest_123 rfl (fun r123 g123 h => ?_)
        refine v_icmp_ge o (tgt := 151) dX7_digest_126 (by decide) (fun c126 => ?_) (fun c126 => ?_)
        · replace h := h.1 c126
          refine v_lload_n o 1 dX7_digest_151 rfl ?_
          exact v_lret o rfl hr dX7_digest_152 h
        · replace h := h.2 c126
          refine v_ldc2 o (v := 31) dX7_digest_129 (mU 396 (by decide +kernel) rfl) ?_
          refine v_lload_n o 1 dX7_digest_132 rfl ?_
          refine v_lmul o dX7_digest_133 ?_
          refine v_aload_n o 0 dX7_digest_134 rfl ?_
          refine v_gfR o lkX7_10 (by decide) (wfComp_o ha) (wfComp_r0 ha) dX7_digest_135 ?_
          refine v_iload_n o 2 dX7_digest_138 rfl ?_
          refine v_cVi o [.int x3] [.long (31 * x1)] (fun sz => metX4_signAt l G P g123 sz (a + 1) (wfComp_t0 ha) x3 _ h) (cwX7_246 o.1.2.2.2.2 (by decide)) ⟨_, _, rfl⟩ (by decide) (wfText_o (wfComp_t0 ha)) rfl (Nat.le_of_ble_eq_true rfl) ⟨Nat.le_of_ble_eq_true rfl, Nat.le_of_ble_eq_true rfl⟩ dX7_digest_139 rfl (fun r139 g139 h => ?_)
          refine v_i2l o dX7_digest_142 ?_
          refine v_ladd o dX7_digest_143 ?_
          refine v_topl (fun x1_144 ex1_144 => ?_)
          replace h := h x1_144 ex1_144
          refine v_lstore_n o (lv' := [(1, .long x1_144), (0, .ref a), (3, .int x3)]) dX7_digest_144 rfl (by decide) rfl ?_
          obtain ⟨x3_145, ex3_145⟩ : ∃ y : Int32, y = x3 + 1 := ⟨_, rfl⟩
          replace h := h x3_145 ex3_145
          refine v_iinc o (v := x3_145) (lv' := [(3, .int x3_145), (1, .long x1_144), (0, .ref a)]) 2 dX7_digest_145 rfl (by rw [ex3_145]; rfl) (by decide) rfl ?_
          refine v_goto o (tgt := 118) dX7_digest_148 (by decide) ?_
          refine v_sub [2, 1, 0] (lv2 := [(0, .ref a), (1, .long x1_144), (3, .int x3_145)]) rfl ?_
          exact ih.2.2 g139 x1_144 x3_145  h.1 (by have := h.2; omega)
  unfold vX7_digest at h
  refine v_ldc2 o (v := 4051) dX7_digest_0 (mU 395 (by decide +kernel) rfl) ?_
  refine v_lstore_n o (lv' := [(1, .long 4051), (0, .ref a)]) dX7_digest_3 rfl (by decide) rfl ?_
  refine v_iconst o (v := 0) dX7_digest_4 (by decide) ?_
  refine v_istore_n o (lv' := [(3, .int 0), (1, .long 4051), (0, .ref a)]) dX7_digest_5 rfl (by decide) rfl ?_
  refine v_sub [2, 1, 0] (lv2 := [(0, .ref a), (1, .long 4051), (3, .int 0)]) rfl ?_
  exact (main (μ6 f 4051 0 + 1)).1 f 4051 0  h (Nat.lt_succ_self _)
def WX7_digest (P : Sk) (f : St) (a : Nat) (K : Int64 → St → Prop) : Prop := ∃ (I6 : St → Int64 → Int32 → Prop) (I33 : St → Int64 → Int32 → Prop) (I118 : St → Int64 → Int32 → Prop) (μ6 : St → Int64 → Int32 → Nat) (μ33 : St → Int64 → Int32 → Nat) (μ118 : St → Int64 → Int32 → Nat), (vX7_digest P f a I6 I33 I118 K) ∧ (∀ (g : St) (x1 : Int64) (x3 : Int32) , I6 g x1 x3 → bX7_digest_6 P a (fun g' z0 z1 => I6 g' z0 z1 ∧ μ6 g' z0 z1 < μ6 g x1 x3) (fun g' z0 z1 => I33 g' z0 z1 ∧ μ33 g' z0 z1 < μ6 g x1 x3) (fun g' z0 z1 => I118 g' z0 z1 ∧ μ118 g' z0 z1 < μ6 g x1 x3) K g x1 x3) ∧ (∀ (g : St) (x1 : Int64) (x3 : Int32) , I33 g x1 x3 → bX7_digest_33 P a (fun g' z0 z1 => I6 g' z0 z1 ∧ μ6 g' z0 z1 < μ33 g x1 x3) (fun g' z0 z1 => I33 g' z0 z1 ∧ μ33 g' z0 z1 < μ33 g x1 x3) (fun g' z0 z1 => I118 g' z0 z1 ∧ μ118 g' z0 z1 < μ33 g x1 x3) K g x1 x3) ∧ (∀ (g : St) (x1 : Int64) (x3 : Int32) , I118 g x1 x3 → bX7_digest_118 P a (fun g' z0 z1 => I6 g' z0 z1 ∧ μ6 g' z0 z1 < μ118 g x1 x3) (fun g' z0 z1 => I33 g' z0 z1 ∧ μ33 g' z0 z1 < μ118 g x1 x3) (fun g' z0 z1 => I118 g' z0 z1 ∧ μ118 g' z0 z1 < μ118 g x1 x3) K g x1 x3)
noncomputable def hdL (ls : List Lf) : Nat → Int64 → Int64
  | 0, h => h
  | k + 1, h => hsL ls k (hdL ls k h)
noncomputable def dgs1 (A : Ab) : Int64 := 31 * hdL A.1.1 A.1.1.length (hN (nB A) 7 4051) + A.1.2.2.1.toInt64
noncomputable def dgs2 (A : Ab) : Int64 := 31 * (31 * dgs1 A + A.1.2.2.2.toInt64) + (shV A).toInt64
noncomputable def dgs (A : Ab) : Int64 := hN (fun i => nI (A.2.2.2.getD i 0)) A.2.2.2.length (31 * dgs2 A + (nI A.2.2.2.length).toInt64)
theorem shV_bits {A : Ab} (h : Bok A.1) : bitsC (shV A) = some (shV A).toInt64 := by
  have h144 := smL_144 h
  have hm := smL_mono (φ := lnF) (ψ := lnW) (ls := A.1.1) (fun y => NF_len y.2) A.1.1.length
  unfold shV
  split
  · exact bits_1
  · exact shr_bits _ _ hm (by omega) h144
theorem u0_stopPart {P : Sk} {f : St} {a : Nat} {v : Int32} {K : Int32 → St → Prop} (hv : f a 4 = v) (hK : K v f) : kX0_stopPart P f a K := by
  show vX0_stopPart P f a K
  unfold vX0_stopPart
  rw [hv]
  exact hK
theorem u0_stopReason {P : Sk} {f : St} {a : Nat} {v : Int32} {K : Int32 → St → Prop} (hv : f a 5 = v) (hK : K v f) : kX0_stopReason P f a K := by
  show vX0_stopReason P f a K
  unfold vX0_stopReason
  rw [hv]
  exact hK
def kX7_digest (P : Sk) (f : St) (a : Nat) (K : Int64 → St → Prop) : Prop := ∃ A, CompIs f a A ∧ ∀ g, Fr f g a (a + 1438) → CompIs g a A → K (dgs A) g
theorem wX7_digest (P : Sk) (f : St) (a : Nat) (ha : IsComp P a) (K : Int64 → St → Prop) (h : kX7_digest P f a K) : WX7_digest P f a K := by
  obtain ⟨A, hC, hK⟩ := h
  have h6 := hC.2.2.2.2.2.1
  have hl6 := h6.1
  have hb := hC.2.2.2.2.1
  have hbl := hb.1
  refine ⟨fun g x1 x3 => ∃ k, x3 = nI k ∧ k ≤ 7 ∧ g = f ∧ x1 = hN (nB A) k 4051,
    fun g x1 x3 => ∃ k, x3 = nI k ∧ k ≤ A.1.1.length ∧ Fr f g a (a + 1438) ∧ CompIs g a A ∧ x1 = hdL A.1.1 k (hN (nB A) 7 4051),
    fun g x1 x3 => ∃ k, x3 = nI k ∧ k ≤ A.2.2.2.length ∧ Fr f g a (a + 1438) ∧ CompIs g a A ∧ x1 = hN (fun i => nI (A.2.2.2.getD i 0)) k (31 * dgs2 A + (nI A.2.2.2.length).toInt64),
    fun g x1 x3 => 3000 + (7 - x3.toNatClampNeg), fun g x1 x3 => 1000 + (A.1.1.length - x3.toNatClampNeg), fun g x1 x3 => A.2.2.2.length - x3.toNatClampNeg, ?_, ?_, ?_, ?_⟩
  · exact ⟨0, rfl, by omega, rfl, rfl⟩
  · rintro g x1 x3 ⟨k, rfl, hk, rfl, rfl⟩
    unfold bX7_digest_6
    rw [show (6 : Int32) = nI 6 from rfl, nI_ltI (by omega) (by omega)]
    refine ⟨fun q => ?_, fun q => ?_⟩
    · rw [show k = 7 by omega]
      refine ⟨⟨0, rfl, Nat.zero_le _, Fr.refl _ _ _, hC, rfl⟩, ?_⟩
      show 1000 + (A.1.1.length - (nI 0).toNatClampNeg) < 3000 + (7 - (nI 7).toNatClampNeg)
      omega
    · refine u7_numberOfBoard hC (by omega) ?_
      rw [nI_1]
      intro y e z e2
      refine ⟨⟨k + 1, e2, by omega, rfl, e⟩, ?_⟩
      show 3000 + (7 - z.toNatClampNeg) < 3000 + (7 - (nI k).toNatClampNeg)
      have := mu_up (N := 7) e2 (by omega) (by omega)
      omega
  · rintro g x1 x3 ⟨k, rfl, hk, hfr, hCg, rfl⟩
    unfold bX7_digest_33
    refine u0_size hCg.2.1.1 ?_
    rw [nI_leI (by omega) (by omega)]
    refine ⟨fun q => ?_, fun q => ?_⟩
    · rw [show k = A.1.1.length by omega]
      refine u0_stopPart hCg.2.1.2.2.1 ?_
      intro y1 e1
      refine u0_stopReason hCg.2.1.2.2.2.1 ?_
      intro y2 e2
      refine ⟨A, hCg, ?_⟩
      refine ⟨_, shV_bits h6, ?_⟩
      intro y3 e3
      refine u4_size hCg.1.1 ?_
      intro y4 e4
      refine ⟨⟨0, rfl, Nat.zero_le _, hfr, hCg, ?_⟩, ?_⟩
      · rw [e4, e3, e2, e1]
        rfl
      · show A.2.2.2.length - (nI 0).toNatClampNeg < 1000 + (A.1.1.length - (nI A.1.1.length).toNatClampNeg)
        omega
    · refine ⟨A, k, rfl, by omega, hCg, fun g2 r2 hC2 => ?_⟩
      rw [nI_1]
      intro y e
      refine ⟨⟨k + 1, e, by omega, hfr.trans r2, hC2, rfl⟩, ?_⟩
      show 1000 + (A.1.1.length - y.toNatClampNeg) < 1000 + (A.1.1.length - (nI k).toNatClampNeg)
      have := mu_up (N := A.1.1.length) e (by omega) (by omega)
      omega
  · rintro g x1 x3 ⟨k, rfl, hk, hfr, hCg, rfl⟩
    unfold bX7_digest_118
    refine u4_size hCg.1.1 ?_
    rw [nI_leI (by omega) (by omega)]
    refine ⟨fun q => ?_, fun q => ?_⟩
    · rw [show k = A.2.2.2.length by omega]
      exact hK g hfr hCg
    · refine u4_signAt (b := A.2.2.2) (wfComp_t0 ha) hCg.1 hb (by omega) ?_
      rw [nI_1]
      intro y e z e2
      exact ⟨⟨k + 1, e2, by omega, hfr, hCg, e⟩, mu_up e2 (by omega) (by omega)⟩

theorem metX7_digest (l : Launch) (G : Gl) (P : Sk) (f : St) (sz : Nat) (a : Nat) (ha : IsComp P a) (K : Int64 → St → Prop) (h : kX7_digest P f a K) : Met l yX7_digest (wU yX7_digest cX7_digest 4 (some .long)) rmX7_digest (PcW G P f sz [.ref a]) (QcL G P sz K) 0 0 (frA P sz) := by
  obtain ⟨I6, I33, I118, μ6, μ33, μ118, qh, qh6, qh33, qh118⟩ := wX7_digest P f a ha K h
  exact mX7_digest l G P f sz a ha K I6 μ6 I33 μ33 I118 μ118 qh qh6 qh33 qh118

