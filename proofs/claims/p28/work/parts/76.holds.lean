def jL_holds_345 (P : Sk) (b0 : Nat) (p1 : Int32) (L12 : St → Int32 → Int32 → Int32 → Prop) (L288 : St → Int32 → Int32 → Int32 → Int32 → Int32 → Prop) (K : Int32 → St → Prop) (x2 : Int32) (x3 : Int32) (x4 : Int32) (x5 : Int32) (x6 : Int32) (y0 : Int32) (f : St) : Prop :=
  ∀ x6_347 : Int32, x6_347 = x6 + 1 → L288 f x2 x3 y0 x5 x6_347
def jL_holds_344 (P : Sk) (b0 : Nat) (p1 : Int32) (L12 : St → Int32 → Int32 → Int32 → Prop) (L288 : St → Int32 → Int32 → Int32 → Int32 → Int32 → Prop) (K : Int32 → St → Prop) (x2 : Int32) (x3 : Int32) (x4 : Int32) (x5 : Int32) (x6 : Int32) (f : St) : Prop :=
  jL_holds_345 P b0 p1 L12 L288 K x2 x3 x4 x5 x6 0 f
def jL_holds_313 (P : Sk) (b0 : Nat) (p1 : Int32) (L12 : St → Int32 → Int32 → Int32 → Prop) (L288 : St → Int32 → Int32 → Int32 → Int32 → Int32 → Prop) (K : Int32 → St → Prop) (x2 : Int32) (x3 : Int32) (x4 : Int32) (x5 : Int32) (x6 : Int32) (y0 : Int32) (y1 : Int32) (f : St) : Prop :=
  ∀ x5_314 : Int32, x5_314 = y0 + y1 → (x4 = 0 → jL_holds_344 P b0 p1 L12 L288 K x2 x3 x4 x5_314 x6 f) ∧ (¬ x4 = 0 → kX7_crossing P f b0 p1 x6 2 (fun r326 g326 => kX7_crossing P g326 b0 p1 x6 3 (fun r334 g334 => (r326 = r334 → jL_holds_344 P b0 p1 L12 L288 K x2 x3 x4 x5_314 x6 g334) ∧ (¬ r326 = r334 → jL_holds_345 P b0 p1 L12 L288 K x2 x3 x4 x5_314 x6 1 g334)) XF) XF)
def jL_holds_279 (P : Sk) (b0 : Nat) (p1 : Int32) (L12 : St → Int32 → Int32 → Int32 → Prop) (L288 : St → Int32 → Int32 → Int32 → Int32 → Int32 → Prop) (K : Int32 → St → Prop) (x2 : Int32) (x3 : Int32) (x4 : Int32) (y0 : Int32) (f : St) : Prop :=
  L288 f x2 x3 y0 100 0
def jL_holds_278 (P : Sk) (b0 : Nat) (p1 : Int32) (L12 : St → Int32 → Int32 → Int32 → Prop) (L288 : St → Int32 → Int32 → Int32 → Int32 → Int32 → Prop) (K : Int32 → St → Prop) (x2 : Int32) (x3 : Int32) (x4 : Int32) (f : St) : Prop :=
  jL_holds_279 P b0 p1 L12 L288 K x2 x3 x4 0 f
def jL_holds_261 (P : Sk) (b0 : Nat) (p1 : Int32) (L12 : St → Int32 → Int32 → Int32 → Prop) (L288 : St → Int32 → Int32 → Int32 → Int32 → Int32 → Prop) (K : Int32 → St → Prop) (x2 : Int32) (x3 : Int32) (x4 : Int32) (y0 : Int32) (y1 : Int32) (f : St) : Prop :=
  (¬ y0 = y1 → jL_holds_278 P b0 p1 L12 L288 K x2 x3 x4 f) ∧ (y0 = y1 → kX7_alike P f b0 p1 p1 (fun r267 g267 => (¬ r267 = 1 → jL_holds_278 P b0 p1 L12 L288 K x2 x3 x4 g267) ∧ (r267 = 1 → jL_holds_279 P b0 p1 L12 L288 K x2 x3 x4 1 g267)) XF)
def jL_holds_247 (P : Sk) (b0 : Nat) (p1 : Int32) (L12 : St → Int32 → Int32 → Int32 → Prop) (L288 : St → Int32 → Int32 → Int32 → Int32 → Int32 → Prop) (K : Int32 → St → Prop) (x2 : Int32) (x3 : Int32) (x4 : Int32) (y0 : Int32) (f : St) : Prop :=
  kX7_period P f b0 p1 (fun r249 g249 => (¬ r249 = 1 → jL_holds_261 P b0 p1 L12 L288 K x2 x3 x4 y0 0 g249) ∧ (r249 = 1 → jL_holds_261 P b0 p1 L12 L288 K x2 x3 x4 y0 1 g249)) XF
def jL_holds_228 (P : Sk) (b0 : Nat) (p1 : Int32) (L12 : St → Int32 → Int32 → Int32 → Prop) (L288 : St → Int32 → Int32 → Int32 → Int32 → Int32 → Prop) (K : Int32 → St → Prop) (x2 : Int32) (x3 : Int32) (x4 : Int32) (y0 : Int32) (y1 : Int32) (f : St) : Prop :=
  (¬ y0 = y1 → jL_holds_278 P b0 p1 L12 L288 K x2 x3 x4 f) ∧ (y0 = y1 → kX7_loaf P f b0 p1 8 (fun r235 g235 => (¬ r235 = 1 → jL_holds_247 P b0 p1 L12 L288 K x2 x3 x4 0 g235) ∧ (r235 = 1 → jL_holds_247 P b0 p1 L12 L288 K x2 x3 x4 1 g235)) XF)
def jL_holds_208 (P : Sk) (b0 : Nat) (p1 : Int32) (L12 : St → Int32 → Int32 → Int32 → Prop) (L288 : St → Int32 → Int32 → Int32 → Int32 → Int32 → Prop) (K : Int32 → St → Prop) (x2 : Int32) (x3 : Int32) (x4 : Int32) (y0 : Int32) (f : St) : Prop :=
  kX7_loaf P f b0 p1 3 (fun r211 g211 => kX7_loaf P g211 b0 p1 0 (fun r217 g217 => (¬ r211 = r217 → jL_holds_228 P b0 p1 L12 L288 K x2 x3 x4 y0 0 g217) ∧ (r211 = r217 → jL_holds_228 P b0 p1 L12 L288 K x2 x3 x4 y0 1 g217)) XF) XF
def jL_holds_185 (P : Sk) (b0 : Nat) (p1 : Int32) (L12 : St → Int32 → Int32 → Int32 → Prop) (L288 : St → Int32 → Int32 → Int32 → Int32 → Int32 → Prop) (K : Int32 → St → Prop) (x2 : Int32) (x3 : Int32) (x4 : Int32) (y0 : Int32) (f : St) : Prop :=
  (y0 = 0 → jL_holds_278 P b0 p1 L12 L288 K x2 x3 y0 f) ∧ (¬ y0 = 0 → kX7_loaf P f b0 p1 8 (fun r196 g196 => (¬ r196 = 1 → jL_holds_208 P b0 p1 L12 L288 K x2 x3 y0 0 g196) ∧ (r196 = 1 → jL_holds_208 P b0 p1 L12 L288 K x2 x3 y0 1 g196)) XF)
def jL_holds_184 (P : Sk) (b0 : Nat) (p1 : Int32) (L12 : St → Int32 → Int32 → Int32 → Prop) (L288 : St → Int32 → Int32 → Int32 → Int32 → Int32 → Prop) (K : Int32 → St → Prop) (x2 : Int32) (x3 : Int32) (x4 : Int32) (f : St) : Prop :=
  jL_holds_185 P b0 p1 L12 L288 K x2 x3 x4 0 f
def bL_holds_12 (P : Sk) (b0 : Nat) (p1 : Int32) (L12 : St → Int32 → Int32 → Int32 → Prop) (L288 : St → Int32 → Int32 → Int32 → Int32 → Int32 → Prop) (K : Int32 → St → Prop) (f : St) (x2 : Int32) (x3 : Int32) (x4 : Int32) : Prop :=
  kX7_loaf P f b0 p1 0 (fun r17 g17 => (r17 ≤ x4 → (¬ x3 = x2 → jL_holds_184 P b0 p1 L12 L288 K x2 x3 x4 g17) ∧ (x3 = x2 → kX7_loaf P g17 b0 p1 3 (fun r113 g113 => kX7_loaf P g113 b0 p1 4 (fun r119 g119 => (¬ r113 = r119 → jL_holds_184 P b0 p1 L12 L288 K x2 x3 x4 g119) ∧ (r113 = r119 → kX7_loaf P g119 b0 p1 5 (fun r128 g128 => kX7_loaf P g128 b0 p1 6 (fun r135 g135 => (¬ r128 = r135 → jL_holds_184 P b0 p1 L12 L288 K x2 x3 x4 g135) ∧ (r128 = r135 → kX7_loaf P g135 b0 p1 7 (fun r145 g145 => kX7_loaf P g145 b0 p1 5 (fun r151 g151 => (r151 < r145 → jL_holds_184 P b0 p1 L12 L288 K x2 x3 x4 g151) ∧ (¬ r151 < r145 → kX7_loaf P g151 b0 p1 5 (fun r160 g160 => (x2 < r160 → jL_holds_184 P b0 p1 L12 L288 K x2 x3 x4 g160) ∧ (¬ x2 < r160 → kX7_loaf P g160 b0 p1 5 (fun r171 g171 => (¬ (x2 - r171) - (x2 - r171) / 2 * 2 = 0 → jL_holds_184 P b0 p1 L12 L288 K x2 x3 x4 g171) ∧ ((x2 - r171) - (x2 - r171) / 2 * 2 = 0 → jL_holds_185 P b0 p1 L12 L288 K x2 x3 x4 1 g171)) XF)) XF)) XF) XF)) XF) XF)) XF) XF)) ∧ (¬ r17 ≤ x4 → kX7_strand P g17 b0 p1 x4 1 (fun r29 g29 => ∀ x3_33 : Int32, x3_33 = x3 + r29 → kX7_strand P g29 b0 p1 x4 3 (fun r39 g39 => kX7_strand P g39 b0 p1 x4 2 (fun r49 g49 => kX7_strand P g49 b0 p1 x4 1 (fun r59 g59 => (¬ r39 = (30 - r49) - (2 * r59) → K 0 g59) ∧ (r39 = (30 - r49) - (2 * r59) → kX7_strand P g59 b0 p1 x4 3 (fun r72 g72 => (r72 < 0 → K 0 g72) ∧ (¬ r72 < 0 → kX7_strand P g72 b0 p1 x4 0 (fun r85 g85 => kX7_strand P g85 b0 p1 r85 4 (fun r89 g89 => (r89 = x4 → ∀ x4_99 : Int32, x4_99 = x4 + 1 → L12 g89 x2 x3_33 x4_99) ∧ (¬ r89 = x4 → K 0 g89)) XF) XF)) XF)) XF) XF) XF) XF)) XF
def bL_holds_288 (P : Sk) (b0 : Nat) (p1 : Int32) (L12 : St → Int32 → Int32 → Int32 → Prop) (L288 : St → Int32 → Int32 → Int32 → Int32 → Int32 → Prop) (K : Int32 → St → Prop) (f : St) (x2 : Int32) (x3 : Int32) (x4 : Int32) (x5 : Int32) (x6 : Int32) : Prop :=
  (x2 ≤ x6 → (x4 = 0 → K 0 f) ∧ (¬ x4 = 0 → kX7_loaf P f b0 p1 2 (fun r363 g363 => (¬ x5 = r363 → K 0 g363) ∧ (x5 = r363 → K 1 g363)) XF)) ∧ (¬ x2 ≤ x6 → kX7_crossing P f b0 p1 x6 1 (fun r301 g301 => (¬ r301 = 1 → jL_holds_313 P b0 p1 L12 L288 K x2 x3 x4 x5 x6 x5 (-1) g301) ∧ (r301 = 1 → jL_holds_313 P b0 p1 L12 L288 K x2 x3 x4 x5 x6 x5 1 g301)) XF)
def vL_holds (P : Sk) (f : St) (b0 : Nat) (p1 : Int32) (L12 : St → Int32 → Int32 → Int32 → Prop) (L288 : St → Int32 → Int32 → Int32 → Int32 → Int32 → Prop) (K : Int32 → St → Prop) : Prop :=
  kX7_loaf P f b0 p1 1 (fun r3 g3 => L12 g3 r3 0 0) XF
set_option maxRecDepth 20000 in
set_option maxHeartbeats 4000000 in
theorem mL_holds (l : Launch) (G : Gl) (P : Sk) (f : St) (sz : Nat) (b0 : Nat) (hb0 : IsComp P b0) (p1 : Int32) (K : Int32 → St → Prop) (I12 : St → Int32 → Int32 → Int32 → Prop) (μ12 : St → Int32 → Int32 → Int32 → Nat) (I288 : St → Int32 → Int32 → Int32 → Int32 → Int32 → Prop) (μ288 : St → Int32 → Int32 → Int32 → Int32 → Int32 → Nat) 
  (h : vL_holds P f b0 p1 I12 I288 K)
  (h12 : ∀ (g : St) (x2 : Int32) (x3 : Int32) (x4 : Int32) , I12 g x2 x3 x4 → bL_holds_12 P b0 p1 (fun g' z0 z1 z2 => I12 g' z0 z1 z2 ∧ μ12 g' z0 z1 z2 < μ12 g x2 x3 x4) (fun g' z0 z1 z2 z3 z4 => I288 g' z0 z1 z2 z3 z4 ∧ μ288 g' z0 z1 z2 z3 z4 < μ12 g x2 x3 x4) K g x2 x3 x4)
  (h288 : ∀ (g : St) (x2 : Int32) (x3 : Int32) (x4 : Int32) (x5 : Int32) (x6 : Int32) , I288 g x2 x3 x4 x5 x6 → bL_holds_288 P b0 p1 (fun g' z0 z1 z2 => I12 g' z0 z1 z2 ∧ μ12 g' z0 z1 z2 < μ288 g x2 x3 x4 x5 x6) (fun g' z0 z1 z2 z3 z4 => I288 g' z0 z1 z2 z3 z4 ∧ μ288 g' z0 z1 z2 z3 z4 < μ288 g x2 x3 x4 x5 x6) K g x2 x3 x4 x5 x6) :
  Met l yL_holds (wU yL_holds cL_holds 7 (some .boolean)) rmL_holds (PcW G P f sz [.ref b0, .int p1]) (QcI G P sz K) 0 0 (frA P sz) := by
  refine v_met (own := RL) [.ref b0, .int p1] (by decide +kernel) rfl (Nat.le_of_ble_eq_true rfl) (fun p e s m args below meth c hsz o hr hnm => ?_)
  refine v_lv (lv2 := [(0, .ref b0), (1, .int p1)]) rfl ?_
  have main : ∀ n : Nat, (∀ (g : St) (x2 : Int32) (x3 : Int32) (x4 : Int32) , I12 g x2 x3 x4 → μ12 g x2 x3 x4 < n → V p l e rmL_holds s m args below meth c 7 G (frA P sz) (MQ below (QcI G P sz K) args s 0 0 (frA P sz)) 0 0 P [(0, .ref b0), (1, .int p1), (2, .int x2), (3, .int x3), (4, .int x4)] [] 12 g) ∧ (∀ (g : St) (x2 : Int32) (x3 : Int32) (x4 : Int32) (x5 : Int32) (x6 : Int32) , I288 g x2 x3 x4 x5 x6 → μ288 g x2 x3 x4 x5 x6 < n → V p l e rmL_holds s m args below meth c 7 G (frA P sz) (MQ below (QcI G P sz K) args s 0 0 (frA P sz)) 0 0 P [(0, .ref b0), (1, .int p1), (2, .int x2), (3, .int x3), (4, .int x4), (5, .int x5), (6, .int x6)] [] 288 g) := by
    intro n
    induction n with
    | zero => exact ⟨fun g x2 x3 x4 hI hm => absurd hm (Nat.not_lt_zero _), fun g x2 x3 x4 x5 x6 hI hm => absurd hm (Nat.not_lt_zero _)⟩
    | succ n ih =>
      refine ⟨?_, ?_⟩
      · intro g x2 x3 x4 hI hm
        have h := h12 g x2 x3 x4 hI
        clear hI
        have J279 : ∀ (x2_279 : Int32) (x3_279 : Int32) (x4_279 : Int32) (y0_279 : Int32) (g279 : St), jL_holds_279 P b0 p1 (fun g' z0 z1 z2 => I12 g' z0 z1 z2 ∧ μ12 g' z0 z1 z2 < μ12 g x2 x3 x4) (fun g' z0 z1 z2 z3 z4 => I288 g' z0 z1 z2 z3 z4 ∧ μ288 g' z0 z1 z2 z3 z4 < μ12 g x2 x3 x4) K x2_279 x3_279 x4_279 y0_279 g279 → V p l e rmL_holds s m args below meth c 7 G (frA P sz) (MQ below (QcI G P sz K) args s 0 0 (frA P sz)) 0 0 P [(0, .ref b0), (1, .int p1), (2, .int x2_279), (3, .int x3_279), (4, .int x4_279)] [.int y0_279] 279 g279 := by
          intro x2_279 x3_279 x4_279 y0_279 g279  h
          unfold jL_holds_279 at h
          refine v_istore o (lv' := [(4, .int y0_279), (0, .ref b0), (1, .int p1), (2, .int x2_279), (3, .int x3_279)]) dL_holds_279 (by decide) rfl ?_
          refine v_bipush o (v := 100) dL_holds_281 (by decide) ?_
          refine v_istore o (lv' := [(5, .int 100), (4, .int y0_279), (0, .ref b0), (1, .int p1), (2, .int x2_279), (3, .int x3_279)]) dL_holds_283 (by decide) rfl ?_
          refine v_iconst o (v := 0) dL_holds_285 (by decide) ?_
          refine v_istore o (lv' := [(6, .int 0), (5, .int 100), (4, .int y0_279), (0, .ref b0), (1, .int p1), (2, .int x2_279), (3, .int x3_279)]) dL_holds_286 (by decide) rfl ?_
          refine v_sub [3, 4, 5, 6, 2, 1, 0] (lv2 := [(0, .ref b0), (1, .int p1), (2, .int x2_279), (3, .int x3_279), (4, .int y0_279), (5, .int 100), (6, .int 0)]) rfl ?_
          exact ih.2 g279 x2_279 x3_279 y0_279 100 0  h.1 (by have := h.2; omega)
        have J278 : ∀ (x2_278 : Int32) (x3_278 : Int32) (x4_278 : Int32) (g278 : St), jL_holds_278 P b0 p1 (fun g' z0 z1 z2 => I12 g' z0 z1 z2 ∧ μ12 g' z0 z1 z2 < μ12 g x2 x3 x4) (fun g' z0 z1 z2 z3 z4 => I288 g' z0 z1 z2 z3 z4 ∧ μ288 g' z0 z1 z2 z3 z4 < μ12 g x2 x3 x4) K x2_278 x3_278 x4_278 g278 → V p l e rmL_holds s m args below meth c 7 G (frA P sz) (MQ below (QcI G P sz K) args s 0 0 (frA P sz)) 0 0 P [(0, .ref b0), (1, .int p1), (2, .int x2_278), (3, .int x3_278), (4, .int x4_278)] [] 278 g278 := by
          intro x2_278 x3_278 x4_278 g278  h
          unfold jL_holds_278 at h
          refine v_iconst o (v := 0) dL_holds_278 (by decide) ?_
          refine v_sub [0, 1, 2, 3, 4] (lv2 := [(0, .ref b0), (1, .int p1), (2, .int x2_278), (3, .int x3_278), (4, .int x4_278)]) rfl ?_
          exact J279 x2_278 x3_278 x4_278 0 g278  h
        have J261 : ∀ (x2_261 : Int32) (x3_261 : Int32) (x4_261 : Int32) (y0_261 : Int32) (y1_261 : Int32) (g261 : St), jL_holds_261 P b0 p1 (fun g' z0 z1 z2 => I12 g' z0 z1 z2 ∧ μ12 g' z0 z1 z2 < μ12 g x2 x3 x4) (fun g' z0 z1 z2 z3 z4 => I288 g' z0 z1 z2 z3 z4 ∧ μ288 g' z0 z1 z2 z3 z4 < μ12 g x2 x3 x4) K x2_261 x3_261 x4_261 y0_261 y1_261 g261 → V p l e rmL_holds s m args below meth c 7 G (frA P sz) (MQ below (QcI G P sz K) args s 0 0 (frA P sz)) 0 0 P [(0, .ref b0), (1, .int p1), (2, .int x2_261), (3, .int x3_261), (4, .int x4_261)] [.int y1_261, .int y0_261] 261 g261 := by
          intro x2_261 x3_261 x4_261 y0_261 y1_261 g261  h
          unfold jL_holds_261 at h
          refine v_icmp_ne o (tgt := 278) dL_holds_261 (by decide) (fun c261 => ?_) (fun c261 => ?_)
          · replace h := h.1 c261
            refine v_sub [0, 1, 2, 3, 4] (lv2 := [(0, .ref b0), (1, .int p1), (2, .int x2_261), (3, .int x3_261), (4, .int x4_261)]) rfl ?_
            exact J278 x2_261 x3_261 x4_261 g261  h
          · replace h := h.2 c261
            refine v_aload_n o 0 dL_holds_264 rfl ?_
            refine v_iload_n o 1 dL_holds_265 rfl ?_
            refine v_iload_n o 1 dL_holds_266 rfl ?_
            refine v_cVi o [.int p1, .int p1] [] (fun sz => metX7_alike l G P g261 sz b0 hb0 p1 p1 _ h) (cwL_63 o.1.2.2.2.2 (by decide)) ⟨_, _, rfl⟩ (by decide) (wfComp_o hb0) rfl (Nat.le_of_ble_eq_true rfl) ⟨Nat.le_of_ble_eq_true rfl, Nat.le_of_ble_eq_true rfl⟩ dL_holds_267 rfl (fun r267 g267 h => ?_)
            refine v_iconst o (v := 1) dL_holds_270 (by decide) ?_
            refine v_icmp_ne o (tgt := 278) dL_holds_271 (by decide) (fun c271 => ?_) (fun c271 => ?_)
            · replace h := h.1 c271
              refine v_sub [0, 1, 2, 3, 4] (lv2 := [(0, .ref b0), (1, .int p1), (2, .int x2_261), (3, .int x3_261), (4, .int x4_261)]) rfl ?_
              exact J278 x2_261 x3_261 x4_261 g267  h
            · replace h := h.2 c271
              refine v_iconst o (v := 1) dL_holds_274 (by decide) ?_
              refine v_goto o (tgt := 279) dL_holds_275 (by decide) ?_
              refine v_sub [0, 1, 2, 3, 4] (lv2 := [(0, .ref b0), (1, .int p1), (2, .int x2_261), (3, .int x3_261), (4, .int x4_261)]) rfl ?_
              exact J279 x2_261 x3_261 x4_261 1 g267  h
        have J247 : ∀ (x2_247 : Int32) (x3_247 : Int32) (x4_247 : Int32) (y0_247 : Int32) (g247 : St), jL_holds_247 P b0 p1 (fun g' z0 z1 z2 => I12 g' z0 z1 z2 ∧ μ12 g' z0 z1 z2 < μ12 g x2 x3 x4) (fun g' z0 z1 z2 z3 z4 => I288 g' z0 z1 z2 z3 z4 ∧ μ288 g' z0 z1 z2 z3 z4 < μ12 g x2 x3 x4) K x2_247 x3_247 x4_247 y0_247 g247 → V p l e rmL_holds s m args below meth c 7 G (frA P sz) (MQ below (QcI G P sz K) args s 0 0 (frA P sz)) 0 0 P [(0, .ref b0), (1, .int p1), (2, .int x2_247), (3, .int x3_247), (4, .int x4_247)] [.int y0_247] 247 g247 := by
          intro x2_247 x3_247 x4_247 y0_247 g247  h
          unfold jL_holds_247 at h
          refine v_aload_n o 0 dL_holds_247 rfl ?_
          refine v_iload_n o 1 dL_holds_248 rfl ?_
          refine v_cVi o [.int p1] [.int y0_247] (fun sz => metX7_period l G P g247 sz b0 hb0 p1 _ h) (cwL_60 o.1.2.2.2.2 (by decide)) ⟨_, _, rfl⟩ (by decide) (wfComp_o hb0) rfl (Nat.le_of_ble_eq_true rfl) ⟨Nat.le_of_ble_eq_true rfl, Nat.le_of_ble_eq_true rfl⟩ dL_holds_249 rfl (fun r249 g249 h => ?_)
          refine v_iconst o (v := 1) dL_holds_252 (by decide) ?_
          refine v_icmp_ne o (tgt := 260) dL_holds_253 (by decide) (fun c253 => ?_) (fun c253 => ?_)
          · replace h := h.1 c253
            refine v_iconst o (v := 0) dL_holds_260 (by decide) ?_
            refine v_sub [0, 1, 2, 3, 4] (lv2 := [(0, .ref b0), (1, .int p1), (2, .int x2_247), (3, .int x3_247), (4, .int x4_247)]) rfl ?_
            exact J261 x2_247 x3_247 x4_247 y0_247 0 g249  h
          · replace h := h.2 c253
            refine v_iconst o (v := 1) dL_holds_256 (by decide) ?_
            refine v_goto o (tgt := 261) dL_holds_257 (by decide) ?_
            refine v_sub [0, 1, 2, 3, 4] (lv2 := [(0, .ref b0), (1, .int p1), (2, .int x2_247), (3, .int x3_247), (4, .int x4_247)]) rfl ?_
            exact J261 x2_247 x3_247 x4_247 y0_247 1 g249  h
        have J228 : ∀ (x2_228 : Int32) (x3_228 : Int32) (x4_228 : Int32) (y0_228 : Int32) (y1_228 : Int32) (g228 : St), jL_holds_228 P b0 p1 (fun g' z0 z1 z2 => I12 g' z0 z1 z2 ∧ μ12 g' z0 z1 z2 < μ12 g x2 x3 x4) (fun g' z0 z1 z2 z3 z4 => I288 g' z0 z1 z2 z3 z4 ∧ μ288 g' z0 z1 z2 z3 z4 < μ12 g x2 x3 x4) K x2_228 x3_228 x4_228 y0_228 y1_228 g228 → V p l e rmL_holds s m args below meth c 7 G (frA P sz) (MQ below (QcI G P sz K) args s 0 0 (frA P sz)) 0 0 P [(0, .ref b0), (1, .int p1), (2, .int x2_228), (3, .int x3_228), (4, .int x4_228)] [.int y1_228, .int y0_228] 228 g228 := by
          intro x2_228 x3_228 x4_228 y0_228 y1_228 g228  h
          unfold jL_holds_228 at h
          refine v_icmp_ne o (tgt := 278) dL_holds_228 (by decide) (fun c228 => ?_) (fun c228 => ?_)
          · replace h := h.1 c228
            refine v_sub [0, 1, 2, 3, 4] (lv2 := [(0, .ref b0), (1, .int p1), (2, .int x2_228), (3, .int x3_228), (4, .int x4_228)]) rfl ?_
            exact J278 x2_228 x3_228 x4_228 g228  h
          · replace h := h.2 c228
            refine v_aload_n o 0 dL_holds_231 rfl ?_
            refine v_iload_n o 1 dL_holds_232 rfl ?_
            refine v_bipush o (v := 8) dL_holds_233 (by decide) ?_
            refine v_cVi o [.int p1, .int 8] [] (fun sz => metX7_loaf l G P g228 sz b0 hb0 p1 8 _ h) (cwL_21 o.1.2.2.2.2 (by decide)) ⟨_, _, rfl⟩ (by decide) (wfComp_o hb0) rfl (Nat.le_of_ble_eq_true rfl) ⟨Nat.le_of_ble_eq_true rfl, Nat.le_of_ble_eq_true rfl⟩ dL_holds_235 rfl (fun r235 g235 h => ?_)
            refine v_iconst o (v := 1) dL_holds_238 (by decide) ?_
            refine v_icmp_ne o (tgt := 246) dL_holds_239 (by decide) (fun c239 => ?_) (fun c239 => ?_)
            · replace h := h.1 c239
              refine v_iconst o (v := 0) dL_holds_246 (by decide) ?_
              refine v_sub [0, 1, 2, 3, 4] (lv2 := [(0, .ref b0), (1, .int p1), (2, .int x2_228), (3, .int x3_228), (4, .int x4_228)]) rfl ?_
              exact J247 x2_228 x3_228 x4_228 0 g235  h
            · replace h := h.2 c239
              refine v_iconst o (v := 1) dL_holds_242 (by decide) ?_
              refine v_goto o (tgt := 247) dL_holds_243 (by decide) ?_
              refine v_sub [0, 1, 2, 3, 4] (lv2 := [(0, .ref b0), (1, .int p1), (2, .int x2_228), (3, .int x3_228), (4, .int x4_228)]) rfl ?_
              exact J247 x2_228 x3_228 x4_228 1 g235  h
        have J208 : ∀ (x2_208 : Int32) (x3_208 : Int32) (x4_208 : Int32) (y0_208 : Int32) (g208 : St), jL_holds_208 P b0 p1 (fun g' z0 z1 z2 => I12 g' z0 z1 z2 ∧ μ12 g' z0 z1 z2 < μ12 g x2 x3 x4) (fun g' z0 z1 z2 z3 z4 => I288 g' z0 z1 z2 z3 z4 ∧ μ288 g' z0 z1 z2 z3 z4 < μ12 g x2 x3 x4) K x2_208 x3_208 x4_208 y0_208 g208 → V p l e rmL_holds s m args below meth c 7 G (frA P sz) (MQ below (QcI G P sz K) args s 0 0 (frA P sz)) 0 0 P [(0, .ref b0), (1, .int p1), (2, .int x2_208), (3, .int x3_208), (4, .int x4_208)] [.int y0_208] 208 g208 := by
          intro x2_208 x3_208 x4_208 y0_208 g208  h
          unfold jL_holds_208 at h
          refine v_aload_n o 0 dL_holds_208 rfl ?_
          refine v_iload_n o 1 dL_holds_209 rfl ?_
          refine v_iconst o (v := 3) dL_holds_210 (by decide) ?_
          refine v_cVi o [.int p1, .int 3] [.int y0_208] (fun sz => metX7_loaf l G P g208 sz b0 hb0 p1 3 _ h) (cwL_21 o.1.2.2.2.2 (by decide)) ⟨_, _, rfl⟩ (by decide) (wfComp_o hb0) rfl (Nat.le_of_ble_eq_true rfl) ⟨Nat.le_of_ble_eq_true rfl, Nat.le_of_ble_eq_true rfl⟩ dL_holds_211 rfl (fun r211 g211 h => ?_)
          refine v_aload_n o 0 dL_holds_214 rfl ?_
          refine v_iload_n o 1 dL_holds_215 rfl ?_
          refine v_iconst o (v := 0) dL_holds_216 (by decide) ?_
          refine v_cVi o [.int p1, .int 0] [.int r211, .int y0_208] (fun sz => metX7_loaf l G P g211 sz b0 hb0 p1 0 _ h) (cwL_21 o.1.2.2.2.2 (by decide)) ⟨_, _, rfl⟩ (by decide) (wfComp_o hb0) rfl (Nat.le_of_ble_eq_true rfl) ⟨Nat.le_of_ble_eq_true rfl, Nat.le_of_ble_eq_true rfl⟩ dL_holds_217 rfl (fun r217 g217 h => ?_)
          refine v_icmp_ne o (tgt := 227) dL_holds_220 (by decide) (fun c220 => ?_) (fun c220 => ?_)
          · replace h := h.1 c220
            refine v_iconst o (v := 0) dL_holds_227 (by decide) ?_
            refine v_sub [0, 1, 2, 3, 4] (lv2 := [(0, .ref b0), (1, .int p1), (2, .int x2_208), (3, .int x3_208), (4, .int x4_208)]) rfl ?_
            exact J228 x2_208 x3_208 x4_208 y0_208 0 g217  h
          · replace h := h.2 c220
            refine v_iconst o (v := 1) dL_holds_223 (by decide) ?_
            refine v_goto o (tgt := 228) dL_holds_224 (by decide) ?_
            refine v_sub [0, 1, 2, 3, 4] (lv2 := [(0, .ref b0), (1, .int p1), (2, .int x2_208), (3, .int x3_208), (4, .int x4_208)]) rfl ?_
            exact J228 x2_208 x3_208 x4_208 y0_208 1 g217  h
        have J185 : ∀ (x2_185 : Int32) (x3_185 : Int32) (x4_185 : Int32) (y0_185 : Int32) (g185 : St), jL_holds_185 P b0 p1 (fun g' z0 z1 z2 => I12 g' z0 z1 z2 ∧ μ12 g' z0 z1 z2 < μ12 g x2 x3 x4) (fun g' z0 z1 z2 z3 z4 => I288 g' z0 z1 z2 z3 z4 ∧ μ288 g' z0 z1 z2 z3 z4 < μ12 g x2 x3 x4) K x2_185 x3_185 x4_185 y0_185 g185 → V p l e rmL_holds s m args below meth c 7 G (frA P sz) (MQ below (QcI G P sz K) args s 0 0 (frA P sz)) 0 0 P [(0, .ref b0), (1, .int p1), (2, .int x2_185), (3, .int x3_185), (4, .int x4_185)] [.int y0_185] 185 g185 := by
          intro x2_185 x3_185 x4_185 y0_185 g185  h
          unfold jL_holds_185 at h
          refine v_istore o (lv' := [(4, .int y0_185), (0, .ref b0), (1, .int p1), (2, .int x2_185), (3, .int x3_185)]) dL_holds_185 (by decide) rfl ?_
          refine v_iload o 0 dL_holds_187 rfl ?_
          refine v_if_eq o (tgt := 278) dL_holds_189 (by decide) (fun c189 => ?_) (fun c189 => ?_)
          · replace h := h.1 c189
            refine v_sub [1, 2, 3, 4, 0] (lv2 := [(0, .ref b0), (1, .int p1), (2, .int x2_185), (3, .int x3_185), (4, .int y0_185)]) rfl ?_
            exact J278 x2_185 x3_185 y0_185 g185  h
          · replace h := h.2 c189
            refine v_aload_n o 1 dL_holds_192 rfl ?_
            refine v_iload_n o 2 dL_holds_193 rfl ?_
            refine v_bipush o (v := 8) dL_holds_194 (by decide) ?_
            refine v_cVi o [.int p1, .int 8] [] (fun sz => metX7_loaf l G P g185 sz b0 hb0 p1 8 _ h) (cwL_21 o.1.2.2.2.2 (by decide)) ⟨_, _, rfl⟩ (by decide) (wfComp_o hb0) rfl (Nat.le_of_ble_eq_true rfl) ⟨Nat.le_of_ble_eq_true rfl, Nat.le_of_ble_eq_true rfl⟩ dL_holds_196 rfl (fun r196 g196 h => ?_)
            refine v_iconst o (v := 1) dL_holds_199 (by decide) ?_
            refine v_icmp_ne o (tgt := 207) dL_holds_200 (by decide) (fun c200 => ?_) (fun c200 => ?_)
            · replace h := h.1 c200
              refine v_iconst o (v := 0) dL_holds_207 (by decide) ?_
              refine v_sub [1, 2, 3, 4, 0] (lv2 := [(0, .ref b0), (1, .int p1), (2, .int x2_185), (3, .int x3_185), (4, .int y0_185)]) rfl ?_
              exact J208 x2_185 x3_185 y0_185 0 g196  h
            · replace h := h.2 c200
              refine v_iconst o (v := 1) dL_holds_203 (by decide) ?_
              refine v_goto o (tgt := 208) dL_holds_204 (by decide) ?_
              refine v_sub [1, 2, 3, 4, 0] (lv2 := [(0, .ref b0), (1, .int p1), (2, .int x2_185), (3, .int x3_185), (4, .int y0_185)]) rfl ?_
              exact J208 x2_185 x3_185 y0_185 1 g196  h
        have J184 : ∀ (x2_184 : Int32) (x3_184 : Int32) (x4_184 : Int32) (g184 : St), jL_holds_184 P b0 p1 (fun g' z0 z1 z2 => I12 g' z0 z1 z2 ∧ μ12 g' z0 z1 z2 < μ12 g x2 x3 x4) (fun g' z0 z1 z2 z3 z4 => I288 g' z0 z1 z2 z3 z4 ∧ μ288 g' z0 z1 z2 z3 z4 < μ12 g x2 x3 x4) K x2_184 x3_184 x4_184 g184 → V p l e rmL_holds s m args below meth c 7 G (frA P sz) (MQ below (QcI G P sz K) args s 0 0 (frA P sz)) 0 0 P [(0, .ref b0), (1, .int p1), (2, .int x2_184), (3, .int x3_184), (4, .int x4_184)] [] 184 g184 := by
          intro x2_184 x3_184 x4_184 g184  h
          unfold jL_holds_184 at h
          refine v_iconst o (v := 0) dL_holds_184 (by decide) ?_
          refine v_sub [0, 1, 2, 3, 4] (lv2 := [(0, .ref b0), (1, .int p1), (2, .int x2_184), (3, .int x3_184), (4, .int x4_184)]) rfl ?_
          exact J185 x2_184 x3_184 x4_184 0 g184  h
        unfold bL_holds_12 at h
        refine v_iload o 4 dL_holds_12 rfl ?_
        refine v_aload_n o 0 dL_holds_14 rfl ?_
        refine v_iload_n o 1 dL_holds_15 rfl ?_
        refine v_iconst o (v := 0) dL_holds_16 (by decide) ?_
        refine v_cVi o [.int p1, .int 0] [.int x4] (fun sz => metX7_loaf l G P g sz b0 hb0 p1 0 _ h) (cwL_21 o.1.2.2.2.2 (by decide)) ⟨_, _, rfl⟩ (by decide) (wfComp_o hb0) rfl (Nat.le_of_ble_eq_true rfl) ⟨Nat.le_of_ble_eq_true rfl, Nat.le_of_ble_eq_true rfl⟩ dL_holds_17 rfl (fun r17 g17 h => ?_)
        refine v_icmp_ge o (tgt := 105) dL_holds_20 (by decide) (fun c20 => ?_) (fun c20 => ?_)
        · replace h := h.1 c20
          refine v_iload_n o 3 dL_holds_105 rfl ?_
          refine v_iload_n o 2 dL_holds_106 rfl ?_
          refine v_icmp_ne o (tgt := 184) dL_holds_107 (by decide) (fun c107 => ?_) (fun c107 => ?_)
          · replace h := h.1 c107
            refine v_sub [0, 1, 2, 3, 4] (lv2 := [(0, .ref b0), (1, .int p1), (2, .int x2), (3, .int x3), (4, .int x4)]) rfl ?_
            exact J184 x2 x3 x4 g17  h
          · replace h := h.2 c107
            refine v_aload_n o 0 dL_holds_110 rfl ?_
            refine v_iload_n o 1 dL_holds_111 rfl ?_
            refine v_iconst o (v := 3) dL_holds_112 (by decide) ?_
            refine v_cVi o [.int p1, .int 3] [] (fun sz => metX7_loaf l G P g17 sz b0 hb0 p1 3 _ h) (cwL_21 o.1.2.2.2.2 (by decide)) ⟨_, _, rfl⟩ (by decide) (wfComp_o hb0) rfl (Nat.le_of_ble_eq_true rfl) ⟨Nat.le_of_ble_eq_true rfl, Nat.le_of_ble_eq_true rfl⟩ dL_holds_113 rfl (fun r113 g113 h => ?_)
            refine v_aload_n o 0 dL_holds_116 rfl ?_
            refine v_iload_n o 1 dL_holds_117 rfl ?_
            refine v_iconst o (v := 4) dL_holds_118 (by decide) ?_
            refine v_cVi o [.int p1, .int 4] [.int r113] (fun sz => metX7_loaf l G P g113 sz b0 hb0 p1 4 _ h) (cwL_21 o.1.2.2.2.2 (by decide)) ⟨_, _, rfl⟩ (by decide) (wfComp_o hb0) rfl (Nat.le_of_ble_eq_true rfl) ⟨Nat.le_of_ble_eq_true rfl, Nat.le_of_ble_eq_true rfl⟩ dL_holds_119 rfl (fun r119 g119 h => ?_)
            refine v_icmp_ne o (tgt := 184) dL_holds_122 (by decide) (fun c122 => ?_) (fun c122 => ?_)
            · replace h := h.1 c122
              refine v_sub [0, 1, 2, 3, 4] (lv2 := [(0, .ref b0), (1, .int p1), (2, .int x2), (3, .int x3), (4, .int x4)]) rfl ?_
              exact J184 x2 x3 x4 g119  h
            · replace h := h.2 c122
              refine v_aload_n o 0 dL_holds_125 rfl ?_
              refine v_iload_n o 1 dL_holds_126 rfl ?_
              refine v_iconst o (v := 5) dL_holds_127 (by decide) ?_
              refine v_cVi o [.int p1, .int 5] [] (fun sz => metX7_loaf l G P g119 sz b0 hb0 p1 5 _ h) (cwL_21 o.1.2.2.2.2 (by decide)) ⟨_, _, rfl⟩ (by decide) (wfComp_o hb0) rfl (Nat.le_of_ble_eq_true rfl) ⟨Nat.le_of_ble_eq_true rfl, Nat.le_of_ble_eq_true rfl⟩ dL_holds_128 rfl (fun r128 g128 h => ?_)
              refine v_aload_n o 0 dL_holds_131 rfl ?_
              refine v_iload_n o 1 dL_holds_132 rfl ?_
              refine v_bipush o (v := 6) dL_holds_133 (by decide) ?_
              refine v_cVi o [.int p1, .int 6] [.int r128] (fun sz => metX7_loaf l G P g128 sz b0 hb0 p1 6 _ h) (cwL_21 o.1.2.2.2.2 (by decide)) ⟨_, _, rfl⟩ (by decide) (wfComp_o hb0) rfl (Nat.le_of_ble_eq_true rfl) ⟨Nat.le_of_ble_eq_true rfl, Nat.le_of_ble_eq_true rfl⟩ dL_holds_135 rfl (fun r135 g135 h => ?_)
              refine v_icmp_ne o (tgt := 184) dL_holds_138 (by decide) (fun c138 => ?_) (fun c138 => ?_)
              · replace h := h.1 c138
                refine v_sub [0, 1, 2, 3, 4] (lv2 := [(0, .ref b0), (1, .int p1), (2, .int x2), (3, .int x3), (4, .int x4)]) rfl ?_
                exact J184 x2 x3 x4 g135  h
              · replace h := h.2 c138
                refine v_aload_n o 0 dL_holds_141 rfl ?_
                refine v_iload_n o 1 dL_holds_142 rfl ?_
                refine v_bipush o (v := 7) dL_holds_143 (by decide) ?_
                refine v_cVi o [.int p1, .int 7] [] (fun sz => metX7_loaf l G P g135 sz b0 hb0 p1 7 _ h) (cwL_21 o.1.2.2.2.2 (by decide)) ⟨_, _, rfl⟩ (by decide) (wfComp_o hb0) rfl (Nat.le_of_ble_eq_true rfl) ⟨Nat.le_of_ble_eq_true rfl, Nat.le_of_ble_eq_true rfl⟩ dL_holds_145 rfl (fun r145 g145 h => ?_)
                refine v_aload_n o 0 dL_holds_148 rfl ?_
                refine v_iload_n o 1 dL_holds_149 rfl ?_
                refine v_iconst o (v := 5) dL_holds_150 (by decide) ?_
                refine v_cVi o [.int p1, .int 5] [.int r145] (fun sz => metX7_loaf l G P g145 sz b0 hb0 p1 5 _ h) (cwL_21 o.1.2.2.2.2 (by decide)) ⟨_, _, rfl⟩ (by decide) (wfComp_o hb0) rfl (Nat.le_of_ble_eq_true rfl) ⟨Nat.le_of_ble_eq_true rfl, Nat.le_of_ble_eq_true rfl⟩ dL_holds_151 rfl (fun r151 g151 h => ?_)
                refine v_icmp_gt o (tgt := 184) dL_holds_154 (by decide) (fun c154 => ?_) (fun c154 => ?_)
                · replace h := h.1 c154
                  refine v_sub [0, 1, 2, 3, 4] (lv2 := [(0, .ref b0), (1, .int p1), (2, .int x2), (3, .int x3), (4, .int x4)]) rfl ?_
                  exact J184 x2 x3 x4 g151  h
                · replace h := h.2 c154
                  refine v_aload_n o 0 dL_holds_157 rfl ?_
                  refine v_iload_n o 1 dL_holds_158 rfl ?_
                  refine v_iconst o (v := 5) dL_holds_159 (by decide) ?_
                  refine v_cVi o [.int p1, .int 5] [] (fun sz => metX7_loaf l G P g151 sz b0 hb0 p1 5 _ h) (cwL_21 o.1.2.2.2.2 (by decide)) ⟨_, _, rfl⟩ (by decide) (wfComp_o hb0) rfl (Nat.le_of_ble_eq_true rfl) ⟨Nat.le_of_ble_eq_true rfl, Nat.le_of_ble_eq_true rfl⟩ dL_holds_160 rfl (fun r160 g160 h => ?_)
                  refine v_iload_n o 2 dL_holds_163 rfl ?_
                  refine v_icmp_gt o (tgt := 184) dL_holds_164 (by decide) (fun c164 => ?_) (fun c164 => ?_)
                  · replace h := h.1 c164
                    refine v_sub [0, 1, 2, 3, 4] (lv2 := [(0, .ref b0), (1, .int p1), (2, .int x2), (3, .int x3), (4, .int x4)]) rfl ?_
                    exact J184 x2 x3 x4 g160  h
                  · replace h := h.2 c164
                    refine v_iload_n o 2 dL_holds_167 rfl ?_
                    refine v_aload_n o 0 dL_holds_168 rfl ?_
                    refine v_iload_n o 1 dL_holds_169 rfl ?_
                    refine v_iconst o (v := 5) dL_holds_170 (by decide) ?_
                    refine v_cVi o [.int p1, .int 5] [.int x2] (fun sz => metX7_loaf l G P g160 sz b0 hb0 p1 5 _ h) (cwL_21 o.1.2.2.2.2 (by decide)) ⟨_, _, rfl⟩ (by decide) (wfComp_o hb0) rfl (Nat.le_of_ble_eq_true rfl) ⟨Nat.le_of_ble_eq_true rfl, Nat.le_of_ble_eq_true rfl⟩ dL_holds_171 rfl (fun r171 g171 h => ?_)
                    refine v_isub o dL_holds_174 ?_
                    refine v_iconst o (v := 2) dL_holds_175 (by decide) ?_
                    refine v_irem o dL_holds_176 (by decide) ?_
                    refine v_if_ne o (tgt := 184) dL_holds_177 (by decide) (fun c177 => ?_) (fun c177 => ?_)
                    · replace h := h.1 c177
                      refine v_sub [0, 1, 2, 3, 4] (lv2 := [(0, .ref b0), (1, .int p1), (2, .int x2), (3, .int x3), (4, .int x4)]) rfl ?_
                      exact J184 x2 x3 x4 g171  h
                    · replace h := h.2 c177
                      refine v_iconst o (v := 1) dL_holds_180 (by decide) ?_
                      refine v_goto o (tgt := 185) dL_holds_181 (by decide) ?_
                      refine v_sub [0, 1, 2, 3, 4] (lv2 := [(0, .ref b0), (1, .int p1), (2, .int x2), (3, .int x3), (4, .int x4)]) rfl ?_
                      exact J185 x2 x3 x4 1 g171  h
        · replace h := h.2 c20
          refine v_iload_n o 3 dL_holds_23 rfl ?_
          refine v_aload_n o 0 dL_holds_24 rfl ?_
          refine v_iload_n o 1 dL_holds_25 rfl ?_
          refine v_iload o 4 dL_holds_26 rfl ?_
          refine v_iconst o (v := 1) dL_holds_28 (by decide) ?_
          refine v_cVi o [.int p1, .int x4, .int 1] [.int x3] (fun sz => metX7_strand l G P g17 sz b0 hb0 p1 x4 1 _ h) (cwL_57 o.1.2.2.2.2 (by decide)) ⟨_, _, rfl⟩ (by decide) (wfComp_o hb0) rfl (Nat.le_of_ble_eq_true rfl) ⟨Nat.le_of_ble_eq_true rfl, Nat.le_of_ble_eq_true rfl⟩ dL_holds_29 rfl (fun r29 g29 h => ?_)
          refine v_iadd o dL_holds_32 ?_
          refine v_topi (fun x3_33 ex3_33 => ?_)
          replace h := h x3_33 ex3_33
          refine v_istore_n o (lv' := [(3, .int x3_33), (0, .ref b0), (1, .int p1), (2, .int x2), (4, .int x4)]) dL_holds_33 rfl (by decide) rfl ?_
          refine v_aload_n o 1 dL_holds_34 rfl ?_
          refine v_iload_n o 2 dL_holds_35 rfl ?_
          refine v_iload o 4 dL_holds_36 rfl ?_
          refine v_iconst o (v := 3) dL_holds_38 (by decide) ?_
          refine v_cVi o [.int p1, .int x4, .int 3] [] (fun sz => metX7_strand l G P g29 sz b0 hb0 p1 x4 3 _ h) (cwL_57 o.1.2.2.2.2 (by decide)) ⟨_, _, rfl⟩ (by decide) (wfComp_o hb0) rfl (Nat.le_of_ble_eq_true rfl) ⟨Nat.le_of_ble_eq_true rfl, Nat.le_of_ble_eq_true rfl⟩ dL_holds_39 rfl (fun r39 g39 h => ?_)
          refine v_bipush o (v := 30) dL_holds_42 (by decide) ?_
          refine v_aload_n o 1 dL_holds_44 rfl ?_
          refine v_iload_n o 2 dL_holds_45 rfl ?_
          refine v_iload o 4 dL_holds_46 rfl ?_
          refine v_iconst o (v := 2) dL_holds_48 (by decide) ?_
          refine v_cVi o [.int p1, .int x4, .int 2] [.int 30, .int r39] (fun sz => metX7_strand l G P g39 sz b0 hb0 p1 x4 2 _ h) (cwL_57 o.1.2.2.2.2 (by decide)) ⟨_, _, rfl⟩ (by decide) (wfComp_o hb0) rfl (Nat.le_of_ble_eq_true rfl) ⟨Nat.le_of_ble_eq_true rfl, Nat.le_of_ble_eq_true rfl⟩ dL_holds_49 rfl (fun r49 g49 h => ?_)
          refine v_isub o dL_holds_52 ?_
          refine v_iconst o (v := 2) dL_holds_53 (by decide) ?_
          refine v_aload_n o 1 dL_holds_54 rfl ?_
          refine v_iload_n o 2 dL_holds_55 rfl ?_
          refine v_iload o 4 dL_holds_56 rfl ?_
          refine v_iconst o (v := 1) dL_holds_58 (by decide) ?_
          refine v_cVi o [.int p1, .int x4, .int 1] [.int 2, .int (30 - r49), .int r39] (fun sz => metX7_strand l G P g49 sz b0 hb0 p1 x4 1 _ h) (cwL_57 o.1.2.2.2.2 (by decide)) ⟨_, _, rfl⟩ (by decide) (wfComp_o hb0) rfl (Nat.le_of_ble_eq_true rfl) ⟨Nat.le_of_ble_eq_true rfl, Nat.le_of_ble_eq_true rfl⟩ dL_holds_59 rfl (fun r59 g59 h => ?_)
          refine v_imul o dL_holds_62 ?_
          refine v_isub o dL_holds_63 ?_
          refine v_icmp_ne o (tgt := 97) dL_holds_64 (by decide) (fun c64 => ?_) (fun c64 => ?_)
          · replace h := h.1 c64
            refine v_iconst o (v := 0) dL_holds_97 (by decide) ?_
            exact v_zret o rfl hr bz0.1 dL_holds_98 h
          · replace h := h.2 c64
            refine v_aload_n o 1 dL_holds_67 rfl ?_
            refine v_iload_n o 2 dL_holds_68 rfl ?_
            refine v_iload o 4 dL_holds_69 rfl ?_
            refine v_iconst o (v := 3) dL_holds_71 (by decide) ?_
            refine v_cVi o [.int p1, .int x4, .int 3] [] (fun sz => metX7_strand l G P g59 sz b0 hb0 p1 x4 3 _ h) (cwL_57 o.1.2.2.2.2 (by decide)) ⟨_, _, rfl⟩ (by decide) (wfComp_o hb0) rfl (Nat.le_of_ble_eq_true rfl) ⟨Nat.le_of_ble_eq_true rfl, Nat.le_of_ble_eq_true rfl⟩ dL_holds_72 rfl (fun r72 g72 h => ?_)
            refine v_if_lt o (tgt := 97) dL_holds_75 (by decide) (fun c75 => ?_) (fun c75 => ?_)
            · replace h := h.1 c75
              refine v_iconst o (v := 0) dL_holds_97 (by decide) ?_
              exact v_zret o rfl hr bz0.1 dL_holds_98 h
            · replace h := h.2 c75
              refine v_aload_n o 1 dL_holds_78 rfl ?_
              refine v_iload_n o 2 dL_holds_79 rfl ?_
              refine v_aload_n o 1 dL_holds_80 rfl ?_
              refine v_iload_n o 2 dL_holds_81 rfl ?_
              refine v_iload o 4 dL_holds_82 rfl ?_
              refine v_iconst o (v := 0) dL_holds_84 (by decide) ?_
              refine v_cVi o [.int p1, .int x4, .int 0] [.int p1, .ref b0] (fun sz => metX7_strand l G P g72 sz b0 hb0 p1 x4 0 _ h) (cwL_57 o.1.2.2.2.2 (by decide)) ⟨_, _, rfl⟩ (by decide) (wfComp_o hb0) rfl (Nat.le_of_ble_eq_true rfl) ⟨Nat.le_of_ble_eq_true rfl, Nat.le_of_ble_eq_true rfl⟩ dL_holds_85 rfl (fun r85 g85 h => ?_)
              refine v_iconst o (v := 4) dL_holds_88 (by decide) ?_
              refine v_cVi o [.int p1, .int r85, .int 4] [] (fun sz => metX7_strand l G P g85 sz b0 hb0 p1 r85 4 _ h) (cwL_57 o.1.2.2.2.2 (by decide)) ⟨_, _, rfl⟩ (by decide) (wfComp_o hb0) rfl (Nat.le_of_ble_eq_true rfl) ⟨Nat.le_of_ble_eq_true rfl, Nat.le_of_ble_eq_true rfl⟩ dL_holds_89 rfl (fun r89 g89 h => ?_)
              refine v_iload o 4 dL_holds_92 rfl ?_
              refine v_icmp_eq o (tgt := 99) dL_holds_94 (by decide) (fun c94 => ?_) (fun c94 => ?_)
              · replace h := h.1 c94
                obtain ⟨x4_99, ex4_99⟩ : ∃ y : Int32, y = x4 + 1 := ⟨_, rfl⟩
                replace h := h x4_99 ex4_99
                refine v_iinc o (v := x4_99) (lv' := [(4, .int x4_99), (3, .int x3_33), (0, .ref b0), (1, .int p1), (2, .int x2)]) 4 dL_holds_99 rfl (by rw [ex4_99]; rfl) (by decide) rfl ?_
                refine v_goto o (tgt := 12) dL_holds_102 (by decide) ?_
                refine v_sub [2, 3, 4, 1, 0] (lv2 := [(0, .ref b0), (1, .int p1), (2, .int x2), (3, .int x3_33), (4, .int x4_99)]) rfl ?_
                exact ih.1 g89 x2 x3_33 x4_99  h.1 (by have := h.2; omega)
              · replace h := h.2 c94
                refine v_iconst o (v := 0) dL_holds_97 (by decide) ?_
                exact v_zret o rfl hr bz0.1 dL_holds_98 h
      · intro g x2 x3 x4 x5 x6 hI hm
        have h := h288 g x2 x3 x4 x5 x6 hI
        clear hI
        have J345 : ∀ (x2_345 : Int32) (x3_345 : Int32) (x4_345 : Int32) (x5_345 : Int32) (x6_345 : Int32) (y0_345 : Int32) (g345 : St), jL_holds_345 P b0 p1 (fun g' z0 z1 z2 => I12 g' z0 z1 z2 ∧ μ12 g' z0 z1 z2 < μ288 g x2 x3 x4 x5 x6) (fun g' z0 z1 z2 z3 z4 => I288 g' z0 z1 z2 z3 z4 ∧ μ288 g' z0 z1 z2 z3 z4 < μ288 g x2 x3 x4 x5 x6) K x2_345 x3_345 x4_345 x5_345 x6_345 y0_345 g345 → V p l e rmL_holds s m args below meth c 7 G (frA P sz) (MQ below (QcI G P sz K) args s 0 0 (frA P sz)) 0 0 P [(0, .ref b0), (1, .int p1), (2, .int x2_345), (3, .int x3_345), (4, .int x4_345), (5, .int x5_345), (6, .int x6_345)] [.int y0_345] 345 g345 := by
          intro x2_345 x3_345 x4_345 x5_345 x6_345 y0_345 g345  h
          unfold jL_holds_345 at h
          refine v_istore o (lv' := [(4, .int y0_345), (0, .ref b0), (1, .int p1), (2, .int x2_345), (3, .int x3_345), (5, .int x5_345), (6, .int x6_345)]) dL_holds_345 (by decide) rfl ?_
          obtain ⟨x6_347, ex6_347⟩ : ∃ y : Int32, y = x6_345 + 1 := ⟨_, rfl⟩
          replace h := h x6_347 ex6_347
          refine v_iinc o (v := x6_347) (lv' := [(6, .int x6_347), (4, .int y0_345), (0, .ref b0), (1, .int p1), (2, .int x2_345), (3, .int x3_345), (5, .int x5_345)]) 6 dL_holds_347 rfl (by rw [ex6_347]; rfl) (by decide) rfl ?_
          refine v_goto o (tgt := 288) dL_holds_350 (by decide) ?_
          refine v_sub [2, 3, 4, 5, 1, 6, 0] (lv2 := [(0, .ref b0), (1, .int p1), (2, .int x2_345), (3, .int x3_345), (4, .int y0_345), (5, .int x5_345), (6, .int x6_347)]) rfl ?_
          exact ih.2 g345 x2_345 x3_345 y0_345 x5_345 x6_347  h.1 (by have := h.2; omega)
        have J344 : ∀ (x2_344 : Int32) (x3_344 : Int32) (x4_344 : Int32) (x5_344 : Int32) (x6_344 : Int32) (g344 : St), jL_holds_344 P b0 p1 (fun g' z0 z1 z2 => I12 g' z0 z1 z2 ∧ μ12 g' z0 z1 z2 < μ288 g x2 x3 x4 x5 x6) (fun g' z0 z1 z2 z3 z4 => I288 g' z0 z1 z2 z3 z4 ∧ μ288 g' z0 z1 z2 z3 z4 < μ288 g x2 x3 x4 x5 x6) K x2_344 x3_344 x4_344 x5_344 x6_344 g344 → V p l e rmL_holds s m args below meth c 7 G (frA P sz) (MQ below (QcI G P sz K) args s 0 0 (frA P sz)) 0 0 P [(0, .ref b0), (1, .int p1), (2, .int x2_344), (3, .int x3_344), (4, .int x4_344), (5, .int x5_344), (6, .int x6_344)] [] 344 g344 := by
          intro x2_344 x3_344 x4_344 x5_344 x6_344 g344  h
          unfold jL_holds_344 at h
          refine v_iconst o (v := 0) dL_holds_344 (by decide) ?_
          refine v_sub [0, 1, 2, 3, 4, 5, 6] (lv2 := [(0, .ref b0), (1, .int p1), (2, .int x2_344), (3, .int x3_344), (4, .int x4_344), (5, .int x5_344), (6, .int x6_344)]) rfl ?_
          exact J345 x2_344 x3_344 x4_344 x5_344 x6_344 0 g344  h
        have J313 : ∀ (x2_313 : Int32) (x3_313 : Int32) (x4_313 : Int32) (x5_313 : Int32) (x6_313 : Int32) (y0_313 : Int32) (y1_313 : Int32) (g313 : St), jL_holds_313 P b0 p1 (fun g' z0 z1 z2 => I12 g' z0 z1 z2 ∧ μ12 g' z0 z1 z2 < μ288 g x2 x3 x4 x5 x6) (fun g' z0 z1 z2 z3 z4 => I288 g' z0 z1 z2 z3 z4 ∧ μ288 g' z0 z1 z2 z3 z4 < μ288 g x2 x3 x4 x5 x6) K x2_313 x3_313 x4_313 x5_313 x6_313 y0_313 y1_313 g313 → V p l e rmL_holds s m args below meth c 7 G (frA P sz) (MQ below (QcI G P sz K) args s 0 0 (frA P sz)) 0 0 P [(0, .ref b0), (1, .int p1), (2, .int x2_313), (3, .int x3_313), (4, .int x4_313), (5, .int x5_313), (6, .int x6_313)] [.int y1_313, .int y0_313] 313 g313 := by
          intro x2_313 x3_313 x4_313 x5_313 x6_313 y0_313 y1_313 g313  h
          unfold jL_holds_313 at h
          refine v_iadd o dL_holds_313 ?_
          refine v_topi (fun x5_314 ex5_314 => ?_)
          replace h := h x5_314 ex5_314
          refine v_istore o (lv' := [(5, .int x5_314), (0, .ref b0), (1, .int p1), (2, .int x2_313), (3, .int x3_313), (4, .int x4_313), (6, .int x6_313)]) dL_holds_314 (by decide) rfl ?_
          refine v_iload o 5 dL_holds_316 rfl ?_
          refine v_if_eq o (tgt := 344) dL_holds_318 (by decide) (fun c318 => ?_) (fun c318 => ?_)
          · replace h := h.1 c318
            refine v_sub [1, 2, 3, 4, 5, 0, 6] (lv2 := [(0, .ref b0), (1, .int p1), (2, .int x2_313), (3, .int x3_313), (4, .int x4_313), (5, .int x5_314), (6, .int x6_313)]) rfl ?_
            exact J344 x2_313 x3_313 x4_313 x5_314 x6_313 g313  h
          · replace h := h.2 c318
            refine v_aload_n o 1 dL_holds_321 rfl ?_
            refine v_iload_n o 2 dL_holds_322 rfl ?_
            refine v_iload o 6 dL_holds_323 rfl ?_
            refine v_iconst o (v := 2) dL_holds_325 (by decide) ?_
            refine v_cVi o [.int p1, .int x6_313, .int 2] [] (fun sz => metX7_crossing l G P g313 sz b0 hb0 p1 x6_313 2 _ h) (cwL_25 o.1.2.2.2.2 (by decide)) ⟨_, _, rfl⟩ (by decide) (wfComp_o hb0) rfl (Nat.le_of_ble_eq_true rfl) ⟨Nat.le_of_ble_eq_true rfl, Nat.le_of_ble_eq_true rfl⟩ dL_holds_326 rfl (fun r326 g326 h => ?_)
            refine v_aload_n o 1 dL_holds_329 rfl ?_
            refine v_iload_n o 2 dL_holds_330 rfl ?_
            refine v_iload o 6 dL_holds_331 rfl ?_
            refine v_iconst o (v := 3) dL_holds_333 (by decide) ?_
            refine v_cVi o [.int p1, .int x6_313, .int 3] [.int r326] (fun sz => metX7_crossing l G P g326 sz b0 hb0 p1 x6_313 3 _ h) (cwL_25 o.1.2.2.2.2 (by decide)) ⟨_, _, rfl⟩ (by decide) (wfComp_o hb0) rfl (Nat.le_of_ble_eq_true rfl) ⟨Nat.le_of_ble_eq_true rfl, Nat.le_of_ble_eq_true rfl⟩ dL_holds_334 rfl (fun r334 g334 h => ?_)
            refine v_icmp_eq o (tgt := 344) dL_holds_337 (by decide) (fun c337 => ?_) (fun c337 => ?_)
            · replace h := h.1 c337
              refine v_sub [1, 2, 3, 4, 5, 0, 6] (lv2 := [(0, .ref b0), (1, .int p1), (2, .int x2_313), (3, .int x3_313), (4, .int x4_313), (5, .int x5_314), (6, .int x6_313)]) rfl ?_
              exact J344 x2_313 x3_313 x4_313 x5_314 x6_313 g334  h
            · replace h := h.2 c337
              refine v_iconst o (v := 1) dL_holds_340 (by decide) ?_
              refine v_goto o (tgt := 345) dL_holds_341 (by decide) ?_
              refine v_sub [1, 2, 3, 4, 5, 0, 6] (lv2 := [(0, .ref b0), (1, .int p1), (2, .int x2_313), (3, .int x3_313), (4, .int x4_313), (5, .int x5_314), (6, .int x6_313)]) rfl ?_
              exact J345 x2_313 x3_313 x4_313 x5_314 x6_313 1 g334  h
        unfold bL_holds_288 at h
        refine v_iload o 6 dL_holds_288 rfl ?_
        refine v_iload_n o 2 dL_holds_290 rfl ?_
        refine v_icmp_ge o (tgt := 353) dL_holds_291 (by decide) (fun c291 => ?_) (fun c291 => ?_)
        · replace h := h.1 c291
          refine v_iload o 4 dL_holds_353 rfl ?_
          refine v_if_eq o (tgt := 373) dL_holds_355 (by decide) (fun c355 => ?_) (fun c355 => ?_)
          · replace h := h.1 c355
            refine v_iconst o (v := 0) dL_holds_373 (by decide) ?_
            exact v_zret o rfl hr bz0.1 dL_holds_374 h
          · replace h := h.2 c355
            refine v_iload o 5 dL_holds_358 rfl ?_
            refine v_aload_n o 0 dL_holds_360 rfl ?_
            refine v_iload_n o 1 dL_holds_361 rfl ?_
            refine v_iconst o (v := 2) dL_holds_362 (by decide) ?_
            refine v_cVi o [.int p1, .int 2] [.int x5] (fun sz => metX7_loaf l G P g sz b0 hb0 p1 2 _ h) (cwL_21 o.1.2.2.2.2 (by decide)) ⟨_, _, rfl⟩ (by decide) (wfComp_o hb0) rfl (Nat.le_of_ble_eq_true rfl) ⟨Nat.le_of_ble_eq_true rfl, Nat.le_of_ble_eq_true rfl⟩ dL_holds_363 rfl (fun r363 g363 h => ?_)
            refine v_icmp_ne o (tgt := 373) dL_holds_366 (by decide) (fun c366 => ?_) (fun c366 => ?_)
            · replace h := h.1 c366
              refine v_iconst o (v := 0) dL_holds_373 (by decide) ?_
              exact v_zret o rfl hr bz0.1 dL_holds_374 h
            · replace h := h.2 c366
              refine v_iconst o (v := 1) dL_holds_369 (by decide) ?_
              refine v_goto o (tgt := 374) dL_holds_370 (by decide) ?_
              exact v_zret o rfl hr bz1.1 dL_holds_374 h
        · replace h := h.2 c291
          refine v_iload o 5 dL_holds_294 rfl ?_
          refine v_aload_n o 0 dL_holds_296 rfl ?_
          refine v_iload_n o 1 dL_holds_297 rfl ?_
          refine v_iload o 6 dL_holds_298 rfl ?_
          refine v_iconst o (v := 1) dL_holds_300 (by decide) ?_
          refine v_cVi o [.int p1, .int x6, .int 1] [.int x5] (fun sz => metX7_crossing l G P g sz b0 hb0 p1 x6 1 _ h) (cwL_25 o.1.2.2.2.2 (by decide)) ⟨_, _, rfl⟩ (by decide) (wfComp_o hb0) rfl (Nat.le_of_ble_eq_true rfl) ⟨Nat.le_of_ble_eq_true rfl, Nat.le_of_ble_eq_true rfl⟩ dL_holds_301 rfl (fun r301 g301 h => ?_)
          refine v_iconst o (v := 1) dL_holds_304 (by decide) ?_
          refine v_icmp_ne o (tgt := 312) dL_holds_305 (by decide) (fun c305 => ?_) (fun c305 => ?_)
          · replace h := h.1 c305
            refine v_iconst o (v := (-1)) dL_holds_312 (by decide) ?_
            refine v_sub [0, 1, 2, 3, 4, 5, 6] (lv2 := [(0, .ref b0), (1, .int p1), (2, .int x2), (3, .int x3), (4, .int x4), (5, .int x5), (6, .int x6)]) rfl ?_
            exact J313 x2 x3 x4 x5 x6 x5 (-1) g301  h
          · replace h := h.2 c305
            refine v_iconst o (v := 1) dL_holds_308 (by decide) ?_
            refine v_goto o (tgt := 313) dL_holds_309 (by decide) ?_
            refine v_sub [0, 1, 2, 3, 4, 5, 6] (lv2 := [(0, .ref b0), (1, .int p1), (2, .int x2), (3, .int x3), (4, .int x4), (5, .int x5), (6, .int x6)]) rfl ?_
            exact J313 x2 x3 x4 x5 x6 x5 1 g301  h
  unfold vL_holds at h
  refine v_aload_n o 0 dL_holds_0 rfl ?_
  refine v_iload_n o 1 dL_holds_1 rfl ?_
  refine v_iconst o (v := 1) dL_holds_2 (by decide) ?_
  refine v_cVi o [.int p1, .int 1] [] (fun sz => metX7_loaf l G P f sz b0 hb0 p1 1 _ h) (cwL_21 o.1.2.2.2.2 (by decide)) ⟨_, _, rfl⟩ (by decide) (wfComp_o hb0) rfl (Nat.le_of_ble_eq_true rfl) ⟨Nat.le_of_ble_eq_true rfl, Nat.le_of_ble_eq_true rfl⟩ dL_holds_3 rfl (fun r3 g3 h => ?_)
  refine v_istore_n o (lv' := [(2, .int r3), (0, .ref b0), (1, .int p1)]) dL_holds_6 rfl (by decide) rfl ?_
  refine v_iconst o (v := 0) dL_holds_7 (by decide) ?_
  refine v_istore_n o (lv' := [(3, .int 0), (2, .int r3), (0, .ref b0), (1, .int p1)]) dL_holds_8 rfl (by decide) rfl ?_
  refine v_iconst o (v := 0) dL_holds_9 (by decide) ?_
  refine v_istore o (lv' := [(4, .int 0), (3, .int 0), (2, .int r3), (0, .ref b0), (1, .int p1)]) dL_holds_10 (by decide) rfl ?_
  refine v_sub [3, 4, 2, 1, 0] (lv2 := [(0, .ref b0), (1, .int p1), (2, .int r3), (3, .int 0), (4, .int 0)]) rfl ?_
  exact (main (μ12 g3 r3 0 0 + 1)).1 g3 r3 0 0  h (Nat.lt_succ_self _)
def WL_holds (P : Sk) (f : St) (b0 : Nat) (p1 : Int32) (K : Int32 → St → Prop) : Prop := ∃ (I12 : St → Int32 → Int32 → Int32 → Prop) (I288 : St → Int32 → Int32 → Int32 → Int32 → Int32 → Prop) (μ12 : St → Int32 → Int32 → Int32 → Nat) (μ288 : St → Int32 → Int32 → Int32 → Int32 → Int32 → Nat), (vL_holds P f b0 p1 I12 I288 K) ∧ (∀ (g : St) (x2 : Int32) (x3 : Int32) (x4 : Int32) , I12 g x2 x3 x4 → bL_holds_12 P b0 p1 (fun g' z0 z1 z2 => I12 g' z0 z1 z2 ∧ μ12 g' z0 z1 z2 < μ12 g x2 x3 x4) (fun g' z0 z1 z2 z3 z4 => I288 g' z0 z1 z2 z3 z4 ∧ μ288 g' z0 z1 z2 z3 z4 < μ12 g x2 x3 x4) K g x2 x3 x4) ∧ (∀ (g : St) (x2 : Int32) (x3 : Int32) (x4 : Int32) (x5 : Int32) (x6 : Int32) , I288 g x2 x3 x4 x5 x6 → bL_holds_288 P b0 p1 (fun g' z0 z1 z2 => I12 g' z0 z1 z2 ∧ μ12 g' z0 z1 z2 < μ288 g x2 x3 x4 x5 x6) (fun g' z0 z1 z2 z3 z4 => I288 g' z0 z1 z2 z3 z4 ∧ μ288 g' z0 z1 z2 z3 z4 < μ288 g x2 x3 x4 x5 x6) K g x2 x3 x4 x5 x6)
section HO
variable {P : Sk} {f : St} {x l : Nat} {A : Ab} {L12 : St → Int32 → Int32 → Int32 → Prop} {L288 : St → Int32 → Int32 → Int32 → Int32 → Int32 → Prop} {K : Int32 → St → Prop} {x2 x3 x4 : Int32}
theorem ph_261 (hL : ∀ g, CompIs g x A → L288 g x2 x3 1 100 0) (C : CompIs f x A) (hl : l < A.1.1.length) {y0 y1 : Int32} (e : y0 = y1) : jL_holds_261 P x (nI l) L12 L288 K x2 x3 x4 y0 y1 f := by
  unfold jL_holds_261
  refine ⟨fun q => absurd e q, fun _ => ?_⟩
  refine pb_alike C hl (fun g C2 => ?_)
  change _ ∧ _
  refine ⟨fun q => absurd rfl q, fun _ => ?_⟩
  unfold jL_holds_279
  exact hL g C2
theorem ph_247 (hL : ∀ g, CompIs g x A → L288 g x2 x3 1 100 0) (C : CompIs f x A) (hl : l < A.1.1.length) {b : Int32} (hb : (b = 1 ∧ perV (lfAt A.1.1 l) = 1) ∨ (b = 0 ∧ perV (lfAt A.1.1 l) ≠ 1)) : jL_holds_247 P x (nI l) L12 L288 K x2 x3 x4 b f := by
  unfold jL_holds_247
  have hp := perV_lt (C.2.2.2.2.2.1.at hl).1
  refine pb_period C hl (fun g C2 => ?_)
  change _ ∧ _
  rw [show (1 : Int32) = nI 1 from rfl, nI_eq hp (by decide)]
  refine ⟨fun q => ?_, fun q => ?_⟩
  · rcases hb with ⟨hb, e⟩ | ⟨hb, e⟩
    · exact absurd e q
    · exact ph_261 hL C2 hl hb
  · rcases hb with ⟨hb, e⟩ | ⟨hb, e⟩
    · exact ph_261 hL C2 hl hb
    · exact absurd q e
theorem ph_228 (hL : ∀ g, CompIs g x A → L288 g x2 x3 1 100 0) (hx : IsComp P x) (C : CompIs f x A) (hl : l < A.1.1.length) {y0 y1 : Int32} (e : y0 = y1) : jL_holds_228 P x (nI l) L12 L288 K x2 x3 x4 y0 y1 f := by
  unfold jL_holds_228
  have hpl := plain_iff (C.2.2.2.2.2.1.at hl).1
  refine ⟨fun q => absurd e q, fun _ => ?_⟩
  refine pb_loaf (q := 8) (v := if rgV (lfAt A.1.1 l) = (lfAt A.1.1 l).1 then 1 else 0) hx C hl (by decide) rfl (fun g C2 => ?_)
  change _ ∧ _
  by_cases c : rgV (lfAt A.1.1 l) = (lfAt A.1.1 l).1
  · rw [if_pos c]
    exact ⟨fun q => absurd rfl q, fun _ => ph_247 hL C2 hl (Or.inl ⟨rfl, hpl.mpr c⟩)⟩
  · rw [if_neg c]
    exact ⟨fun _ => ph_247 hL C2 hl (Or.inr ⟨rfl, fun q => c (hpl.mp q)⟩), fun q => absurd q (by decide)⟩
theorem ph_208 (hL : ∀ g, CompIs g x A → L288 g x2 x3 1 100 0) (hx : IsComp P x) (C : CompIs f x A) (hl : l < A.1.1.length) {b : Int32} (hb : (b = 1 ∧ rgV (lfAt A.1.1 l) = (lfAt A.1.1 l).1) ∨ (b = 0 ∧ rgV (lfAt A.1.1 l) ≠ (lfAt A.1.1 l).1)) : jL_holds_208 P x (nI l) L12 L288 K x2 x3 x4 b f := by
  unfold jL_holds_208
  have h7 := (C.2.2.2.2.2.1.at hl).1.2.1
  have hr := rgV_le (lfAt A.1.1 l)
  refine pb_loaf (q := 3) (v := nI (rgV (lfAt A.1.1 l))) hx C hl (by decide) rfl (fun g C2 => ?_)
  refine pb_loaf (q := 0) (v := nI (lfAt A.1.1 l).1) hx C2 hl (by decide) rfl (fun g3 C3 => ?_)
  change _ ∧ _
  rw [nI_eq (by omega) (by omega)]
  refine ⟨fun q => ?_, fun q => ?_⟩
  · rcases hb with ⟨hb, e⟩ | ⟨hb, e⟩
    · exact absurd e q
    · exact ph_228 hL hx C3 hl hb
  · rcases hb with ⟨hb, e⟩ | ⟨hb, e⟩
    · exact ph_228 hL hx C3 hl hb
    · exact absurd q e
theorem ph_185 (hL : ∀ g, CompIs g x A → L288 g x2 x3 1 100 0) (hx : IsComp P x) (C : CompIs f x A) (hl : l < A.1.1.length) : jL_holds_185 P x (nI l) L12 L288 K x2 x3 x4 1 f := by
  unfold jL_holds_185
  refine ⟨fun q => absurd q (by decide), fun _ => ?_⟩
  refine pb_loaf (q := 8) (v := if rgV (lfAt A.1.1 l) = (lfAt A.1.1 l).1 then 1 else 0) hx C hl (by decide) rfl (fun g C2 => ?_)
  change _ ∧ _
  by_cases c : rgV (lfAt A.1.1 l) = (lfAt A.1.1 l).1
  · rw [if_pos c]
    exact ⟨fun q => absurd rfl q, fun _ => ph_208 hL hx C2 hl (Or.inl ⟨rfl, c⟩)⟩
  · rw [if_neg c]
    exact ⟨fun _ => ph_208 hL hx C2 hl (Or.inr ⟨rfl, c⟩), fun q => absurd q (by decide)⟩
end HO
def kL_holds (P : Sk) (f : St) (b0 : Nat) (p1 : Int32) (K : Int32 → St → Prop) : Prop := ∃ A l, CompIs f b0 A ∧ p1 = nI l ∧ l < A.1.1.length ∧ ∀ g, CompIs g b0 A → K 1 g
theorem wL_holds (P : Sk) (f : St) (b0 : Nat) (hb0 : IsComp P b0) (p1 : Int32) (K : Int32 → St → Prop) (h : kL_holds P f b0 p1 K) : WL_holds P f b0 p1 K := by
  obtain ⟨A, l, hC, rfl, hl, hK⟩ := h
  have h6 := hC.2.2.2.2.2.1
  have hy := h6.at hl
  have hw := hy.1
  have hd := hy.2
  have h24 := hw.2.2.1
  have h7 := hw.2.1
  have h2 := hw.1
  refine ⟨fun g x2 x3 x4 => ∃ s, x2 = nI (lfAt A.1.1 l).2.length ∧ x3 = nI (sumN (tU (lfAt A.1.1 l).2 (lfAt A.1.1 l).2.length) s) ∧ x4 = nI s ∧ s ≤ (lfAt A.1.1 l).1 ∧ CompIs g b0 A, fun g x2 x3 x4 x5 x6 => ∃ k, x2 = nI (lfAt A.1.1 l).2.length ∧ x4 = 1 ∧ x5 = 100 + rll (lfAt A.1.1 l).2 k ∧ x6 = nI k ∧ k ≤ (lfAt A.1.1 l).2.length ∧ CompIs g b0 A, fun g x2 x3 x4 => 200 - x4.toNatClampNeg, fun g x2 x3 x4 x5 x6 => 100 - x6.toNatClampNeg, ?_, ?_, ?_⟩
  · unfold vL_holds
    refine pb_loaf (q := 1) (v := nI (lfAt A.1.1 l).2.length) hb0 hC hl (by decide) rfl (fun g1 C1 => ?_)
    exact ⟨0, rfl, rfl, rfl, Nat.zero_le _, C1⟩
  · rintro g x2 x3 x4 ⟨s, rfl, rfl, rfl, hs, C⟩
    unfold bL_holds_12
    refine pb_loaf (q := 0) (v := nI (lfAt A.1.1 l).1) hb0 C hl (by decide) rfl (fun g1 C1 => ?_)
    change _ ∧ _
    rw [nI_leI (by omega) (by omega)]
    refine ⟨fun q => ?_, fun q => ?_⟩
    · have e : s = (lfAt A.1.1 l).1 := by omega
      rw [e, sum_tU hw _ (Nat.le_refl _)]
      refine ⟨fun q => absurd rfl q, fun _ => ?_⟩
      refine pb_loaf (q := 3) (v := nI (rgV (lfAt A.1.1 l))) hb0 C1 hl (by decide) rfl (fun g2 C2 => ?_)
      refine pb_loaf (q := 4) (v := nI (rgV (lfAt A.1.1 l))) hb0 C2 hl (by decide) rfl (fun g3 C3 => ?_)
      change _ ∧ _
      refine ⟨fun q => absurd rfl q, fun _ => ?_⟩
      have hsf := SF_len (lfAt A.1.1 l).2
      have hnf := NF_le_SF (lfAt A.1.1 l).2
      have hpar := SF_par (lfAt A.1.1 l).2
      refine pb_loaf (q := 5) (v := nI (SF (lfAt A.1.1 l).2).length) hb0 C3 hl (by decide) rfl (fun g4 C4 => ?_)
      refine pb_loaf (q := 6) (v := nI (SF (lfAt A.1.1 l).2).length) hb0 C4 hl (by decide) rfl (fun g5 C5 => ?_)
      change _ ∧ _
      refine ⟨fun q => absurd rfl q, fun _ => ?_⟩
      refine pb_loaf (q := 7) (v := nI (NF (lfAt A.1.1 l).2).length) hb0 C5 hl (by decide) rfl (fun g6 C6 => ?_)
      refine pb_loaf (q := 5) (v := nI (SF (lfAt A.1.1 l).2).length) hb0 C6 hl (by decide) rfl (fun g7 C7 => ?_)
      change _ ∧ _
      rw [nI_ltI (by omega) (by omega)]
      refine ⟨fun q => absurd q (by omega), fun _ => ?_⟩
      refine pb_loaf (q := 5) (v := nI (SF (lfAt A.1.1 l).2).length) hb0 C7 hl (by decide) rfl (fun g8 C8 => ?_)
      change _ ∧ _
      rw [nI_ltI (by omega) (by omega)]
      refine ⟨fun q => absurd q (by omega), fun _ => ?_⟩
      refine pb_loaf (q := 5) (v := nI (SF (lfAt A.1.1 l).2).length) hb0 C8 hl (by decide) rfl (fun g9 C9 => ?_)
      change _ ∧ _
      rw [pk_sub hsf, show (2 : Int32) = nI 2 from rfl, pk_rem (by omega) (by decide) (by decide), hpar]
      refine ⟨fun q => absurd rfl q, fun _ => ?_⟩
      refine ph_185 (A := A) (fun g10 C10 => ⟨⟨0, rfl, rfl, rfl, rfl, Nat.zero_le _, C10⟩, ?_⟩) hb0 C9 hl
      show 100 - (nI 0).toNatClampNeg < 200 - (nI (lfAt A.1.1 l).1).toNatClampNeg
      rw [nI_clamp (n := 0) (by decide), nI_clamp (n := (lfAt A.1.1 l).1) (by omega)]
      omega
    · have hs2 : s < (lfAt A.1.1 l).1 := by omega
      have hdg := hd s hs2
      have hu : stN (lfAt A.1.1 l).1 (lfAt A.1.1 l).2 s 1 = tU (lfAt A.1.1 l).2 (lfAt A.1.1 l).2.length s := rfl
      have ha : stN (lfAt A.1.1 l).1 (lfAt A.1.1 l).2 s 2 = tA (lfAt A.1.1 l).2 (lfAt A.1.1 l).2.length s := rfl
      have h3 : stN (lfAt A.1.1 l).1 (lfAt A.1.1 l).2 s 3 = 30 - dgh (lfAt A.1.1 l).2 s := rfl
      have hdd : dgh (lfAt A.1.1 l).2 s = tA (lfAt A.1.1 l).2 (lfAt A.1.1 l).2.length s + 2 * tU (lfAt A.1.1 l).2 (lfAt A.1.1 l).2.length s := rfl
      refine pb_strand (q := 1) hb0 C1 hl hs2 (by decide) (fun g2 C2 => ?_)
      intro y ey
      refine pb_strand (q := 3) hb0 C2 hl hs2 (by decide) (fun g3 C3 => ?_)
      refine pb_strand (q := 2) hb0 C3 hl hs2 (by decide) (fun g4 C4 => ?_)
      refine pb_strand (q := 1) hb0 C4 hl hs2 (by decide) (fun g5 C5 => ?_)
      change _ ∧ _
      have e30 : (30 : Int32) - nI (stN (lfAt A.1.1 l).1 (lfAt A.1.1 l).2 s 2) - 2 * nI (stN (lfAt A.1.1 l).1 (lfAt A.1.1 l).2 s 1) = nI (stN (lfAt A.1.1 l).1 (lfAt A.1.1 l).2 s 3) := by
        rw [hu, ha, h3, show (2 : Int32) = nI 2 from rfl, nI_mul, show (30 : Int32) = nI 30 from rfl, pk_sub (by omega), pk_sub (by omega)]
        congr 1
        omega
      rw [e30]
      refine ⟨fun q => absurd rfl q, fun _ => ?_⟩
      refine pb_strand (q := 3) hb0 C5 hl hs2 (by decide) (fun g6 C6 => ?_)
      change _ ∧ _
      refine ⟨fun q => absurd q (nI_nn (by rw [h3]; omega)), fun _ => ?_⟩
      refine pb_strand (q := 0) hb0 C6 hl hs2 (by decide) (fun g7 C7 => ?_)
      have hE : wE (lfAt A.1.1 l).2 (lfAt A.1.1 l).2.length s < (lfAt A.1.1 l).1 := wE_lt hw _ s (Nat.le_refl _) hs2
      refine pb_strand (s := wE (lfAt A.1.1 l).2 (lfAt A.1.1 l).2.length s) (q := 4) hb0 C7 hl hE (by decide) (fun g8 C8 => ?_)
      change _ ∧ _
      have e4 : stN (lfAt A.1.1 l).1 (lfAt A.1.1 l).2 (wE (lfAt A.1.1 l).2 (lfAt A.1.1 l).2.length s) 4 = s := wHE _ _ _
      rw [e4]
      refine ⟨fun _ => ?_, fun q => absurd rfl q⟩
      intro z ez
      rw [nI_1] at ez
      rw [hu, nI_add] at ey
      refine ⟨⟨s + 1, rfl, ey, ez, hs2, C8⟩, ?_⟩
      show 200 - z.toNatClampNeg < 200 - (nI s).toNatClampNeg
      rw [ez, nI_clamp (n := s + 1) (by omega), nI_clamp (n := s) (by omega)]
      omega
  · rintro g x2 x3 x4 x5 x6 ⟨k, rfl, rfl, rfl, rfl, hk, C⟩
    unfold bL_holds_288
    rw [nI_leI (by omega) (by omega)]
    refine ⟨fun q => ⟨fun q2 => absurd q2 (by decide), fun _ => ?_⟩, fun q => ?_⟩
    · have e : k = (lfAt A.1.1 l).2.length := by omega
      rw [e]
      refine pb_loaf (q := 2) (v := 100 + rll (lfAt A.1.1 l).2 (lfAt A.1.1 l).2.length) hb0 C hl (by decide) rfl (fun g2 C2 => ?_)
      change _ ∧ _
      exact ⟨fun q => absurd rfl q, fun _ => hK g2 C2⟩
    · have hk2 : k < (lfAt A.1.1 l).2.length := by omega
      have er : rll (lfAt A.1.1 l).2 (k + 1) = rll (lfAt A.1.1 l).2 k + (if (lfAt A.1.1 l).2.getD k 0 % 2 = 1 then 1 else -1) := rfl
      have go : ∀ (L12 : St → Int32 → Int32 → Int32 → Prop) (L288 : St → Int32 → Int32 → Int32 → Int32 → Int32 → Prop) (d : Int32) (g2 : St), (∀ g' y5 y6, y5 = 100 + rll (lfAt A.1.1 l).2 (k + 1) → y6 = nI (k + 1) → CompIs g' b0 A → L288 g' (nI (lfAt A.1.1 l).2.length) x3 1 y5 y6) → CompIs g2 b0 A → rll (lfAt A.1.1 l).2 (k + 1) = rll (lfAt A.1.1 l).2 k + d → jL_holds_313 P b0 (nI l) L12 L288 K (nI (lfAt A.1.1 l).2.length) x3 1 (100 + rll (lfAt A.1.1 l).2 k) (nI k) (100 + rll (lfAt A.1.1 l).2 k) d g2 := by
        intro L12 L288 d g2 hL C2 ed
        unfold jL_holds_313
        intro y5 e5
        refine ⟨fun q => absurd q (by decide), fun _ => ?_⟩
        refine pb_crossing (q := 2) hb0 C2 hl hk2 (by decide) (fun g3 C3 => ?_)
        refine pb_crossing (q := 3) hb0 C3 hl hk2 (by decide) (fun g4 C4 => ?_)
        change _ ∧ _
        have c2 : crN (lfAt A.1.1 l).2 k 2 = hidA (lfAt A.1.1 l).2 k := rfl
        have c3 : crN (lfAt A.1.1 l).2 k 3 = abvA (lfAt A.1.1 l).2 k := rfl
        have b2 := hid_lt hw hk2
        have b3 := abv_lt hw hk2
        rw [c2, c3, nI_eq (by omega) (by omega)]
        refine ⟨fun q => absurd q (hid_abv _ _), fun _ => ?_⟩
        unfold jL_holds_345
        intro y6 e6
        rw [nI_1] at e6
        exact hL g4 y5 y6 (by rw [e5, ed, Int32.add_assoc]) e6 C4
      have mu : ∀ y6, y6 = nI (k + 1) → 100 - y6.toNatClampNeg < 100 - (nI k).toNatClampNeg := by
        intro y6 e6
        rw [e6, nI_clamp (n := k + 1) (by omega), nI_clamp (n := k) (by omega)]
        omega
      refine pb_crossing (q := 1) hb0 C hl hk2 (by decide) (fun g2 C2 => ?_)
      change _ ∧ _
      have c1 : crN (lfAt A.1.1 l).2 k 1 = (lfAt A.1.1 l).2.getD k 0 % 2 := rfl
      rw [c1, show (1 : Int32) = nI 1 from rfl, nI_eq (by omega) (by decide)]
      refine ⟨fun q2 => ?_, fun q2 => ?_⟩
      · rw [if_neg q2] at er
        exact go _ _ (-1) g2 (fun g' y5 y6 e5 e6 C' => ⟨⟨k + 1, rfl, rfl, e5, e6, hk2, C'⟩, mu y6 e6⟩) C2 er
      · rw [if_pos q2] at er
        exact go _ _ 1 g2 (fun g' y5 y6 e5 e6 C' => ⟨⟨k + 1, rfl, rfl, e5, e6, hk2, C'⟩, mu y6 e6⟩) C2 er

theorem metL_holds (l : Launch) (G : Gl) (P : Sk) (f : St) (sz : Nat) (b0 : Nat) (hb0 : IsComp P b0) (p1 : Int32) (K : Int32 → St → Prop) (h : kL_holds P f b0 p1 K) : Met l yL_holds (wU yL_holds cL_holds 7 (some .boolean)) rmL_holds (PcW G P f sz [.ref b0, .int p1]) (QcI G P sz K) 0 0 (frA P sz) := by
  obtain ⟨I12, I288, μ12, μ288, qh, qh12, qh288⟩ := wL_holds P f b0 hb0 p1 K h
  exact mL_holds l G P f sz b0 hb0 p1 K I12 μ12 I288 μ288 qh qh12 qh288

