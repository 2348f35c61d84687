def jL_isTwice_294 (P : Sk) (b0 : Nat) (p1 : Int32) (p2 : Int32) (L25 : St → Int64 → Int32 → Int32 → Prop) (L90 : St → Int64 → Int32 → Int64 → Int32 → Prop) (L203 : St → Int64 → Int32 → Int64 → Int32 → Int32 → Int64 → Int32 → Prop) (K : Int32 → St → Prop) (x3 : Int64) (x5 : Int32) (x6 : Int64) (x8 : Int32) (x9 : Int32) (f : St) : Prop :=
  kX7_undo P f b0 (fun r295 g295 => (x9 = 0 → K 0 g295) ∧ (¬ x9 = 0 → kL_told P g295 b0 (fun r305 g305 => (¬ lg_cmp r305 x3 = 0 → K 0 g305) ∧ (lg_cmp r305 x3 = 0 → K 1 g305)))) XF
def jL_isTwice_292 (P : Sk) (b0 : Nat) (p1 : Int32) (p2 : Int32) (L25 : St → Int64 → Int32 → Int32 → Prop) (L90 : St → Int64 → Int32 → Int64 → Int32 → Prop) (L203 : St → Int64 → Int32 → Int64 → Int32 → Int32 → Int64 → Int32 → Prop) (K : Int32 → St → Prop) (x3 : Int64) (x5 : Int32) (x6 : Int64) (x8 : Int32) (x9 : Int32) (y0 : Int32) (f : St) : Prop :=
  jL_isTwice_294 P b0 p1 p2 L25 L90 L203 K x3 x5 x6 x8 y0 f
def jL_isTwice_291 (P : Sk) (b0 : Nat) (p1 : Int32) (p2 : Int32) (L25 : St → Int64 → Int32 → Int32 → Prop) (L90 : St → Int64 → Int32 → Int64 → Int32 → Prop) (L203 : St → Int64 → Int32 → Int64 → Int32 → Int32 → Int64 → Int32 → Prop) (K : Int32 → St → Prop) (x3 : Int64) (x5 : Int32) (x6 : Int64) (x8 : Int32) (x9 : Int32) (f : St) : Prop :=
  jL_isTwice_292 P b0 p1 p2 L25 L90 L203 K x3 x5 x6 x8 x9 0 f
def jL_isTwice_268 (P : Sk) (b0 : Nat) (p1 : Int32) (p2 : Int32) (L25 : St → Int64 → Int32 → Int32 → Prop) (L90 : St → Int64 → Int32 → Int64 → Int32 → Prop) (L203 : St → Int64 → Int32 → Int64 → Int32 → Int32 → Int64 → Int32 → Prop) (K : Int32 → St → Prop) (x3 : Int64) (x5 : Int32) (x6 : Int64) (x8 : Int32) (x9 : Int32) (x10 : Int64) (x12 : Int32) (y0 : Int32) (f : St) : Prop :=
  jL_isTwice_294 P b0 p1 p2 L25 L90 L203 K x3 x5 x6 x8 y0 f
def jL_isTwice_267 (P : Sk) (b0 : Nat) (p1 : Int32) (p2 : Int32) (L25 : St → Int64 → Int32 → Int32 → Prop) (L90 : St → Int64 → Int32 → Int64 → Int32 → Prop) (L203 : St → Int64 → Int32 → Int64 → Int32 → Int32 → Int64 → Int32 → Prop) (K : Int32 → St → Prop) (x3 : Int64) (x5 : Int32) (x6 : Int64) (x8 : Int32) (x9 : Int32) (x10 : Int64) (x12 : Int32) (f : St) : Prop :=
  jL_isTwice_268 P b0 p1 p2 L25 L90 L203 K x3 x5 x6 x8 x9 x10 x12 0 f
def jL_isTwice_189 (P : Sk) (b0 : Nat) (p1 : Int32) (p2 : Int32) (L25 : St → Int64 → Int32 → Int32 → Prop) (L90 : St → Int64 → Int32 → Int64 → Int32 → Prop) (L203 : St → Int64 → Int32 → Int64 → Int32 → Int32 → Int64 → Int32 → Prop) (K : Int32 → St → Prop) (x3 : Int64) (x5 : Int32) (x6 : Int64) (x8 : Int32) (y0 : Int32) (f : St) : Prop :=
  (¬ x8 = 2 → (y0 = 0 → jL_isTwice_291 P b0 p1 p2 L25 L90 L203 K x3 x5 x6 x8 y0 f) ∧ (¬ y0 = 0 → kX7_stopped P f b0 1 (fun r280 g280 => (¬ r280 = 2 → jL_isTwice_291 P b0 p1 p2 L25 L90 L203 K x3 x5 x6 x8 y0 g280) ∧ (r280 = 2 → jL_isTwice_292 P b0 p1 p2 L25 L90 L203 K x3 x5 x6 x8 y0 1 g280)) XF)) ∧ (x8 = 2 → L203 f x3 x5 x6 x8 y0 0 0)
def jL_isTwice_188 (P : Sk) (b0 : Nat) (p1 : Int32) (p2 : Int32) (L25 : St → Int64 → Int32 → Int32 → Prop) (L90 : St → Int64 → Int32 → Int64 → Int32 → Prop) (L203 : St → Int64 → Int32 → Int64 → Int32 → Int32 → Int64 → Int32 → Prop) (K : Int32 → St → Prop) (x3 : Int64) (x5 : Int32) (x6 : Int64) (x8 : Int32) (f : St) : Prop :=
  jL_isTwice_189 P b0 p1 p2 L25 L90 L203 K x3 x5 x6 x8 0 f
def jL_isTwice_181 (P : Sk) (b0 : Nat) (p1 : Int32) (p2 : Int32) (L25 : St → Int64 → Int32 → Int32 → Prop) (L90 : St → Int64 → Int32 → Int64 → Int32 → Prop) (L203 : St → Int64 → Int32 → Int64 → Int32 → Int32 → Int64 → Int32 → Prop) (K : Int32 → St → Prop) (x3 : Int64) (x5 : Int32) (x6 : Int64) (x8 : Int32) (y0 : Int32) (y1 : Int32) (f : St) : Prop :=
  (¬ y0 = y1 → jL_isTwice_188 P b0 p1 p2 L25 L90 L203 K x3 x5 x6 x8 f) ∧ (y0 = y1 → jL_isTwice_189 P b0 p1 p2 L25 L90 L203 K x3 x5 x6 x8 1 f)
def jL_isTwice_167 (P : Sk) (b0 : Nat) (p1 : Int32) (p2 : Int32) (L25 : St → Int64 → Int32 → Int32 → Prop) (L90 : St → Int64 → Int32 → Int64 → Int32 → Prop) (L203 : St → Int64 → Int32 → Int64 → Int32 → Int32 → Int64 → Int32 → Prop) (K : Int32 → St → Prop) (x3 : Int64) (x5 : Int32) (x6 : Int64) (x8 : Int32) (y0 : Int32) (f : St) : Prop :=
  kX7_stopped P f b0 0 (fun r169 g169 => (¬ r169 = (-1) → jL_isTwice_181 P b0 p1 p2 L25 L90 L203 K x3 x5 x6 x8 y0 0 g169) ∧ (r169 = (-1) → jL_isTwice_181 P b0 p1 p2 L25 L90 L203 K x3 x5 x6 x8 y0 1 g169)) XF
def jL_isTwice_65 (P : Sk) (b0 : Nat) (p1 : Int32) (p2 : Int32) (L25 : St → Int64 → Int32 → Int32 → Prop) (L90 : St → Int64 → Int32 → Int64 → Int32 → Prop) (L203 : St → Int64 → Int32 → Int64 → Int32 → Int32 → Int64 → Int32 → Prop) (K : Int32 → St → Prop) (x3 : Int64) (x5 : Int32) (x6 : Int32) (y1 : Int32) (f : St) : Prop :=
  kX7_append P f b0 y1 (fun r65 g65 => kX7_append P g65 b0 (48 + p1) (fun r74 g74 => ∀ x6_78 : Int32, x6_78 = x6 + 1 → L25 g74 x3 x5 x6_78) XF) XF
def jL_isTwice_43 (P : Sk) (b0 : Nat) (p1 : Int32) (p2 : Int32) (L25 : St → Int64 → Int32 → Int32 → Prop) (L90 : St → Int64 → Int32 → Int64 → Int32 → Prop) (L203 : St → Int64 → Int32 → Int64 → Int32 → Int32 → Int64 → Int32 → Prop) (K : Int32 → St → Prop) (x3 : Int64) (x5 : Int32) (x6 : Int32) (f : St) : Prop :=
  (¬ p2 = 0 → (¬ p2 = 1 → jL_isTwice_65 P b0 p1 p2 L25 L90 L203 K x3 x5 x6 114 f) ∧ (p2 = 1 → jL_isTwice_65 P b0 p1 p2 L25 L90 L203 K x3 x5 x6 116 f)) ∧ (p2 = 0 → jL_isTwice_65 P b0 p1 p2 L25 L90 L203 K x3 x5 x6 109 f)
def bL_isTwice_25 (P : Sk) (b0 : Nat) (p1 : Int32) (p2 : Int32) (L25 : St → Int64 → Int32 → Int32 → Prop) (L90 : St → Int64 → Int32 → Int64 → Int32 → Prop) (L203 : St → Int64 → Int32 → Int64 → Int32 → Int32 → Int64 → Int32 → Prop) (K : Int32 → St → Prop) (f : St) (x3 : Int64) (x5 : Int32) (x6 : Int32) : Prop :=
  (2 ≤ x6 → L90 f x3 x5 0 0) ∧ (¬ 2 ≤ x6 → (x6 ≤ 0 → jL_isTwice_43 P b0 p1 p2 L25 L90 L203 K x3 x5 x6 f) ∧ (¬ x6 ≤ 0 → kX7_append P f b0 59 (fun r39 g39 => jL_isTwice_43 P b0 p1 p2 L25 L90 L203 K x3 x5 x6 g39) XF))
def bL_isTwice_90 (P : Sk) (b0 : Nat) (p1 : Int32) (p2 : Int32) (L25 : St → Int64 → Int32 → Int32 → Prop) (L90 : St → Int64 → Int32 → Int64 → Int32 → Prop) (L203 : St → Int64 → Int32 → Int64 → Int32 → Int32 → Int64 → Int32 → Prop) (K : Int32 → St → Prop) (f : St) (x3 : Int64) (x5 : Int32) (x6 : Int64) (x8 : Int32) : Prop :=
  kX7_loaf P f b0 p1 1 (fun r95 g95 => (r95 ≤ x8 → kX7_work P g95 b0 (fun r138 g138 => kX7_count P g138 b0 5 (fun r145 g145 => (¬ r145 = x5 + r138 → jL_isTwice_188 P b0 p1 p2 L25 L90 L203 K x3 x5 x6 r138 g145) ∧ (r145 = x5 + r138 → (¬ r138 = 2 → jL_isTwice_167 P b0 p1 p2 L25 L90 L203 K x3 x5 x6 r138 0 g145) ∧ (r138 = 2 → jL_isTwice_167 P b0 p1 p2 L25 L90 L203 K x3 x5 x6 r138 1 g145))) XF) XF) ∧ (¬ r95 ≤ x8 → kX7_crossing P g95 b0 p1 x8 0 (fun r113 g113 => kX7_crossing P g113 b0 p1 x8 1 (fun r124 g124 => ∀ x6_129 : Int64, x6_129 = ((31 * x6) + ((2 * r113 : Int32).toInt64)) + (r124.toInt64) → ∀ x8_131 : Int32, x8_131 = x8 + 1 → L90 g124 x3 x5 x6_129 x8_131) XF) XF)) XF
def bL_isTwice_203 (P : Sk) (b0 : Nat) (p1 : Int32) (p2 : Int32) (L25 : St → Int64 → Int32 → Int32 → Prop) (L90 : St → Int64 → Int32 → Int64 → Int32 → Prop) (L203 : St → Int64 → Int32 → Int64 → Int32 → Int32 → Int64 → Int32 → Prop) (K : Int32 → St → Prop) (f : St) (x3 : Int64) (x5 : Int32) (x6 : Int64) (x8 : Int32) (x9 : Int32) (x10 : Int64) (x12 : Int32) : Prop :=
  kX7_loaf P f b0 p1 1 (fun r208 g208 => (r208 ≤ x12 → (x9 = 0 → jL_isTwice_267 P b0 p1 p2 L25 L90 L203 K x3 x5 x6 x8 x9 x10 x12 g208) ∧ (¬ x9 = 0 → (¬ lg_cmp x10 x6 = 0 → jL_isTwice_267 P b0 p1 p2 L25 L90 L203 K x3 x5 x6 x8 x9 x10 x12 g208) ∧ (lg_cmp x10 x6 = 0 → jL_isTwice_268 P b0 p1 p2 L25 L90 L203 K x3 x5 x6 x8 x9 x10 x12 1 g208))) ∧ (¬ r208 ≤ x12 → kX7_crossing P g208 b0 p1 x12 0 (fun r226 g226 => kX7_crossing P g226 b0 p1 x12 1 (fun r237 g237 => ∀ x10_242 : Int64, x10_242 = ((31 * x10) + ((2 * r226 : Int32).toInt64)) + (r237.toInt64) → ∀ x12_244 : Int32, x12_244 = x12 + 1 → L203 g237 x3 x5 x6 x8 x9 x10_242 x12_244) XF) XF)) XF
def vL_isTwice (P : Sk) (f : St) (b0 : Nat) (p1 : Int32) (p2 : Int32) (L25 : St → Int64 → Int32 → Int32 → Prop) (L90 : St → Int64 → Int32 → Int64 → Int32 → Prop) (L203 : St → Int64 → Int32 → Int64 → Int32 → Int32 → Int64 → Int32 → Prop) (K : Int32 → St → Prop) : Prop :=
  kX7_keep P f b0 (fun r1 g1 => kL_told P g1 b0 (fun r6 g6 => kX7_count P g6 b0 5 (fun r12 g12 => kX7_clearBuffer P g12 b0 (fun r18 g18 => L25 g18 r6 r12 0)) XF))
set_option maxRecDepth 20000 in
set_option maxHeartbeats 4000000 in
theorem mL_isTwice (l : Launch) (G : Gl) (P : Sk) (f : St) (sz : Nat) (b0 : Nat) (hb0 : IsComp P b0) (p1 : Int32) (p2 : Int32) (K : Int32 → St → Prop) (I25 : St → Int64 → Int32 → Int32 → Prop) (μ25 : St → Int64 → Int32 → Int32 → Nat) (I90 : St → Int64 → Int32 → Int64 → Int32 → Prop) (μ90 : St → Int64 → Int32 → Int64 → Int32 → Nat) (I203 : St → Int64 → Int32 → Int64 → Int32 → Int32 → Int64 → Int32 → Prop) (μ203 : St → Int64 → Int32 → Int64 → Int32 → Int32 → Int64 → Int32 → Nat) 
  (h : vL_isTwice P f b0 p1 p2 I25 I90 I203 K)
  (h25 : ∀ (g : St) (x3 : Int64) (x5 : Int32) (x6 : Int32) , I25 g x3 x5 x6 → bL_isTwice_25 P b0 p1 p2 (fun g' z0 z1 z2 => I25 g' z0 z1 z2 ∧ μ25 g' z0 z1 z2 < μ25 g x3 x5 x6) (fun g' z0 z1 z2 z3 => I90 g' z0 z1 z2 z3 ∧ μ90 g' z0 z1 z2 z3 < μ25 g x3 x5 x6) (fun g' z0 z1 z2 z3 z4 z5 z6 => I203 g' z0 z1 z2 z3 z4 z5 z6 ∧ μ203 g' z0 z1 z2 z3 z4 z5 z6 < μ25 g x3 x5 x6) K g x3 x5 x6)
  (h90 : ∀ (g : St) (x3 : Int64) (x5 : Int32) (x6 : Int64) (x8 : Int32) , I90 g x3 x5 x6 x8 → bL_isTwice_90 P b0 p1 p2 (fun g' z0 z1 z2 => I25 g' z0 z1 z2 ∧ μ25 g' z0 z1 z2 < μ90 g x3 x5 x6 x8) (fun g' z0 z1 z2 z3 => I90 g' z0 z1 z2 z3 ∧ μ90 g' z0 z1 z2 z3 < μ90 g x3 x5 x6 x8) (fun g' z0 z1 z2 z3 z4 z5 z6 => I203 g' z0 z1 z2 z3 z4 z5 z6 ∧ μ203 g' z0 z1 z2 z3 z4 z5 z6 < μ90 g x3 x5 x6 x8) K g x3 x5 x6 x8)
  (h203 : ∀ (g : St) (x3 : Int64) (x5 : Int32) (x6 : Int64) (x8 : Int32) (x9 : Int32) (x10 : Int64) (x12 : Int32) , I203 g x3 x5 x6 x8 x9 x10 x12 → bL_isTwice_203 P b0 p1 p2 (fun g' z0 z1 z2 => I25 g' z0 z1 z2 ∧ μ25 g' z0 z1 z2 < μ203 g x3 x5 x6 x8 x9 x10 x12) (fun g' z0 z1 z2 z3 => I90 g' z0 z1 z2 z3 ∧ μ90 g' z0 z1 z2 z3 < μ203 g x3 x5 x6 x8 x9 x10 x12) (fun g' z0 z1 z2 z3 z4 z5 z6 => I203 g' z0 z1 z2 z3 z4 z5 z6 ∧ μ203 g' z0 z1 z2 z3 z4 z5 z6 < μ203 g x3 x5 x6 x8 x9 x10 x12) K g x3 x5 x6 x8 x9 x10 x12) :
  Met l yL_isTwice (wU yL_isTwice cL_isTwice 13 (some .boolean)) rmL_isTwice (PcW G P f sz [.ref b0, .int p1, .int p2]) (QcI G P sz K) 0 0 (frA P sz) := by
  refine v_met (own := RL) [.ref b0, .int p1, .int p2] (by decide +kernel) rfl (Nat.le_of_ble_eq_true rfl) (fun p e s m args below meth c hsz o hr hnm => ?_)
  refine v_lv (lv2 := [(0, .ref b0), (1, .int p1), (2, .int p2)]) rfl ?_
  have main : ∀ n : Nat, (∀ (g : St) (x3 : Int64) (x5 : Int32) (x6 : Int32) , I25 g x3 x5 x6 → μ25 g x3 x5 x6 < n → V p l e rmL_isTwice s m args below meth c 13 G (frA P sz) (MQ below (QcI G P sz K) args s 0 0 (frA P sz)) 0 0 P [(0, .ref b0), (1, .int p1), (2, .int p2), (3, .long x3), (5, .int x5), (6, .int x6)] [] 25 g) ∧ (∀ (g : St) (x3 : Int64) (x5 : Int32) (x6 : Int64) (x8 : Int32) , I90 g x3 x5 x6 x8 → μ90 g x3 x5 x6 x8 < n → V p l e rmL_isTwice s m args below meth c 13 G (frA P sz) (MQ below (QcI G P sz K) args s 0 0 (frA P sz)) 0 0 P [(0, .ref b0), (1, .int p1), (2, .int p2), (3, .long x3), (5, .int x5), (6, .long x6), (8, .int x8)] [] 90 g) ∧ (∀ (g : St) (x3 : Int64) (x5 : Int32) (x6 : Int64) (x8 : Int32) (x9 : Int32) (x10 : Int64) (x12 : Int32) , I203 g x3 x5 x6 x8 x9 x10 x12 → μ203 g x3 x5 x6 x8 x9 x10 x12 < n → V p l e rmL_isTwice s m args below meth c 13 G (frA P sz) (MQ below (QcI G P sz K) args s 0 0 (frA P sz)) 0 0 P [(0, .ref b0), (1, .int p1), (2, .int p2), (3, .long x3), (5, .int x5), (6, .long x6), (8, .int x8), (9, .int x9), (10, .long x10), (12, .int x12)] [] 203 g) := by
    intro n
    induction n with
    | zero => exact ⟨fun g x3 x5 x6 hI hm => absurd hm (Nat.not_lt_zero _), fun g x3 x5 x6 x8 hI hm => absurd hm (Nat.not_lt_zero _), fun g x3 x5 x6 x8 x9 x10 x12 hI hm => absurd hm (Nat.not_lt_zero _)⟩
    | succ n ih =>
      refine ⟨?_, ?_, ?_⟩
      · intro g x3 x5 x6 hI hm
        have h := h25 g x3 x5 x6 hI
        clear hI
        have J65 : ∀ (x3_65 : Int64) (x5_65 : Int32) (x6_65 : Int32) (y1_65 : Int32) (g65 : St), jL_isTwice_65 P b0 p1 p2 (fun g' z0 z1 z2 => I25 g' z0 z1 z2 ∧ μ25 g' z0 z1 z2 < μ25 g x3 x5 x6) (fun g' z0 z1 z2 z3 => I90 g' z0 z1 z2 z3 ∧ μ90 g' z0 z1 z2 z3 < μ25 g x3 x5 x6) (fun g' z0 z1 z2 z3 z4 z5 z6 => I203 g' z0 z1 z2 z3 z4 z5 z6 ∧ μ203 g' z0 z1 z2 z3 z4 z5 z6 < μ25 g x3 x5 x6) K x3_65 x5_65 x6_65 y1_65 g65 → V p l e rmL_isTwice s m args below meth c 13 G (frA P sz) (MQ below (QcI G P sz K) args s 0 0 (frA P sz)) 0 0 P [(0, .ref b0), (1, .int p1), (2, .int p2), (3, .long x3_65), (5, .int x5_65), (6, .int x6_65)] [.int y1_65, .ref b0] 65 g65 := by
          intro x3_65 x5_65 x6_65 y1_65 g65  h
          unfold jL_isTwice_65 at h
          refine v_cVi o [.int y1_65] [] (fun sz => metX7_append l G P g65 sz b0 hb0 y1_65 _ h) (cwL_48 o.1.2.2.2.2 (by decide)) ⟨_, _, rfl⟩ (by decide) (wfComp_o hb0) rfl (Nat.le_of_ble_eq_true rfl) ⟨Nat.le_of_ble_eq_true rfl, Nat.le_of_ble_eq_true rfl⟩ dL_isTwice_65 rfl (fun r65 g65 h => ?_)
          refine v_pop o dL_isTwice_68 rfl ?_
          refine v_aload_n o 0 dL_isTwice_69 rfl ?_
          refine v_bipush o (v := 48) dL_isTwice_70 (by decide) ?_
          refine v_iload_n o 1 dL_isTwice_72 rfl ?_
          refine v_iadd o dL_isTwice_73 ?_
          refine v_cVi o [.int (48 + p1)] [] (fun sz => metX7_append l G P g65 sz b0 hb0 (48 + p1) _ h) (cwL_48 o.1.2.2.2.2 (by decide)) ⟨_, _, rfl⟩ (by decide) (wfComp_o hb0) rfl (Nat.le_of_ble_eq_true rfl) ⟨Nat.le_of_ble_eq_true rfl, Nat.le_of_ble_eq_true rfl⟩ dL_isTwice_74 rfl (fun r74 g74 h => ?_)
          refine v_pop o dL_isTwice_77 rfl ?_
          obtain ⟨x6_78, ex6_78⟩ : ∃ y : Int32, y = x6_65 + 1 := ⟨_, rfl⟩
          replace h := h x6_78 ex6_78
          refine v_iinc o (v := x6_78) (lv' := [(6, .int x6_78), (0, .ref b0), (1, .int p1), (2, .int p2), (3, .long x3_65), (5, .int x5_65)]) 5 dL_isTwice_78 rfl (by rw [ex6_78]; rfl) (by decide) rfl ?_
          refine v_goto o (tgt := 25) dL_isTwice_81 (by decide) ?_
          refine v_sub [1, 2, 3, 4, 5, 0] (lv2 := [(0, .ref b0), (1, .int p1), (2, .int p2), (3, .long x3_65), (5, .int x5_65), (6, .int x6_78)]) rfl ?_
          exact ih.1 g74 x3_65 x5_65 x6_78  h.1 (by have := h.2; omega)
        have J43 : ∀ (x3_43 : Int64) (x5_43 : Int32) (x6_43 : Int32) (g43 : St), jL_isTwice_43 P b0 p1 p2 (fun g' z0 z1 z2 => I25 g' z0 z1 z2 ∧ μ25 g' z0 z1 z2 < μ25 g x3 x5 x6) (fun g' z0 z1 z2 z3 => I90 g' z0 z1 z2 z3 ∧ μ90 g' z0 z1 z2 z3 < μ25 g x3 x5 x6) (fun g' z0 z1 z2 z3 z4 z5 z6 => I203 g' z0 z1 z2 z3 z4 z5 z6 ∧ μ203 g' z0 z1 z2 z3 z4 z5 z6 < μ25 g x3 x5 x6) K x3_43 x5_43 x6_43 g43 → V p l e rmL_isTwice s m args below meth c 13 G (frA P sz) (MQ below (QcI G P sz K) args s 0 0 (frA P sz)) 0 0 P [(0, .ref b0), (1, .int p1), (2, .int p2), (3, .long x3_43), (5, .int x5_43), (6, .int x6_43)] [] 43 g43 := by
          intro x3_43 x5_43 x6_43 g43  h
          unfold jL_isTwice_43 at h
          refine v_aload_n o 0 dL_isTwice_43 rfl ?_
          refine v_iload_n o 2 dL_isTwice_44 rfl ?_
          refine v_if_ne o (tgt := 53) dL_isTwice_45 (by decide) (fun c45 => ?_) (fun c45 => ?_)
          · replace h := h.1 c45
            refine v_iload_n o 2 dL_isTwice_53 rfl ?_
            refine v_iconst o (v := 1) dL_isTwice_54 (by decide) ?_
            refine v_icmp_ne o (tgt := 63) dL_isTwice_55 (by decide) (fun c55 => ?_) (fun c55 => ?_)
            · replace h := h.1 c55
              refine v_bipush o (v := 114) dL_isTwice_63 (by decide) ?_
              refine v_sub [0, 1, 2, 3, 4, 5] (lv2 := [(0, .ref b0), (1, .int p1), (2, .int p2), (3, .long x3_43), (5, .int x5_43), (6, .int x6_43)]) rfl ?_
              exact J65 x3_43 x5_43 x6_43 114 g43  h
            · replace h := h.2 c55
              refine v_bipush o (v := 116) dL_isTwice_58 (by decide) ?_
              refine v_goto o (tgt := 65) dL_isTwice_60 (by decide) ?_
              refine v_sub [0, 1, 2, 3, 4, 5] (lv2 := [(0, .ref b0), (1, .int p1), (2, .int p2), (3, .long x3_43), (5, .int x5_43), (6, .int x6_43)]) rfl ?_
              exact J65 x3_43 x5_43 x6_43 116 g43  h
          · replace h := h.2 c45
            refine v_bipush o (v := 109) dL_isTwice_48 (by decide) ?_
            refine v_goto o (tgt := 65) dL_isTwice_50 (by decide) ?_
            refine v_sub [0, 1, 2, 3, 4, 5] (lv2 := [(0, .ref b0), (1, .int p1), (2, .int p2), (3, .long x3_43), (5, .int x5_43), (6, .int x6_43)]) rfl ?_
            exact J65 x3_43 x5_43 x6_43 109 g43  h
        unfold bL_isTwice_25 at h
        refine v_iload o 5 dL_isTwice_25 rfl ?_
        refine v_iconst o (v := 2) dL_isTwice_27 (by decide) ?_
        refine v_icmp_ge o (tgt := 84) dL_isTwice_28 (by decide) (fun c28 => ?_) (fun c28 => ?_)
        · replace h := h.1 c28
          refine v_lconst o (v := 0) dL_isTwice_84 (by decide) ?_
          refine v_lstore o (lv' := [(6, .long 0), (0, .ref b0), (1, .int p1), (2, .int p2), (3, .long x3), (5, .int x5)]) dL_isTwice_85 (by decide) rfl ?_
          refine v_iconst o (v := 0) dL_isTwice_87 (by decide) ?_
          refine v_istore o (lv' := [(8, .int 0), (6, .long 0), (0, .ref b0), (1, .int p1), (2, .int p2), (3, .long x3), (5, .int x5)]) dL_isTwice_88 (by decide) rfl ?_
          refine v_sub [2, 3, 4, 5, 6, 1, 0] (lv2 := [(0, .ref b0), (1, .int p1), (2, .int p2), (3, .long x3), (5, .int x5), (6, .long 0), (8, .int 0)]) rfl ?_
          exact ih.2.1 g x3 x5 0 0  h.1 (by have := h.2; omega)
        · replace h := h.2 c28
          refine v_iload o 5 dL_isTwice_31 rfl ?_
          refine v_if_le o (tgt := 43) dL_isTwice_33 (by decide) (fun c33 => ?_) (fun c33 => ?_)
          · replace h := h.1 c33
            refine v_sub [0, 1, 2, 3, 4, 5] (lv2 := [(0, .ref b0), (1, .int p1), (2, .int p2), (3, .long x3), (5, .int x5), (6, .int x6)]) rfl ?_
            exact J43 x3 x5 x6 g  h
          · replace h := h.2 c33
            refine v_aload_n o 0 dL_isTwice_36 rfl ?_
            refine v_bipush o (v := 59) dL_isTwice_37 (by decide) ?_
            refine v_cVi o [.int 59] [] (fun sz => metX7_append l G P g sz b0 hb0 59 _ h) (cwL_48 o.1.2.2.2.2 (by decide)) ⟨_, _, rfl⟩ (by decide) (wfComp_o hb0) rfl (Nat.le_of_ble_eq_true rfl) ⟨Nat.le_of_ble_eq_true rfl, Nat.le_of_ble_eq_true rfl⟩ dL_isTwice_39 rfl (fun r39 g39 h => ?_)
            refine v_pop o dL_isTwice_42 rfl ?_
            refine v_sub [0, 1, 2, 3, 4, 5] (lv2 := [(0, .ref b0), (1, .int p1), (2, .int p2), (3, .long x3), (5, .int x5), (6, .int x6)]) rfl ?_
            exact J43 x3 x5 x6 g39  h
      · intro g x3 x5 x6 x8 hI hm
        have h := h90 g x3 x5 x6 x8 hI
        clear hI
        have J294 : ∀ (x3_294 : Int64) (x5_294 : Int32) (x6_294 : Int64) (x8_294 : Int32) (x9_294 : Int32) (g294 : St), jL_isTwice_294 P b0 p1 p2 (fun g' z0 z1 z2 => I25 g' z0 z1 z2 ∧ μ25 g' z0 z1 z2 < μ90 g x3 x5 x6 x8) (fun g' z0 z1 z2 z3 => I90 g' z0 z1 z2 z3 ∧ μ90 g' z0 z1 z2 z3 < μ90 g x3 x5 x6 x8) (fun g' z0 z1 z2 z3 z4 z5 z6 => I203 g' z0 z1 z2 z3 z4 z5 z6 ∧ μ203 g' z0 z1 z2 z3 z4 z5 z6 < μ90 g x3 x5 x6 x8) K x3_294 x5_294 x6_294 x8_294 x9_294 g294 → V p l e rmL_isTwice s m args below meth c 13 G (frA P sz) (MQ below (QcI G P sz K) args s 0 0 (frA P sz)) 0 0 P [(0, .ref b0), (1, .int p1), (2, .int p2), (3, .long x3_294), (5, .int x5_294), (6, .long x6_294), (8, .int x8_294), (9, .int x9_294)] [] 294 g294 := by
          intro x3_294 x5_294 x6_294 x8_294 x9_294 g294  h
          unfold jL_isTwice_294 at h
          refine v_aload_n o 0 dL_isTwice_294 rfl ?_
          refine v_cVi o [] [] (fun sz => metX7_undo l G P g294 sz b0 hb0 _ h) (cwL_73 o.1.2.2.2.2 (by decide)) ⟨_, _, rfl⟩ (by decide) (wfComp_o hb0) rfl (Nat.le_of_ble_eq_true rfl) ⟨Nat.le_of_ble_eq_true rfl, Nat.le_of_ble_eq_true rfl⟩ dL_isTwice_295 rfl (fun r295 g295 h => ?_)
          refine v_pop o dL_isTwice_298 rfl ?_
          refine v_iload o 7 dL_isTwice_299 rfl ?_
          refine v_if_eq o (tgt := 317) dL_isTwice_301 (by decide) (fun c301 => ?_) (fun c301 => ?_)
          · replace h := h.1 c301
            refine v_iconst o (v := 0) dL_isTwice_317 (by decide) ?_
            exact v_zret o rfl hr bz0.1 dL_isTwice_318 h
          · replace h := h.2 c301
            refine v_aload_n o 0 dL_isTwice_304 rfl ?_
            refine v_cSl o [.ref b0] [] (fun sz => metL_told l G P g295 sz b0 hb0 _ h) (cwL_69 o.1.2.2.2.2 (by decide)) rfl (Nat.le_of_ble_eq_true rfl) ⟨Nat.le_of_ble_eq_true rfl, Nat.le_of_ble_eq_true rfl⟩ dL_isTwice_305 rfl (fun r305 g305 h => ?_)
            refine v_lload_n o 3 dL_isTwice_308 rfl ?_
            refine v_lcmp o dL_isTwice_309 ?_
            refine v_if_ne o (tgt := 317) dL_isTwice_310 (by decide) (fun c310 => ?_) (fun c310 => ?_)
            · replace h := h.1 c310
              refine v_iconst o (v := 0) dL_isTwice_317 (by decide) ?_
              exact v_zret o rfl hr bz0.1 dL_isTwice_318 h
            · replace h := h.2 c310
              refine v_iconst o (v := 1) dL_isTwice_313 (by decide) ?_
              refine v_goto o (tgt := 318) dL_isTwice_314 (by decide) ?_
              exact v_zret o rfl hr bz1.1 dL_isTwice_318 h
        have J292 : ∀ (x3_292 : Int64) (x5_292 : Int32) (x6_292 : Int64) (x8_292 : Int32) (x9_292 : Int32) (y0_292 : Int32) (g292 : St), jL_isTwice_292 P b0 p1 p2 (fun g' z0 z1 z2 => I25 g' z0 z1 z2 ∧ μ25 g' z0 z1 z2 < μ90 g x3 x5 x6 x8) (fun g' z0 z1 z2 z3 => I90 g' z0 z1 z2 z3 ∧ μ90 g' z0 z1 z2 z3 < μ90 g x3 x5 x6 x8) (fun g' z0 z1 z2 z3 z4 z5 z6 => I203 g' z0 z1 z2 z3 z4 z5 z6 ∧ μ203 g' z0 z1 z2 z3 z4 z5 z6 < μ90 g x3 x5 x6 x8) K x3_292 x5_292 x6_292 x8_292 x9_292 y0_292 g292 → V p l e rmL_isTwice s m args below meth c 13 G (frA P sz) (MQ below (QcI G P sz K) args s 0 0 (frA P sz)) 0 0 P [(0, .ref b0), (1, .int p1), (2, .int p2), (3, .long x3_292), (5, .int x5_292), (6, .long x6_292), (8, .int x8_292), (9, .int x9_292)] [.int y0_292] 292 g292 := by
          intro x3_292 x5_292 x6_292 x8_292 x9_292 y0_292 g292  h
          unfold jL_isTwice_292 at h
          refine v_istore o (lv' := [(9, .int y0_292), (0, .ref b0), (1, .int p1), (2, .int p2), (3, .long x3_292), (5, .int x5_292), (6, .long x6_292), (8, .int x8_292)]) dL_isTwice_292 (by decide) rfl ?_
          refine v_sub [1, 2, 3, 4, 5, 6, 7, 0] (lv2 := [(0, .ref b0), (1, .int p1), (2, .int p2), (3, .long x3_292), (5, .int x5_292), (6, .long x6_292), (8, .int x8_292), (9, .int y0_292)]) rfl ?_
          exact J294 x3_292 x5_292 x6_292 x8_292 y0_292 g292  h
        have J291 : ∀ (x3_291 : Int64) (x5_291 : Int32) (x6_291 : Int64) (x8_291 : Int32) (x9_291 : Int32) (g291 : St), jL_isTwice_291 P b0 p1 p2 (fun g' z0 z1 z2 => I25 g' z0 z1 z2 ∧ μ25 g' z0 z1 z2 < μ90 g x3 x5 x6 x8) (fun g' z0 z1 z2 z3 => I90 g' z0 z1 z2 z3 ∧ μ90 g' z0 z1 z2 z3 < μ90 g x3 x5 x6 x8) (fun g' z0 z1 z2 z3 z4 z5 z6 => I203 g' z0 z1 z2 z3 z4 z5 z6 ∧ μ203 g' z0 z1 z2 z3 z4 z5 z6 < μ90 g x3 x5 x6 x8) K x3_291 x5_291 x6_291 x8_291 x9_291 g291 → V p l e rmL_isTwice s m args below meth c 13 G (frA P sz) (MQ below (QcI G P sz K) args s 0 0 (frA P sz)) 0 0 P [(0, .ref b0), (1, .int p1), (2, .int p2), (3, .long x3_291), (5, .int x5_291), (6, .long x6_291), (8, .int x8_291), (9, .int x9_291)] [] 291 g291 := by
          intro x3_291 x5_291 x6_291 x8_291 x9_291 g291  h
          unfold jL_isTwice_291 at h
          refine v_iconst o (v := 0) dL_isTwice_291 (by decide) ?_
          refine v_sub [0, 1, 2, 3, 4, 5, 6, 7] (lv2 := [(0, .ref b0), (1, .int p1), (2, .int p2), (3, .long x3_291), (5, .int x5_291), (6, .long x6_291), (8, .int x8_291), (9, .int x9_291)]) rfl ?_
          exact J292 x3_291 x5_291 x6_291 x8_291 x9_291 0 g291  h
        have J189 : ∀ (x3_189 : Int64) (x5_189 : Int32) (x6_189 : Int64) (x8_189 : Int32) (y0_189 : Int32) (g189 : St), jL_isTwice_189 P b0 p1 p2 (fun g' z0 z1 z2 => I25 g' z0 z1 z2 ∧ μ25 g' z0 z1 z2 < μ90 g x3 x5 x6 x8) (fun g' z0 z1 z2 z3 => I90 g' z0 z1 z2 z3 ∧ μ90 g' z0 z1 z2 z3 < μ90 g x3 x5 x6 x8) (fun g' z0 z1 z2 z3 z4 z5 z6 => I203 g' z0 z1 z2 z3 z4 z5 z6 ∧ μ203 g' z0 z1 z2 z3 z4 z5 z6 < μ90 g x3 x5 x6 x8) K x3_189 x5_189 x6_189 x8_189 y0_189 g189 → V p l e rmL_isTwice s m args below meth c 13 G (frA P sz) (MQ below (QcI G P sz K) args s 0 0 (frA P sz)) 0 0 P [(0, .ref b0), (1, .int p1), (2, .int p2), (3, .long x3_189), (5, .int x5_189), (6, .long x6_189), (8, .int x8_189)] [.int y0_189] 189 g189 := by
          intro x3_189 x5_189 x6_189 x8_189 y0_189 g189  h
          unfold jL_isTwice_189 at h
          refine v_istore o (lv' := [(9, .int y0_189), (0, .ref b0), (1, .int p1), (2, .int p2), (3, .long x3_189), (5, .int x5_189), (6, .long x6_189), (8, .int x8_189)]) dL_isTwice_189 (by decide) rfl ?_
          refine v_iload o 7 dL_isTwice_191 rfl ?_
          refine v_iconst o (v := 2) dL_isTwice_193 (by decide) ?_
          refine v_icmp_ne o (tgt := 273) dL_isTwice_194 (by decide) (fun c194 => ?_) (fun c194 => ?_)
          · replace h := h.1 c194
            refine v_iload o 0 dL_isTwice_273 rfl ?_
            refine v_if_eq o (tgt := 291) dL_isTwice_275 (by decide) (fun c275 => ?_) (fun c275 => ?_)
            · replace h := h.1 c275
              refine v_sub [1, 2, 3, 4, 5, 6, 7, 0] (lv2 := [(0, .ref b0), (1, .int p1), (2, .int p2), (3, .long x3_189), (5, .int x5_189), (6, .long x6_189), (8, .int x8_189), (9, .int y0_189)]) rfl ?_
              exact J291 x3_189 x5_189 x6_189 x8_189 y0_189 g189  h
            · replace h := h.2 c275
              refine v_aload_n o 1 dL_isTwice_278 rfl ?_
              refine v_iconst o (v := 1) dL_isTwice_279 (by decide) ?_
              refine v_cVi o [.int 1] [] (fun sz => metX7_stopped l G P g189 sz b0 hb0 1 _ h) (cwL_18 o.1.2.2.2.2 (by decide)) ⟨_, _, rfl⟩ (by decide) (wfComp_o hb0) rfl (Nat.le_of_ble_eq_true rfl) ⟨Nat.le_of_ble_eq_true rfl, Nat.le_of_ble_eq_true rfl⟩ dL_isTwice_280 rfl (fun r280 g280 h => ?_)
              refine v_iconst o (v := 2) dL_isTwice_283 (by decide) ?_
              refine v_icmp_ne o (tgt := 291) dL_isTwice_284 (by decide) (fun c284 => ?_) (fun c284 => ?_)
              · replace h := h.1 c284
                refine v_sub [1, 2, 3, 4, 5, 6, 7, 0] (lv2 := [(0, .ref b0), (1, .int p1), (2, .int p2), (3, .long x3_189), (5, .int x5_189), (6, .long x6_189), (8, .int x8_189), (9, .int y0_189)]) rfl ?_
                exact J291 x3_189 x5_189 x6_189 x8_189 y0_189 g280  h
              · replace h := h.2 c284
                refine v_iconst o (v := 1) dL_isTwice_287 (by decide) ?_
                refine v_goto o (tgt := 292) dL_isTwice_288 (by decide) ?_
                refine v_sub [1, 2, 3, 4, 5, 6, 7, 0] (lv2 := [(0, .ref b0), (1, .int p1), (2, .int p2), (3, .long x3_189), (5, .int x5_189), (6, .long x6_189), (8, .int x8_189), (9, .int y0_189)]) rfl ?_
                exact J292 x3_189 x5_189 x6_189 x8_189 y0_189 1 g280  h
          · replace h := h.2 c194
            refine v_lconst o (v := 0) dL_isTwice_197 (by decide) ?_
            refine v_lstore o (lv' := [(10, .long 0), (9, .int y0_189), (0, .ref b0), (1, .int p1), (2, .int p2), (3, .long x3_189), (5, .int x5_189), (6, .long x6_189), (8, .int x8_189)]) dL_isTwice_198 (by decide) rfl ?_
            refine v_iconst o (v := 0) dL_isTwice_200 (by decide) ?_
            refine v_istore o (lv' := [(12, .int 0), (10, .long 0), (9, .int y0_189), (0, .ref b0), (1, .int p1), (2, .int p2), (3, .long x3_189), (5, .int x5_189), (6, .long x6_189), (8, .int x8_189)]) dL_isTwice_201 (by decide) rfl ?_
            refine v_sub [3, 4, 5, 6, 7, 8, 9, 2, 1, 0] (lv2 := [(0, .ref b0), (1, .int p1), (2, .int p2), (3, .long x3_189), (5, .int x5_189), (6, .long x6_189), (8, .int x8_189), (9, .int y0_189), (10, .long 0), (12, .int 0)]) rfl ?_
            exact ih.2.2 g189 x3_189 x5_189 x6_189 x8_189 y0_189 0 0  h.1 (by have := h.2; omega)
        have J188 : ∀ (x3_188 : Int64) (x5_188 : Int32) (x6_188 : Int64) (x8_188 : Int32) (g188 : St), jL_isTwice_188 P b0 p1 p2 (fun g' z0 z1 z2 => I25 g' z0 z1 z2 ∧ μ25 g' z0 z1 z2 < μ90 g x3 x5 x6 x8) (fun g' z0 z1 z2 z3 => I90 g' z0 z1 z2 z3 ∧ μ90 g' z0 z1 z2 z3 < μ90 g x3 x5 x6 x8) (fun g' z0 z1 z2 z3 z4 z5 z6 => I203 g' z0 z1 z2 z3 z4 z5 z6 ∧ μ203 g' z0 z1 z2 z3 z4 z5 z6 < μ90 g x3 x5 x6 x8) K x3_188 x5_188 x6_188 x8_188 g188 → V p l e rmL_isTwice s m args below meth c 13 G (frA P sz) (MQ below (QcI G P sz K) args s 0 0 (frA P sz)) 0 0 P [(0, .ref b0), (1, .int p1), (2, .int p2), (3, .long x3_188), (5, .int x5_188), (6, .long x6_188), (8, .int x8_188)] [] 188 g188 := by
          intro x3_188 x5_188 x6_188 x8_188 g188  h
          unfold jL_isTwice_188 at h
          refine v_iconst o (v := 0) dL_isTwice_188 (by decide) ?_
          refine v_sub [0, 1, 2, 3, 4, 5, 6] (lv2 := [(0, .ref b0), (1, .int p1), (2, .int p2), (3, .long x3_188), (5, .int x5_188), (6, .long x6_188), (8, .int x8_188)]) rfl ?_
          exact J189 x3_188 x5_188 x6_188 x8_188 0 g188  h
        have J181 : ∀ (x3_181 : Int64) (x5_181 : Int32) (x6_181 : Int64) (x8_181 : Int32) (y0_181 : Int32) (y1_181 : Int32) (g181 : St), jL_isTwice_181 P b0 p1 p2 (fun g' z0 z1 z2 => I25 g' z0 z1 z2 ∧ μ25 g' z0 z1 z2 < μ90 g x3 x5 x6 x8) (fun g' z0 z1 z2 z3 => I90 g' z0 z1 z2 z3 ∧ μ90 g' z0 z1 z2 z3 < μ90 g x3 x5 x6 x8) (fun g' z0 z1 z2 z3 z4 z5 z6 => I203 g' z0 z1 z2 z3 z4 z5 z6 ∧ μ203 g' z0 z1 z2 z3 z4 z5 z6 < μ90 g x3 x5 x6 x8) K x3_181 x5_181 x6_181 x8_181 y0_181 y1_181 g181 → V p l e rmL_isTwice s m args below meth c 13 G (frA P sz) (MQ below (QcI G P sz K) args s 0 0 (frA P sz)) 0 0 P [(0, .ref b0), (1, .int p1), (2, .int p2), (3, .long x3_181), (5, .int x5_181), (6, .long x6_181), (8, .int x8_181)] [.int y1_181, .int y0_181] 181 g181 := by
          intro x3_181 x5_181 x6_181 x8_181 y0_181 y1_181 g181  h
          unfold jL_isTwice_181 at h
          refine v_icmp_ne o (tgt := 188) dL_isTwice_181 (by decide) (fun c181 => ?_) (fun c181 => ?_)
          · replace h := h.1 c181
            refine v_sub [0, 1, 2, 3, 4, 5, 6] (lv2 := [(0, .ref b0), (1, .int p1), (2, .int p2), (3, .long x3_181), (5, .int x5_181), (6, .long x6_181), (8, .int x8_181)]) rfl ?_
            exact J188 x3_181 x5_181 x6_181 x8_181 g181  h
          · replace h := h.2 c181
            refine v_iconst o (v := 1) dL_isTwice_184 (by decide) ?_
            refine v_goto o (tgt := 189) dL_isTwice_185 (by decide) ?_
            refine v_sub [0, 1, 2, 3, 4, 5, 6] (lv2 := [(0, .ref b0), (1, .int p1), (2, .int p2), (3, .long x3_181), (5, .int x5_181), (6, .long x6_181), (8, .int x8_181)]) rfl ?_
            exact J189 x3_181 x5_181 x6_181 x8_181 1 g181  h
        have J167 : ∀ (x3_167 : Int64) (x5_167 : Int32) (x6_167 : Int64) (x8_167 : Int32) (y0_167 : Int32) (g167 : St), jL_isTwice_167 P b0 p1 p2 (fun g' z0 z1 z2 => I25 g' z0 z1 z2 ∧ μ25 g' z0 z1 z2 < μ90 g x3 x5 x6 x8) (fun g' z0 z1 z2 z3 => I90 g' z0 z1 z2 z3 ∧ μ90 g' z0 z1 z2 z3 < μ90 g x3 x5 x6 x8) (fun g' z0 z1 z2 z3 z4 z5 z6 => I203 g' z0 z1 z2 z3 z4 z5 z6 ∧ μ203 g' z0 z1 z2 z3 z4 z5 z6 < μ90 g x3 x5 x6 x8) K x3_167 x5_167 x6_167 x8_167 y0_167 g167 → V p l e rmL_isTwice s m args below meth c 13 G (frA P sz) (MQ below (QcI G P sz K) args s 0 0 (frA P sz)) 0 0 P [(0, .ref b0), (1, .int p1), (2, .int p2), (3, .long x3_167), (5, .int x5_167), (6, .long x6_167), (8, .int x8_167)] [.int y0_167] 167 g167 := by
          intro x3_167 x5_167 x6_167 x8_167 y0_167 g167  h
          unfold jL_isTwice_167 at h
          refine v_aload_n o 0 dL_isTwice_167 rfl ?_
          refine v_iconst o (v := 0) dL_isTwice_168 (by decide) ?_
          refine v_cVi o [.int 0] [.int y0_167] (fun sz => metX7_stopped l G P g167 sz b0 hb0 0 _ h) (cwL_18 o.1.2.2.2.2 (by decide)) ⟨_, _, rfl⟩ (by decide) (wfComp_o hb0) rfl (Nat.le_of_ble_eq_true rfl) ⟨Nat.le_of_ble_eq_true rfl, Nat.le_of_ble_eq_true rfl⟩ dL_isTwice_169 rfl (fun r169 g169 h => ?_)
          refine v_iconst o (v := (-1)) dL_isTwice_172 (by decide) ?_
          refine v_icmp_ne o (tgt := 180) dL_isTwice_173 (by decide) (fun c173 => ?_) (fun c173 => ?_)
          · replace h := h.1 c173
            refine v_iconst o (v := 0) dL_isTwice_180 (by decide) ?_
            refine v_sub [0, 1, 2, 3, 4, 5, 6] (lv2 := [(0, .ref b0), (1, .int p1), (2, .int p2), (3, .long x3_167), (5, .int x5_167), (6, .long x6_167), (8, .int x8_167)]) rfl ?_
            exact J181 x3_167 x5_167 x6_167 x8_167 y0_167 0 g169  h
          · replace h := h.2 c173
            refine v_iconst o (v := 1) dL_isTwice_176 (by decide) ?_
            refine v_goto o (tgt := 181) dL_isTwice_177 (by decide) ?_
            refine v_sub [0, 1, 2, 3, 4, 5, 6] (lv2 := [(0, .ref b0), (1, .int p1), (2, .int p2), (3, .long x3_167), (5, .int x5_167), (6, .long x6_167), (8, .int x8_167)]) rfl ?_
            exact J181 x3_167 x5_167 x6_167 x8_167 y0_167 1 g169  h
        unfold bL_isTwice_90 at h
        refine v_iload o 6 dL_isTwice_90 rfl ?_
        refine v_aload_n o 0 dL_isTwice_92 rfl ?_
        refine v_iload_n o 1 dL_isTwice_93 rfl ?_
        refine v_iconst o (v := 1) dL_isTwice_94 (by decide) ?_
        refine v_cVi o [.int p1, .int 1] [.int x8] (fun sz => metX7_loaf l G P g sz b0 hb0 p1 1 _ h) (cwL_21 o.1.2.2.2.2 (by decide)) ⟨_, _, rfl⟩ (by decide) (wfComp_o hb0) rfl (Nat.le_of_ble_eq_true rfl) ⟨Nat.le_of_ble_eq_true rfl, Nat.le_of_ble_eq_true rfl⟩ dL_isTwice_95 rfl (fun r95 g95 h => ?_)
        refine v_icmp_ge o (tgt := 137) dL_isTwice_98 (by decide) (fun c98 => ?_) (fun c98 => ?_)
        · replace h := h.1 c98
          refine v_aload_n o 0 dL_isTwice_137 rfl ?_
          refine v_cVi o [] [] (fun sz => metX7_work l G P g95 sz b0 hb0 _ h) (cwL_51 o.1.2.2.2.2 (by decide)) ⟨_, _, rfl⟩ (by decide) (wfComp_o hb0) rfl (Nat.le_of_ble_eq_true rfl) ⟨Nat.le_of_ble_eq_true rfl, Nat.le_of_ble_eq_true rfl⟩ dL_isTwice_138 rfl (fun r138 g138 h => ?_)
          refine v_istore o (lv' := [(8, .int r138), (0, .ref b0), (1, .int p1), (2, .int p2), (3, .long x3), (5, .int x5), (6, .long x6)]) dL_isTwice_141 (by decide) rfl ?_
          refine v_aload_n o 1 dL_isTwice_143 rfl ?_
          refine v_iconst o (v := 5) dL_isTwice_144 (by decide) ?_
          refine v_cVi o [.int 5] [] (fun sz => metX7_count l G P g138 sz b0 hb0 5 _ h) (cwL_12 o.1.2.2.2.2 (by decide)) ⟨_, _, rfl⟩ (by decide) (wfComp_o hb0) rfl (Nat.le_of_ble_eq_true rfl) ⟨Nat.le_of_ble_eq_true rfl, Nat.le_of_ble_eq_true rfl⟩ dL_isTwice_145 rfl (fun r145 g145 h => ?_)
          refine v_iload o 5 dL_isTwice_148 rfl ?_
          refine v_iload o 0 dL_isTwice_150 rfl ?_
          refine v_iadd o dL_isTwice_152 ?_
          refine v_icmp_ne o (tgt := 188) dL_isTwice_153 (by decide) (fun c153 => ?_) (fun c153 => ?_)
          · replace h := h.1 c153
            refine v_sub [1, 2, 3, 4, 5, 6, 0] (lv2 := [(0, .ref b0), (1, .int p1), (2, .int p2), (3, .long x3), (5, .int x5), (6, .long x6), (8, .int r138)]) rfl ?_
            exact J188 x3 x5 x6 r138 g145  h
          · replace h := h.2 c153
            refine v_iload o 0 dL_isTwice_156 rfl ?_
            refine v_iconst o (v := 2) dL_isTwice_158 (by decide) ?_
            refine v_icmp_ne o (tgt := 166) dL_isTwice_159 (by decide) (fun c159 => ?_) (fun c159 => ?_)
            · replace h := h.1 c159
              refine v_iconst o (v := 0) dL_isTwice_166 (by decide) ?_
              refine v_sub [1, 2, 3, 4, 5, 6, 0] (lv2 := [(0, .ref b0), (1, .int p1), (2, .int p2), (3, .long x3), (5, .int x5), (6, .long x6), (8, .int r138)]) rfl ?_
              exact J167 x3 x5 x6 r138 0 g145  h
            · replace h := h.2 c159
              refine v_iconst o (v := 1) dL_isTwice_162 (by decide) ?_
              refine v_goto o (tgt := 167) dL_isTwice_163 (by decide) ?_
              refine v_sub [1, 2, 3, 4, 5, 6, 0] (lv2 := [(0, .ref b0), (1, .int p1), (2, .int p2), (3, .long x3), (5, .int x5), (6, .long x6), (8, .int r138)]) rfl ?_
              exact J167 x3 x5 x6 r138 1 g145  h
        · replace h := h.2 c98
          refine v_ldc2 o (v := 31) dL_isTwice_101 (mU 586 (by decide +kernel) rfl) ?_
          refine v_lload o 5 dL_isTwice_104 rfl ?_
          refine v_lmul o dL_isTwice_106 ?_
          refine v_iconst o (v := 2) dL_isTwice_107 (by decide) ?_
          refine v_aload_n o 0 dL_isTwice_108 rfl ?_
          refine v_iload_n o 1 dL_isTwice_109 rfl ?_
          refine v_iload o 6 dL_isTwice_110 rfl ?_
          refine v_iconst o (v := 0) dL_isTwice_112 (by decide) ?_
          refine v_cVi o [.int p1, .int x8, .int 0] [.int 2, .long (31 * x6)] (fun sz => metX7_crossing l G P g95 sz b0 hb0 p1 x8 0 _ h) (cwL_25 o.1.2.2.2.2 (by decide)) ⟨_, _, rfl⟩ (by decide) (wfComp_o hb0) rfl (Nat.le_of_ble_eq_true rfl) ⟨Nat.le_of_ble_eq_true rfl, Nat.le_of_ble_eq_true rfl⟩ dL_isTwice_113 rfl (fun r113 g113 h => ?_)
          refine v_imul o dL_isTwice_116 ?_
          refine v_i2l o dL_isTwice_117 ?_
          refine v_ladd o dL_isTwice_118 ?_
          refine v_aload_n o 0 dL_isTwice_119 rfl ?_
          refine v_iload_n o 1 dL_isTwice_120 rfl ?_
          refine v_iload o 6 dL_isTwice_121 rfl ?_
          refine v_iconst o (v := 1) dL_isTwice_123 (by decide) ?_
          refine v_cVi o [.int p1, .int x8, .int 1] [.long ((31 * x6) + ((2 * r113 : Int32).toInt64))] (fun sz => metX7_crossing l G P g113 sz b0 hb0 p1 x8 1 _ h) (cwL_25 o.1.2.2.2.2 (by decide)) ⟨_, _, rfl⟩ (by decide) (wfComp_o hb0) rfl (Nat.le_of_ble_eq_true rfl) ⟨Nat.le_of_ble_eq_true rfl, Nat.le_of_ble_eq_true rfl⟩ dL_isTwice_124 rfl (fun r124 g124 h => ?_)
          refine v_i2l o dL_isTwice_127 ?_
          refine v_ladd o dL_isTwice_128 ?_
          refine v_topl (fun x6_129 ex6_129 => ?_)
          replace h := h x6_129 ex6_129
          refine v_lstore o (lv' := [(6, .long x6_129), (0, .ref b0), (1, .int p1), (2, .int p2), (3, .long x3), (5, .int x5), (8, .int x8)]) dL_isTwice_129 (by decide) rfl ?_
          obtain ⟨x8_131, ex8_131⟩ : ∃ y : Int32, y = x8 + 1 := ⟨_, rfl⟩
          replace h := h x8_131 ex8_131
          refine v_iinc o (v := x8_131) (lv' := [(8, .int x8_131), (6, .long x6_129), (0, .ref b0), (1, .int p1), (2, .int p2), (3, .long x3), (5, .int x5)]) 6 dL_isTwice_131 rfl (by rw [ex8_131]; rfl) (by decide) rfl ?_
          refine v_goto o (tgt := 90) dL_isTwice_134 (by decide) ?_
          refine v_sub [2, 3, 4, 5, 6, 1, 0] (lv2 := [(0, .ref b0), (1, .int p1), (2, .int p2), (3, .long x3), (5, .int x5), (6, .long x6_129), (8, .int x8_131)]) rfl ?_
          exact ih.2.1 g124 x3 x5 x6_129 x8_131  h.1 (by have := h.2; omega)
      · intro g x3 x5 x6 x8 x9 x10 x12 hI hm
        have h := h203 g x3 x5 x6 x8 x9 x10 x12 hI
        clear hI
        have J294 : ∀ (x3_294 : Int64) (x5_294 : Int32) (x6_294 : Int64) (x8_294 : Int32) (x9_294 : Int32) (g294 : St), jL_isTwice_294 P b0 p1 p2 (fun g' z0 z1 z2 => I25 g' z0 z1 z2 ∧ μ25 g' z0 z1 z2 < μ203 g x3 x5 x6 x8 x9 x10 x12) (fun g' z0 z1 z2 z3 => I90 g' z0 z1 z2 z3 ∧ μ90 g' z0 z1 z2 z3 < μ203 g x3 x5 x6 x8 x9 x10 x12) (fun g' z0 z1 z2 z3 z4 z5 z6 => I203 g' z0 z1 z2 z3 z4 z5 z6 ∧ μ203 g' z0 z1 z2 z3 z4 z5 z6 < μ203 g x3 x5 x6 x8 x9 x10 x12) K x3_294 x5_294 x6_294 x8_294 x9_294 g294 → V p l e rmL_isTwice s m args below meth c 13 G (frA P sz) (MQ below (QcI G P sz K) args s 0 0 (frA P sz)) 0 0 P [(0, .ref b0), (1, .int p1), (2, .int p2), (3, .long x3_294), (5, .int x5_294), (6, .long x6_294), (8, .int x8_294), (9, .int x9_294)] [] 294 g294 := by
          intro x3_294 x5_294 x6_294 x8_294 x9_294 g294  h
          unfold jL_isTwice_294 at h
          refine v_aload_n o 0 dL_isTwice_294 rfl ?_
          refine v_cVi o [] [] (fun sz => metX7_undo l G P g294 sz b0 hb0 _ h) (cwL_73 o.1.2.2.2.2 (by decide)) ⟨_, _, rfl⟩ (by decide) (wfComp_o hb0) rfl (Nat.le_of_ble_eq_true rfl) ⟨Nat.le_of_ble_eq_true rfl, Nat.le_of_ble_eq_true rfl⟩ dL_isTwice_295 rfl (fun r295 g295 h => ?_)
          refine v_pop o dL_isTwice_298 rfl ?_
          refine v_iload o 7 dL_isTwice_299 rfl ?_
          refine v_if_eq o (tgt := 317) dL_isTwice_301 (by decide) (fun c301 => ?_) (fun c301 => ?_)
          · replace h := h.1 c301
            refine v_iconst o (v := 0) dL_isTwice_317 (by decide) ?_
            exact v_zret o rfl hr bz0.1 dL_isTwice_318 h
          · replace h := h.2 c301
            refine v_aload_n o 0 dL_isTwice_304 rfl ?_
            refine v_cSl o [.ref b0] [] (fun sz => metL_told l G P g295 sz b0 hb0 _ h) (cwL_69 o.1.2.2.2.2 (by decide)) rfl (Nat.le_of_ble_eq_true rfl) ⟨Nat.le_of_ble_eq_true rfl, Nat.le_of_ble_eq_true rfl⟩ dL_isTwice_305 rfl (fun r305 g305 h => ?_)
            refine v_lload_n o 3 dL_isTwice_308 rfl ?_
            refine v_lcmp o dL_isTwice_309 ?_
            refine v_if_ne o (tgt := 317) dL_isTwice_310 (by decide) (fun c310 => ?_) (fun c310 => ?_)
            · replace h := h.1 c310
              refine v_iconst o (v := 0) dL_isTwice_317 (by decide) ?_
              exact v_zret o rfl hr bz0.1 dL_isTwice_318 h
            · replace h := h.2 c310
              refine v_iconst o (v := 1) dL_isTwice_313 (by decide) ?_
              refine v_goto o (tgt := 318) dL_isTwice_314 (by decide) ?_
              exact v_zret o rfl hr bz1.1 dL_isTwice_318 h
        have J268 : ∀ (x3_268 : Int64) (x5_268 : Int32) (x6_268 : Int64) (x8_268 : Int32) (x9_268 : Int32) (x10_268 : Int64) (x12_268 : Int32) (y0_268 : Int32) (g268 : St), jL_isTwice_268 P b0 p1 p2 (fun g' z0 z1 z2 => I25 g' z0 z1 z2 ∧ μ25 g' z0 z1 z2 < μ203 g x3 x5 x6 x8 x9 x10 x12) (fun g' z0 z1 z2 z3 => I90 g' z0 z1 z2 z3 ∧ μ90 g' z0 z1 z2 z3 < μ203 g x3 x5 x6 x8 x9 x10 x12) (fun g' z0 z1 z2 z3 z4 z5 z6 => I203 g' z0 z1 z2 z3 z4 z5 z6 ∧ μ203 g' z0 z1 z2 z3 z4 z5 z6 < μ203 g x3 x5 x6 x8 x9 x10 x12) K x3_268 x5_268 x6_268 x8_268 x9_268 x10_268 x12_268 y0_268 g268 → V p l e rmL_isTwice s m args below meth c 13 G (frA P sz) (MQ below (QcI G P sz K) args s 0 0 (frA P sz)) 0 0 P [(0, .ref b0), (1, .int p1), (2, .int p2), (3, .long x3_268), (5, .int x5_268), (6, .long x6_268), (8, .int x8_268), (9, .int x9_268), (10, .long x10_268), (12, .int x12_268)] [.int y0_268] 268 g268 := by
          intro x3_268 x5_268 x6_268 x8_268 x9_268 x10_268 x12_268 y0_268 g268  h
          unfold jL_isTwice_268 at h
          refine v_istore o (lv' := [(9, .int y0_268), (0, .ref b0), (1, .int p1), (2, .int p2), (3, .long x3_268), (5, .int x5_268), (6, .long x6_268), (8, .int x8_268), (10, .long x10_268), (12, .int x12_268)]) dL_isTwice_268 (by decide) rfl ?_
          refine v_goto o (tgt := 294) dL_isTwice_270 (by decide) ?_
          refine v_sub [1, 2, 3, 4, 5, 6, 7, 0] (lv2 := [(0, .ref b0), (1, .int p1), (2, .int p2), (3, .long x3_268), (5, .int x5_268), (6, .long x6_268), (8, .int x8_268), (9, .int y0_268)]) rfl ?_
          exact J294 x3_268 x5_268 x6_268 x8_268 y0_268 g268  h
        have J267 : ∀ (x3_267 : Int64) (x5_267 : Int32) (x6_267 : Int64) (x8_267 : Int32) (x9_267 : Int32) (x10_267 : Int64) (x12_267 : Int32) (g267 : St), jL_isTwice_267 P b0 p1 p2 (fun g' z0 z1 z2 => I25 g' z0 z1 z2 ∧ μ25 g' z0 z1 z2 < μ203 g x3 x5 x6 x8 x9 x10 x12) (fun g' z0 z1 z2 z3 => I90 g' z0 z1 z2 z3 ∧ μ90 g' z0 z1 z2 z3 < μ203 g x3 x5 x6 x8 x9 x10 x12) (fun g' z0 z1 z2 z3 z4 z5 z6 => I203 g' z0 z1 z2 z3 z4 z5 z6 ∧ μ203 g' z0 z1 z2 z3 z4 z5 z6 < μ203 g x3 x5 x6 x8 x9 x10 x12) K x3_267 x5_267 x6_267 x8_267 x9_267 x10_267 x12_267 g267 → V p l e rmL_isTwice s m args below meth c 13 G (frA P sz) (MQ below (QcI G P sz K) args s 0 0 (frA P sz)) 0 0 P [(0, .ref b0), (1, .int p1), (2, .int p2), (3, .long x3_267), (5, .int x5_267), (6, .long x6_267), (8, .int x8_267), (9, .int x9_267), (10, .long x10_267), (12, .int x12_267)] [] 267 g267 := by
          intro x3_267 x5_267 x6_267 x8_267 x9_267 x10_267 x12_267 g267  h
          unfold jL_isTwice_267 at h
          refine v_iconst o (v := 0) dL_isTwice_267 (by decide) ?_
          refine v_sub [0, 1, 2, 3, 4, 5, 6, 7, 8, 9] (lv2 := [(0, .ref b0), (1, .int p1), (2, .int p2), (3, .long x3_267), (5, .int x5_267), (6, .long x6_267), (8, .int x8_267), (9, .int x9_267), (10, .long x10_267), (12, .int x12_267)]) rfl ?_
          exact J268 x3_267 x5_267 x6_267 x8_267 x9_267 x10_267 x12_267 0 g267  h
        unfold bL_isTwice_203 at h
        refine v_iload o 9 dL_isTwice_203 rfl ?_
        refine v_aload_n o 0 dL_isTwice_205 rfl ?_
        refine v_iload_n o 1 dL_isTwice_206 rfl ?_
        refine v_iconst o (v := 1) dL_isTwice_207 (by decide) ?_
        refine v_cVi o [.int p1, .int 1] [.int x12] (fun sz => metX7_loaf l G P g sz b0 hb0 p1 1 _ h) (cwL_21 o.1.2.2.2.2 (by decide)) ⟨_, _, rfl⟩ (by decide) (wfComp_o hb0) rfl (Nat.le_of_ble_eq_true rfl) ⟨Nat.le_of_ble_eq_true rfl, Nat.le_of_ble_eq_true rfl⟩ dL_isTwice_208 rfl (fun r208 g208 h => ?_)
        refine v_icmp_ge o (tgt := 250) dL_isTwice_211 (by decide) (fun c211 => ?_) (fun c211 => ?_)
        · replace h := h.1 c211
          refine v_iload o 7 dL_isTwice_250 rfl ?_
          refine v_if_eq o (tgt := 267) dL_isTwice_252 (by decide) (fun c252 => ?_) (fun c252 => ?_)
          · replace h := h.1 c252
            refine v_sub [0, 1, 2, 3, 4, 5, 6, 7, 8, 9] (lv2 := [(0, .ref b0), (1, .int p1), (2, .int p2), (3, .long x3), (5, .int x5), (6, .long x6), (8, .int x8), (9, .int x9), (10, .long x10), (12, .int x12)]) rfl ?_
            exact J267 x3 x5 x6 x8 x9 x10 x12 g208  h
          · replace h := h.2 c252
            refine v_lload o 8 dL_isTwice_255 rfl ?_
            refine v_lload o 5 dL_isTwice_257 rfl ?_
            refine v_lcmp o dL_isTwice_259 ?_
            refine v_if_ne o (tgt := 267) dL_isTwice_260 (by decide) (fun c260 => ?_) (fun c260 => ?_)
            · replace h := h.1 c260
              refine v_sub [0, 1, 2, 3, 4, 5, 6, 7, 8, 9] (lv2 := [(0, .ref b0), (1, .int p1), (2, .int p2), (3, .long x3), (5, .int x5), (6, .long x6), (8, .int x8), (9, .int x9), (10, .long x10), (12, .int x12)]) rfl ?_
              exact J267 x3 x5 x6 x8 x9 x10 x12 g208  h
            · replace h := h.2 c260
              refine v_iconst o (v := 1) dL_isTwice_263 (by decide) ?_
              refine v_goto o (tgt := 268) dL_isTwice_264 (by decide) ?_
              refine v_sub [0, 1, 2, 3, 4, 5, 6, 7, 8, 9] (lv2 := [(0, .ref b0), (1, .int p1), (2, .int p2), (3, .long x3), (5, .int x5), (6, .long x6), (8, .int x8), (9, .int x9), (10, .long x10), (12, .int x12)]) rfl ?_
              exact J268 x3 x5 x6 x8 x9 x10 x12 1 g208  h
        · replace h := h.2 c211
          refine v_ldc2 o (v := 31) dL_isTwice_214 (mU 586 (by decide +kernel) rfl) ?_
          refine v_lload o 8 dL_isTwice_217 rfl ?_
          refine v_lmul o dL_isTwice_219 ?_
          refine v_iconst o (v := 2) dL_isTwice_220 (by decide) ?_
          refine v_aload_n o 0 dL_isTwice_221 rfl ?_
          refine v_iload_n o 1 dL_isTwice_222 rfl ?_
          refine v_iload o 9 dL_isTwice_223 rfl ?_
          refine v_iconst o (v := 0) dL_isTwice_225 (by decide) ?_
          refine v_cVi o [.int p1, .int x12, .int 0] [.int 2, .long (31 * x10)] (fun sz => metX7_crossing l G P g208 sz b0 hb0 p1 x12 0 _ h) (cwL_25 o.1.2.2.2.2 (by decide)) ⟨_, _, rfl⟩ (by decide) (wfComp_o hb0) rfl (Nat.le_of_ble_eq_true rfl) ⟨Nat.le_of_ble_eq_true rfl, Nat.le_of_ble_eq_true rfl⟩ dL_isTwice_226 rfl (fun r226 g226 h => ?_)
          refine v_imul o dL_isTwice_229 ?_
          refine v_i2l o dL_isTwice_230 ?_
          refine v_ladd o dL_isTwice_231 ?_
          refine v_aload_n o 0 dL_isTwice_232 rfl ?_
          refine v_iload_n o 1 dL_isTwice_233 rfl ?_
          refine v_iload o 9 dL_isTwice_234 rfl ?_
          refine v_iconst o (v := 1) dL_isTwice_236 (by decide) ?_
          refine v_cVi o [.int p1, .int x12, .int 1] [.long ((31 * x10) + ((2 * r226 : Int32).toInt64))] (fun sz => metX7_crossing l G P g226 sz b0 hb0 p1 x12 1 _ h) (cwL_25 o.1.2.2.2.2 (by decide)) ⟨_, _, rfl⟩ (by decide) (wfComp_o hb0) rfl (Nat.le_of_ble_eq_true rfl) ⟨Nat.le_of_ble_eq_true rfl, Nat.le_of_ble_eq_true rfl⟩ dL_isTwice_237 rfl (fun r237 g237 h => ?_)
          refine v_i2l o dL_isTwice_240 ?_
          refine v_ladd o dL_isTwice_241 ?_
          refine v_topl (fun x10_242 ex10_242 => ?_)
          replace h := h x10_242 ex10_242
          refine v_lstore o (lv' := [(10, .long x10_242), (0, .ref b0), (1, .int p1), (2, .int p2), (3, .long x3), (5, .int x5), (6, .long x6), (8, .int x8), (9, .int x9), (12, .int x12)]) dL_isTwice_242 (by decide) rfl ?_
          obtain ⟨x12_244, ex12_244⟩ : ∃ y : Int32, y = x12 + 1 := ⟨_, rfl⟩
          replace h := h x12_244 ex12_244
          refine v_iinc o (v := x12_244) (lv' := [(12, .int x12_244), (10, .long x10_242), (0, .ref b0), (1, .int p1), (2, .int p2), (3, .long x3), (5, .int x5), (6, .long x6), (8, .int x8), (9, .int x9)]) 9 dL_isTwice_244 rfl (by rw [ex12_244]; rfl) (by decide) rfl ?_
          refine v_goto o (tgt := 203) dL_isTwice_247 (by decide) ?_
          refine v_sub [2, 3, 4, 5, 6, 7, 8, 9, 1, 0] (lv2 := [(0, .ref b0), (1, .int p1), (2, .int p2), (3, .long x3), (5, .int x5), (6, .long x6), (8, .int x8), (9, .int x9), (10, .long x10_242), (12, .int x12_244)]) rfl ?_
          exact ih.2.2 g237 x3 x5 x6 x8 x9 x10_242 x12_244  h.1 (by have := h.2; omega)
  unfold vL_isTwice at h
  refine v_aload_n o 0 dL_isTwice_0 rfl ?_
  refine v_cVi o [] [] (fun sz => metX7_keep l G P f sz b0 hb0 _ h) (cwL_66 o.1.2.2.2.2 (by decide)) ⟨_, _, rfl⟩ (by decide) (wfComp_o hb0) rfl (Nat.le_of_ble_eq_true rfl) ⟨Nat.le_of_ble_eq_true rfl, Nat.le_of_ble_eq_true rfl⟩ dL_isTwice_1 rfl (fun r1 g1 h => ?_)
  refine v_pop o dL_isTwice_4 rfl ?_
  refine v_aload_n o 0 dL_isTwice_5 rfl ?_
  refine v_cSl o [.ref b0] [] (fun sz => metL_told l G P g1 sz b0 hb0 _ h) (cwL_69 o.1.2.2.2.2 (by decide)) rfl (Nat.le_of_ble_eq_true rfl) ⟨Nat.le_of_ble_eq_true rfl, Nat.le_of_ble_eq_true rfl⟩ dL_isTwice_6 rfl (fun r6 g6 h => ?_)
  refine v_lstore_n o (lv' := [(3, .long r6), (0, .ref b0), (1, .int p1), (2, .int p2)]) dL_isTwice_9 rfl (by decide) rfl ?_
  refine v_aload_n o 1 dL_isTwice_10 rfl ?_
  refine v_iconst o (v := 5) dL_isTwice_11 (by decide) ?_
  refine v_cVi o [.int 5] [] (fun sz => metX7_count l G P g6 sz b0 hb0 5 _ h) (cwL_12 o.1.2.2.2.2 (by decide)) ⟨_, _, rfl⟩ (by decide) (wfComp_o hb0) rfl (Nat.le_of_ble_eq_true rfl) ⟨Nat.le_of_ble_eq_true rfl, Nat.le_of_ble_eq_true rfl⟩ dL_isTwice_12 rfl (fun r12 g12 h => ?_)
  refine v_istore o (lv' := [(5, .int r12), (3, .long r6), (0, .ref b0), (1, .int p1), (2, .int p2)]) dL_isTwice_15 (by decide) rfl ?_
  refine v_aload_n o 2 dL_isTwice_17 rfl ?_
  refine v_cVi o [] [] (fun sz => metX7_clearBuffer l G P g12 sz b0 hb0 _ h) (cwL_44 o.1.2.2.2.2 (by decide)) ⟨_, _, rfl⟩ (by decide) (wfComp_o hb0) rfl (Nat.le_of_ble_eq_true rfl) ⟨Nat.le_of_ble_eq_true rfl, Nat.le_of_ble_eq_true rfl⟩ dL_isTwice_18 rfl (fun r18 g18 h => ?_)
  refine v_pop o dL_isTwice_21 rfl ?_
  refine v_iconst o (v := 0) dL_isTwice_22 (by decide) ?_
  refine v_istore o (lv' := [(6, .int 0), (5, .int r12), (3, .long r6), (0, .ref b0), (1, .int p1), (2, .int p2)]) dL_isTwice_23 (by decide) rfl ?_
  refine v_sub [3, 4, 5, 2, 1, 0] (lv2 := [(0, .ref b0), (1, .int p1), (2, .int p2), (3, .long r6), (5, .int r12), (6, .int 0)]) rfl ?_
  exact (main (μ25 g18 r6 r12 0 + 1)).1 g18 r6 r12 0  h (Nat.lt_succ_self _)
def WL_isTwice (P : Sk) (f : St) (b0 : Nat) (p1 : Int32) (p2 : Int32) (K : Int32 → St → Prop) : Prop := ∃ (I25 : St → Int64 → Int32 → Int32 → Prop) (I90 : St → Int64 → Int32 → Int64 → Int32 → Prop) (I203 : St → Int64 → Int32 → Int64 → Int32 → Int32 → Int64 → Int32 → Prop) (μ25 : St → Int64 → Int32 → Int32 → Nat) (μ90 : St → Int64 → Int32 → Int64 → Int32 → Nat) (μ203 : St → Int64 → Int32 → Int64 → Int32 → Int32 → Int64 → Int32 → Nat), (vL_isTwice P f b0 p1 p2 I25 I90 I203 K) ∧ (∀ (g : St) (x3 : Int64) (x5 : Int32) (x6 : Int32) , I25 g x3 x5 x6 → bL_isTwice_25 P b0 p1 p2 (fun g' z0 z1 z2 => I25 g' z0 z1 z2 ∧ μ25 g' z0 z1 z2 < μ25 g x3 x5 x6) (fun g' z0 z1 z2 z3 => I90 g' z0 z1 z2 z3 ∧ μ90 g' z0 z1 z2 z3 < μ25 g x3 x5 x6) (fun g' z0 z1 z2 z3 z4 z5 z6 => I203 g' z0 z1 z2 z3 z4 z5 z6 ∧ μ203 g' z0 z1 z2 z3 z4 z5 z6 < μ25 g x3 x5 x6) K g x3 x5 x6) ∧ (∀ (g : St) (x3 : Int64) (x5 : Int32) (x6 : Int64) (x8 : Int32) , I90 g x3 x5 x6 x8 → bL_isTwice_90 P b0 p1 p2 (fun g' z0 z1 z2 => I25 g' z0 z1 z2 ∧ μ25 g' z0 z1 z2 < μ90 g x3 x5 x6 x8) (fun g' z0 z1 z2 z3 => I90 g' z0 z1 z2 z3 ∧ μ90 g' z0 z1 z2 z3 < μ90 g x3 x5 x6 x8) (fun g' z0 z1 z2 z3 z4 z5 z6 => I203 g' z0 z1 z2 z3 z4 z5 z6 ∧ μ203 g' z0 z1 z2 z3 z4 z5 z6 < μ90 g x3 x5 x6 x8) K g x3 x5 x6 x8) ∧ (∀ (g : St) (x3 : Int64) (x5 : Int32) (x6 : Int64) (x8 : Int32) (x9 : Int32) (x10 : Int64) (x12 : Int32) , I203 g x3 x5 x6 x8 x9 x10 x12 → bL_isTwice_203 P b0 p1 p2 (fun g' z0 z1 z2 => I25 g' z0 z1 z2 ∧ μ25 g' z0 z1 z2 < μ203 g x3 x5 x6 x8 x9 x10 x12) (fun g' z0 z1 z2 z3 => I90 g' z0 z1 z2 z3 ∧ μ90 g' z0 z1 z2 z3 < μ203 g x3 x5 x6 x8 x9 x10 x12) (fun g' z0 z1 z2 z3 z4 z5 z6 => I203 g' z0 z1 z2 z3 z4 z5 z6 ∧ μ203 g' z0 z1 z2 z3 z4 z5 z6 < μ203 g x3 x5 x6 x8 x9 x10 x12) K g x3 x5 x6 x8 x9 x10 x12)
theorem lg_self (x : Int64) : lg_cmp x x = 0 := by
  unfold lg_cmp
  rw [if_neg (Int64.lt_irrefl), if_pos rfl]
theorem svH_pos (hs : List Bd) (b : Bd) : (svH hs b).length ≠ 0 := by
  unfold svH
  split
  · rw [List.length_append]
    exact Nat.succ_ne_zero _
  · rw [List.length_append]
    exact Nat.succ_ne_zero _
theorem svH_last (hs : List Bd) (b : Bd) : bdAt (svH hs b) ((svH hs b).length - 1) = b := by
  have w : ∀ ls : List Bd, bdAt (ls ++ [b]) ((ls ++ [b]).length - 1) = b := fun ls => by
    rw [List.length_append]
    exact bd_app2 ls b
  unfold svH
  split
  · exact w _
  · exact w _
def hwC (h : Nat) : Nat := if h = 0 then 109 else if h = 1 then 116 else 114
def bfI (c l : Nat) : Nat → List Nat
  | 0 => []
  | 1 => [c, 48 + l]
  | _ + 2 => [c, 48 + l, 59, c, 48 + l]
theorem hwC_v {h : Nat} (hh : h < 3) : (h = 0 ∧ hwC h = 109) ∨ (h = 1 ∧ hwC h = 116) ∨ (h = 2 ∧ hwC h = 114) := by
  have : h = 0 ∨ h = 1 ∨ h = 2 := by omega
  rcases this with rfl | rfl | rfl
  · exact Or.inl ⟨rfl, rfl⟩
  · exact Or.inr (Or.inl ⟨rfl, rfl⟩)
  · exact Or.inr (Or.inr ⟨rfl, rfl⟩)
theorem tw_ok {h l : Nat} (hh : h < 3) (hl : l < 6) : stB (bfI (hwC h) l 2) (bfI (hwC h) l 2).length = 7 := by
  have w : ∀ l, l < 6 → stB [109, 48 + l, 59, 109, 48 + l] 5 = 7 ∧ stB [116, 48 + l, 59, 116, 48 + l] 5 = 7 ∧ stB [114, 48 + l, 59, 114, 48 + l] 5 = 7 := by decide +kernel
  obtain ⟨h1, h2, h3⟩ := w l hl
  show stB [hwC h, 48 + l, 59, hwC h, 48 + l] 5 = 7
  rcases hwC_v hh with ⟨-, e⟩ | ⟨-, e⟩ | ⟨-, e⟩
  · rw [e]
    exact h1
  · rw [e]
    exact h2
  · rw [e]
    exact h3
theorem prR_how {bd : Bd} {l h s : Nat} {b : List Nat} (hb : hasB bd (nI l)) (h0 : b.getD s 0 = hwC h) (h1 : b.getD (s + 1) 0 = 48 + l) (hh : h < 3) : prR bd b s = rsS ((lfP bd (nI l)).1, chg (lfP bd (nI l)).1 (lfP bd (nI l)).2 h) ∧ prB bd b s = adC (putL bd (nI l) (prR bd b s).2) ∧ psz (b.getD s 0) = 2 := by
  have hv := hwC_v hh
  have n106 : ¬ hwC h = 106 := by omega
  have n120 : ¬ hwC h = 120 := by omega
  have n122 : ¬ hwC h = 122 := by omega
  have eh : hwN (hwC h) = h := by
    rcases hv with ⟨rfl, -⟩ | ⟨rfl, -⟩ | ⟨rfl, -⟩ <;> rfl
  have el : 48 + l - 48 = l := by omega
  refine ⟨?_, ?_, ?_⟩
  · unfold prR
    rw [h0, h1, if_neg n106, if_neg n120, if_neg n122, el, eh]
    exact cif_pos hb
  · unfold prB
    rw [h0, h1, if_neg (fun q => q.elim n106 (fun q => q.elim n120 n122)), el]
  · unfold psz
    rw [h0, if_neg (fun q => q.elim n120 n106)]
theorem lfAt_set {bd : Bd} {l : Nat} {y : Lf} (hl : l < bd.1.length) (h31 : l < 2 ^ 31) : lfAt (putL bd (nI l) y).1 l = y ∧ (putL bd (nI l) y).1.length = bd.1.length := by
  refine ⟨?_, ?_⟩
  · show lfAt (bd.1.set (nI l).toNatClampNeg y) l = y
    rw [nI_clamp h31, lf_set _ _ _ _ hl, if_pos rfl]
  · show (bd.1.set _ _).length = _
    exact List.length_set
/-- twice the same change: it is made twice, and leaves the loaf; or it isn't made -/
theorem tw_work {bd : Bd} {l h : Nat} (hbd : Bok bd) (hl : l < bd.1.length) (hh : h < 3) :
    (∃ B : Bd, wkF (bfI (hwC h) l 2) 61 0 0 bd = (2, 0, B) ∧ lfAt B.1 l = lfAt bd.1 l ∧ l < B.1.length ∧ B.2.1 = bd.2.1 + 1 + 1) ∨ wkF (bfI (hwC h) l 2) 61 0 0 bd = (0, 2, bd) := by
  have h31 : l < 2 ^ 31 := by have := hbd.1; omega
  obtain ⟨hb, hb2⟩ := hasB_n hl hbd
  have hy := hbd.at hl
  have st61 : ∀ (s n : Nat) (bd : Bd), wkF (bfI (hwC h) l 2) 61 s n bd = if (bfI (hwC h) l 2).length ≤ s then (n, 0, bd) else if (prR bd (bfI (hwC h) l 2) s).1 = 0 then wkF (bfI (hwC h) l 2) 60 (s + psz ((bfI (hwC h) l 2).getD s 0) + 1) (n + 1) (prB bd (bfI (hwC h) l 2) s) else (n, (prR bd (bfI (hwC h) l 2) s).1, bd) := fun _ _ _ => rfl
  have st60 : ∀ (s n : Nat) (bd : Bd), wkF (bfI (hwC h) l 2) 60 s n bd = if (bfI (hwC h) l 2).length ≤ s then (n, 0, bd) else if (prR bd (bfI (hwC h) l 2) s).1 = 0 then wkF (bfI (hwC h) l 2) 59 (s + psz ((bfI (hwC h) l 2).getD s 0) + 1) (n + 1) (prB bd (bfI (hwC h) l 2) s) else (n, (prR bd (bfI (hwC h) l 2) s).1, bd) := fun _ _ _ => rfl
  have st59 : ∀ (s n : Nat) (bd : Bd), wkF (bfI (hwC h) l 2) 59 s n bd = if (bfI (hwC h) l 2).length ≤ s then (n, 0, bd) else if (prR bd (bfI (hwC h) l 2) s).1 = 0 then wkF (bfI (hwC h) l 2) 58 (s + psz ((bfI (hwC h) l 2).getD s 0) + 1) (n + 1) (prB bd (bfI (hwC h) l 2) s) else (n, (prR bd (bfI (hwC h) l 2) s).1, bd) := fun _ _ _ => rfl
  obtain ⟨p1, p2, p3⟩ := prR_how (b := bfI (hwC h) l 2) (s := 0) hb rfl rfl hh
  rw [hb2] at p1
  by_cases c : Dok (lfAt bd.1 l).1 (chg (lfAt bd.1 l).1 (lfAt bd.1 l).2 h)
  · have p1' : prR bd (bfI (hwC h) l 2) 0 = (0, ((lfAt bd.1 l).1, chg (lfAt bd.1 l).1 (lfAt bd.1 l).2 h)) := by
      rw [p1]
      unfold rsS
      rw [cif_pos c]
    have c0 : (prR bd (bfI (hwC h) l 2) 0).1 = 0 := by rw [p1']
    rw [p1'] at p2
    generalize e1 : putL bd (nI l) ((lfAt bd.1 l).1, chg (lfAt bd.1 l).1 (lfAt bd.1 l).2 h) = bd1
    obtain ⟨q1, q2⟩ := lfAt_set (bd := bd) (y := ((lfAt bd.1 l).1, chg (lfAt bd.1 l).1 (lfAt bd.1 l).2 h)) hl h31
    rw [e1] at q1 q2
    have p2' : prB bd (bfI (hwC h) l 2) 0 = adC bd1 := p2.trans (congrArg adC e1)
    have hbd1 : Bok (adC bd1) := by
      have := prB_ok (b := bfI (hwC h) l 2) (s := 0) hbd c0
      rw [p2'] at this
      exact this
    have hl1 : l < (adC bd1).1.length := by
      show l < bd1.1.length
      omega
    obtain ⟨hb1, hb12⟩ := hasB_n hl1 hbd1
    obtain ⟨r1, r2, r3⟩ := prR_how (b := bfI (hwC h) l 2) (s := 3) hb1 rfl rfl hh
    have hb12' : lfP (adC bd1) (nI l) = ((lfAt bd.1 l).1, chg (lfAt bd.1 l).1 (lfAt bd.1 l).2 h) := hb12.trans q1
    have r1' : prR (adC bd1) (bfI (hwC h) l 2) 3 = (0, lfAt bd.1 l) := by
      rw [r1, hb12']
      show rsS ((lfAt bd.1 l).1, chg (lfAt bd.1 l).1 (chg (lfAt bd.1 l).1 (lfAt bd.1 l).2 h) h) = _
      rw [chg_chg hy.1 hh]
      show (cif (Dok (lfAt bd.1 l).1 (lfAt bd.1 l).2) 0 2, lfAt bd.1 l) = (0, lfAt bd.1 l)
      rw [cif_pos hy.2]
    have c1 : (prR (adC bd1) (bfI (hwC h) l 2) 3).1 = 0 := by rw [r1']
    rw [r1'] at r2
    obtain ⟨t1, t2⟩ := lfAt_set (bd := adC bd1) (y := lfAt bd.1 l) hl1 h31
    refine Or.inl ⟨adC (putL (adC bd1) (nI l) (lfAt bd.1 l)), ?_, t1, ?_, ?_⟩
    · rw [st61 0 0 bd, if_neg (show ¬ (bfI (hwC h) l 2).length ≤ 0 from by show ¬ 5 ≤ 0; decide), if_pos c0, p3, p2', st60]
      rw [if_neg (show ¬ (bfI (hwC h) l 2).length ≤ 0 + 2 + 1 from by show ¬ 5 ≤ 3; decide)]
      show (if (prR (adC bd1) (bfI (hwC h) l 2) 3).1 = 0 then wkF (bfI (hwC h) l 2) 59 (3 + psz ((bfI (hwC h) l 2).getD 3 0) + 1) 2 (prB (adC bd1) (bfI (hwC h) l 2) 3) else _) = _
      rw [if_pos c1, r3, r2, st59]
      rw [if_pos (show (bfI (hwC h) l 2).length ≤ 3 + 2 + 1 from by show 5 ≤ 6; decide)]
    · show l < (putL (adC bd1) (nI l) (lfAt bd.1 l)).1.length
      rw [t2]
      exact hl1
    · have e9 : (putL bd (nI l) ((lfAt bd.1 l).1, chg (lfAt bd.1 l).1 (lfAt bd.1 l).2 h)).2.1 = bd.2.1 := rfl
      rw [e1] at e9
      show bd1.2.1 + 1 + 1 = _
      rw [e9]
  · refine Or.inr ?_
    have p1' : (prR bd (bfI (hwC h) l 2) 0).1 = 2 := by
      rw [p1]
      unfold rsS
      rw [cif_neg c]
    rw [st61 0 0 bd, if_neg (show ¬ (bfI (hwC h) l 2).length ≤ 0 from by show ¬ 5 ≤ 0; decide), p1', if_neg (by decide)]
/-- what is told of a word alone -/
def swN (w : List Nat) : Nat → Int64
  | 0 => 0
  | k + 1 => ((31 * swN w k) + ((2 * nI (crN w k 0) : Int32).toInt64)) + ((nI (crN w k 1)).toInt64)
section TW
variable {P : Sk} {f : St} {x l h : Nat} {A : Ab} {L25 : St → Int64 → Int32 → Int32 → Prop} {L90 : St → Int64 → Int32 → Int64 → Int32 → Prop} {L203 : St → Int64 → Int32 → Int64 → Int32 → Int32 → Int64 → Int32 → Prop} {K : Int32 → St → Prop} {x5 x8 : Int32} {x6 : Int64}
theorem pt_294 (hK : ∀ g hs sn b, CompIs g x (A.1, hs, sn, b) → K 1 g) {B : Bd} {sn : Option Bd} {b : List Nat} {p1 p2 : Int32} (C : CompIs f x (B, svH A.2.1 A.1, sn, b)) : jL_isTwice_294 P x p1 p2 L25 L90 L203 K (tl A.1) x5 x6 x8 1 f := by
  unfold jL_isTwice_294
  refine pb_undo C (svH_pos _ _) (fun g C2 => ?_)
  change _ ∧ _
  refine ⟨fun q => absurd q (by decide), fun _ => ?_⟩
  have C3 : CompIs g x (bdAt (svH A.2.1 A.1) ((svH A.2.1 A.1).length - 1), (svH A.2.1 A.1).take ((svH A.2.1 A.1).length - 1), sn, b) := C2
  rw [svH_last] at C3
  refine ⟨_, C3, fun g4 C4 => ?_⟩
  change _ ∧ _
  exact ⟨fun q => absurd (lg_self _) q, fun _ => hK g4 _ _ _ C4⟩
theorem pt_189 (hK : ∀ g hs sn b, CompIs g x (A.1, hs, sn, b) → K 1 g) {W : Nat × Nat × Bd} {b : List Nat} {p1 p2 : Int32} (C : CompIs f x (wkB W, svH A.2.1 A.1, some A.1, b)) (hW : W = (0, 2, A.1)) : jL_isTwice_189 P x p1 p2 L25 L90 L203 K (tl A.1) x5 x6 (nI 0) 1 f := by
  unfold jL_isTwice_189
  refine ⟨fun _ => ⟨fun q => absurd q (by decide), fun _ => ?_⟩, fun q => absurd q (by decide)⟩
  refine pb_stop1 C (fun g C2 => ?_)
  change _ ∧ _
  have e : (wkB W).2.2.2 = 2 := by
    rw [hW]
    rfl
  show (¬ (wkB W).2.2.2 = 2 → _) ∧ ((wkB W).2.2.2 = 2 → _)
  rw [e]
  refine ⟨fun q => absurd rfl q, fun _ => ?_⟩
  unfold jL_isTwice_292
  exact pt_294 hK C2
end TW
def kL_isTwice (P : Sk) (f : St) (b0 : Nat) (p1 : Int32) (p2 : Int32) (K : Int32 → St → Prop) : Prop := ∃ A l h, CompIs f b0 A ∧ p1 = nI l ∧ p2 = nI h ∧ l < A.1.1.length ∧ h < 3 ∧ ∀ g hs sn b, CompIs g b0 (A.1, hs, sn, b) → K 1 g
theorem wL_isTwice (P : Sk) (f : St) (b0 : Nat) (hb0 : IsComp P b0) (p1 : Int32) (p2 : Int32) (K : Int32 → St → Prop) (h : kL_isTwice P f b0 p1 p2 K) : WL_isTwice P f b0 p1 p2 K := by
  obtain ⟨A, l, h, hC, rfl, rfl, hl, hh, hK⟩ := h
  have h6 := hC.2.2.2.2.2.1
  have hy := h6.at hl
  have h24 := hy.1.2.2.1
  have hl6 : l < 6 := by have := h6.1; omega
  have hcv := hwC_v hh
  refine ⟨fun g x3 x5 x6 => ∃ i, x3 = tl A.1 ∧ x5 = A.1.2.1 ∧ x6 = nI i ∧ i ≤ 2 ∧ CompIs g b0 (A.1, A.2.1, some A.1, bfI (hwC h) l i), fun g x3 x5 x6 x8 => ∃ k, x3 = tl A.1 ∧ x5 = A.1.2.1 ∧ x6 = swN (lfAt A.1.1 l).2 k ∧ x8 = nI k ∧ k ≤ (lfAt A.1.1 l).2.length ∧ CompIs g b0 (A.1, A.2.1, some A.1, bfI (hwC h) l 2), fun g x3 x5 x6 x8 x9 x10 x12 => ∃ k B, x3 = tl A.1 ∧ x6 = swN (lfAt A.1.1 l).2 (lfAt A.1.1 l).2.length ∧ x9 = 1 ∧ x10 = swN (lfAt A.1.1 l).2 k ∧ x12 = nI k ∧ k ≤ (lfAt A.1.1 l).2.length ∧ l < B.1.length ∧ lfAt B.1 l = lfAt A.1.1 l ∧ CompIs g b0 (B, svH A.2.1 A.1, some A.1, []), fun g x3 x5 x6 => 300 - x6.toNatClampNeg, fun g x3 x5 x6 x8 => 200 - x8.toNatClampNeg, fun g x3 x5 x6 x8 x9 x10 x12 => 100 - x12.toNatClampNeg, ?_, ?_, ?_, ?_⟩
  · unfold vL_isTwice
    refine pb_keep hC (fun v1 g1 C1 => ?_)
    refine ⟨_, C1, fun g2 C2 => ?_⟩
    refine pb_count (q := 5) (v := A.1.2.1) C2 (by decide) rfl (fun g3 C3 => ?_)
    refine pb_clear C3 (fun v4 g4 C4 => ?_)
    exact ⟨0, rfl, rfl, rfl, Nat.zero_le _, C4⟩
  · rintro g x3 x5 x6 ⟨i, rfl, rfl, rfl, hi, C⟩
    unfold bL_isTwice_25
    rw [show (2 : Int32) = nI 2 from rfl, nI_leI (by decide) (by omega)]
    refine ⟨fun q => ?_, fun q => ?_⟩
    · have e : i = 2 := by omega
      subst e
      refine ⟨⟨0, rfl, rfl, rfl, rfl, Nat.zero_le _, C⟩, ?_⟩
      show 200 - (nI 0).toNatClampNeg < 300 - (nI 2).toNatClampNeg
      rw [nI_clamp (n := 0) (by decide), nI_clamp (n := 2) (by decide)]
      decide
    · have go : ∀ (L25 : St → Int64 → Int32 → Int32 → Prop) (L90 : St → Int64 → Int32 → Int64 → Int32 → Prop) (L203 : St → Int64 → Int32 → Int64 → Int32 → Int32 → Int64 → Int32 → Prop) (bf : List Nat) (g2 : St), (∀ g' y6, y6 = nI (i + 1) → CompIs g' b0 (A.1, A.2.1, some A.1, bf ++ [hwC h] ++ [48 + l]) → L25 g' (tl A.1) A.1.2.1 y6) → bf.length < 10 → CompIs g2 b0 (A.1, A.2.1, some A.1, bf) → jL_isTwice_43 P b0 (nI l) (nI h) L25 L90 L203 K (tl A.1) A.1.2.1 (nI i) g2 := by
        intro L25 L90 L203 bf g2 hL hbf C2
        have go2 : jL_isTwice_65 P b0 (nI l) (nI h) L25 L90 L203 K (tl A.1) A.1.2.1 (nI i) (nI (hwC h)) g2 := by
          unfold jL_isTwice_65
          refine pb_append hb0 C2 (by omega) (by omega) (by show bf.length < 60; omega) (fun v3 g3 C3 => ?_)
          have e : (48 : Int32) + nI l = nI (48 + l) := nI_add 48 l
          change kX7_append P g3 b0 (48 + nI l) _ XF
          rw [e]
          refine pb_append hb0 C3 (by omega) (by omega) (by show (bf ++ [hwC h]).length < 60; rw [List.length_append]; show bf.length + 1 < 60; omega) (fun v4 g4 C4 => ?_)
          intro y ey
          rw [nI_1] at ey
          exact hL g4 y ey C4
        unfold jL_isTwice_43
        rw [nI_z (by omega), show (1 : Int32) = nI 1 from rfl, nI_eq (by omega) (by decide)]
        rcases hcv with ⟨e1, e2⟩ | ⟨e1, e2⟩ | ⟨e1, e2⟩
        · rw [e2] at go2
          exact ⟨fun q => absurd e1 q, fun _ => go2⟩
        · rw [e2] at go2
          exact ⟨fun _ => ⟨fun q => absurd e1 q, fun _ => go2⟩, fun q => by omega⟩
        · rw [e2] at go2
          exact ⟨fun _ => ⟨fun _ => go2, fun q => by omega⟩, fun q => by omega⟩
      have mu : ∀ y6, y6 = nI (i + 1) → 300 - y6.toNatClampNeg < 300 - (nI i).toNatClampNeg := by
        intro y6 e6
        rw [e6, nI_clamp (n := i + 1) (by omega), nI_clamp (n := i) (by omega)]
        omega
      rw [show (0 : Int32) = nI 0 from rfl, nI_leI (by omega) (by decide)]
      refine ⟨fun q2 => ?_, fun q2 => ?_⟩
      · have e : i = 0 := by omega
        subst e
        exact go _ _ _ [] g (fun g' y6 e6 C' => ⟨⟨1, rfl, rfl, e6, by decide, C'⟩, mu y6 e6⟩) (by decide) C
      · have e : i = 1 := by omega
        subst e
        refine pb_append (c := 59) hb0 C (by decide) (by decide) (by show 2 < 60; decide) (fun v3 g3 C3 => ?_)
        exact go _ _ _ [hwC h, 48 + l, 59] g3 (fun g' y6 e6 C' => ⟨⟨2, rfl, rfl, e6, by decide, C'⟩, mu y6 e6⟩) (by show 3 < 10; decide) C3
  · rintro g x3 x5 x6 x8 ⟨k, rfl, rfl, rfl, rfl, hk, C⟩
    unfold bL_isTwice_90
    refine pb_loaf (q := 1) (v := nI (lfAt A.1.1 l).2.length) hb0 C hl (by decide) rfl (fun g1 C1 => ?_)
    change _ ∧ _
    rw [nI_leI (by omega) (by omega)]
    refine ⟨fun q => ?_, fun q => ?_⟩
    · have e : k = (lfAt A.1.1 l).2.length := by omega
      subst e
      refine pb_work C1 (tw_ok hh hl6) (fun g2 C2 => ?_)
      have C2 : CompIs g2 b0 (wkB (wkF (bfI (hwC h) l 2) 61 0 0 A.1), svH A.2.1 A.1, some A.1, []) := C2
      refine pb_count (q := 5) (v := (wkB (wkF (bfI (hwC h) l 2) 61 0 0 A.1)).2.1) C2 (by decide) rfl (fun g3 C3 => ?_)
      change (¬ (wkB (wkF (bfI (hwC h) l 2) 61 0 0 A.1)).2.1 = A.1.2.1 + nI (wkF (bfI (hwC h) l 2) 61 0 0 A.1).1 → _) ∧ ((wkB (wkF (bfI (hwC h) l 2) 61 0 0 A.1)).2.1 = A.1.2.1 + nI (wkF (bfI (hwC h) l 2) 61 0 0 A.1).1 → (¬ nI (wkF (bfI (hwC h) l 2) 61 0 0 A.1).1 = 2 → jL_isTwice_167 P b0 _ _ _ _ _ K _ _ _ (nI (wkF (bfI (hwC h) l 2) 61 0 0 A.1).1) 0 g3) ∧ (nI (wkF (bfI (hwC h) l 2) 61 0 0 A.1).1 = 2 → jL_isTwice_167 P b0 _ _ _ _ _ K _ _ _ (nI (wkF (bfI (hwC h) l 2) 61 0 0 A.1).1) 1 g3))
      rcases tw_work h6 hl hh with ⟨B, eW, eB, hlB, eC⟩ | eW
      · rw [eW] at C3 ⊢
        have ec : (wkB (2, 0, B)).2.1 = A.1.2.1 + nI 2 := by
          show B.2.1 = _
          rw [eC, Int32.add_assoc]
          rfl
        refine ⟨fun q => absurd ec q, fun _ => ⟨fun q => absurd rfl q, fun _ => ?_⟩⟩
        unfold jL_isTwice_167
        refine pb_stop0 C3 (fun g4 C4 => ?_)
        change _ ∧ _
        refine ⟨fun q => absurd rfl q, fun _ => ?_⟩
        unfold jL_isTwice_181
        refine ⟨fun q => absurd rfl q, fun _ => ?_⟩
        unfold jL_isTwice_189
        refine ⟨fun q => absurd rfl q, fun _ => ?_⟩
        refine ⟨⟨0, (wkB (2, 0, B)), rfl, rfl, rfl, rfl, rfl, Nat.zero_le _, hlB, eB, C4⟩, ?_⟩
        show 100 - (nI 0).toNatClampNeg < 200 - (nI (lfAt A.1.1 l).2.length).toNatClampNeg
        rw [nI_clamp (n := 0) (by decide), nI_clamp (n := (lfAt A.1.1 l).2.length) (by omega)]
        omega
      · rw [eW] at C3 ⊢
        have ec : (wkB (0, 2, A.1)).2.1 = A.1.2.1 + nI 0 := (Int32.add_zero _).symm
        refine ⟨fun q => absurd ec q, fun _ => ⟨fun _ => ?_, fun q => absurd (show nI 0 = 2 from q) (by decide)⟩⟩
        unfold jL_isTwice_167
        refine pb_stop0 C3 (fun g4 C4 => ?_)
        change _ ∧ _
        refine ⟨fun _ => ?_, fun q => absurd (show nI 0 = -1 from q) (by decide)⟩
        unfold jL_isTwice_181
        refine ⟨fun q => absurd rfl q, fun _ => ?_⟩
        exact pt_189 hK C4 rfl
    · have hlt : k < (lfAt A.1.1 l).2.length := by omega
      refine pb_crossing (q := 0) hb0 C1 hl hlt (by decide) (fun g2 C2 => ?_)
      refine pb_crossing (q := 1) hb0 C2 hl hlt (by decide) (fun g3 C3 => ?_)
      intro y ey z ez
      rw [nI_1] at ez
      refine ⟨⟨k + 1, rfl, rfl, ey, ez, hlt, C3⟩, ?_⟩
      show 200 - z.toNatClampNeg < 200 - (nI k).toNatClampNeg
      rw [ez, nI_clamp (n := k + 1) (by omega), nI_clamp (n := k) (by omega)]
      omega
  · rintro g x3 x5 x6 x8 x9 x10 x12 ⟨k, B, rfl, rfl, rfl, rfl, rfl, hk, hlB, eB, C⟩
    unfold bL_isTwice_203
    refine pb_loaf (q := 1) (v := nI (lfAt B.1 l).2.length) hb0 C hlB (by decide) rfl (fun g1 C1 => ?_)
    change _ ∧ _
    rw [eB, nI_leI (by omega) (by omega)]
    refine ⟨fun q => ⟨fun q2 => absurd q2 (by decide), fun _ => ?_⟩, fun q => ?_⟩
    · have e : k = (lfAt A.1.1 l).2.length := by omega
      subst e
      refine ⟨fun q2 => absurd (lg_self _) q2, fun _ => ?_⟩
      unfold jL_isTwice_268
      exact pt_294 hK C1
    · have hlt : k < (lfAt A.1.1 l).2.length := by omega
      refine pb_crossing (q := 0) hb0 C1 hlB (by show k < (lfAt B.1 l).2.length; rw [eB]; exact hlt) (by decide) (fun g2 C2 => ?_)
      refine pb_crossing (q := 1) hb0 C2 hlB (by show k < (lfAt B.1 l).2.length; rw [eB]; exact hlt) (by decide) (fun g3 C3 => ?_)
      intro y ey z ez
      have ey : y = ((31 * swN (lfAt A.1.1 l).2 k) + ((2 * nI (crN (lfAt B.1 l).2 k 0) : Int32).toInt64)) + ((nI (crN (lfAt B.1 l).2 k 1)).toInt64) := ey
      rw [eB] at ey
      rw [nI_1] at ez
      refine ⟨⟨k + 1, B, rfl, rfl, rfl, ey, ez, hlt, hlB, eB, C3⟩, ?_⟩
      show 100 - z.toNatClampNeg < 100 - (nI k).toNatClampNeg
      rw [ez, nI_clamp (n := k + 1) (by omega), nI_clamp (n := k) (by omega)]
      omega

theorem metL_isTwice (l : Launch) (G : Gl) (P : Sk) (f : St) (sz : Nat) (b0 : Nat) (hb0 : IsComp P b0) (p1 : Int32) (p2 : Int32) (K : Int32 → St → Prop) (h : kL_isTwice P f b0 p1 p2 K) : Met l yL_isTwice (wU yL_isTwice cL_isTwice 13 (some .boolean)) rmL_isTwice (PcW G P f sz [.ref b0, .int p1, .int p2]) (QcI G P sz K) 0 0 (frA P sz) := by
  obtain ⟨I25, I90, I203, μ25, μ90, μ203, qh, qh25, qh90, qh203⟩ := wL_isTwice P f b0 hb0 p1 p2 K h
  exact mL_isTwice l G P f sz b0 hb0 p1 p2 K I25 μ25 I90 μ90 I203 μ203 qh qh25 qh90 qh203

