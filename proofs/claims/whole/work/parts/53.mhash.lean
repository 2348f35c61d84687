def bX8_digestLoaf_6 (P : Sk) (a : Nat) (p1 : Int64) (p3 : Int32) (L6 : St → Int64 → Int32 → Prop) (L54 : St → Int64 → Int32 → Prop) (L86 : St → Int64 → Int32 → Prop) (L100 : St → Int64 → Int32 → Int32 → Prop) (L147 : St → Int64 → Int32 → Int32 → Prop) (L180 : St → Int64 → Int32 → Int32 → Prop) (L194 : St → Int64 → Int32 → Int32 → Int32 → Prop) (L234 : St → Int64 → Int32 → Int32 → Prop) (K : Int64 → St → Prop) (f : St) (x4 : Int64) (x6 : Int32) : Prop :=
  (11 ≤ x6 → kX8_periodOf P f a p3 (fun r44 g44 => ∀ x4_49 : Int64, x4_49 = (31 * x4) + (r44.toInt64) → L54 g44 x4_49 0)) ∧ (¬ 11 ≤ x6 → kX8_tellsLoaf P f a p3 x6 (fun r23 g23 => ∀ x4_28 : Int64, x4_28 = (31 * x4) + (r23.toInt64) → ∀ x6_30 : Int32, x6_30 = x6 + 1 → L6 g23 x4_28 x6_30))
def bX8_digestLoaf_54 (P : Sk) (a : Nat) (p1 : Int64) (p3 : Int32) (L6 : St → Int64 → Int32 → Prop) (L54 : St → Int64 → Int32 → Prop) (L86 : St → Int64 → Int32 → Prop) (L100 : St → Int64 → Int32 → Int32 → Prop) (L147 : St → Int64 → Int32 → Int32 → Prop) (L180 : St → Int64 → Int32 → Int32 → Prop) (L194 : St → Int64 → Int32 → Int32 → Int32 → Prop) (L234 : St → Int64 → Int32 → Int32 → Prop) (K : Int64 → St → Prop) (f : St) (x4 : Int64) (x6 : Int32) : Prop :=
  (4 ≤ x6 → L86 f x4 0) ∧ (¬ 4 ≤ x6 → kX8_looseBehind P f a p3 x6 (fun r70 g70 => ∀ x4_75 : Int64, x4_75 = (31 * x4) + (r70.toInt64) → ∀ x6_77 : Int32, x6_77 = x6 + 1 → L54 g70 x4_75 x6_77))
def bX8_digestLoaf_86 (P : Sk) (a : Nat) (p1 : Int64) (p3 : Int32) (L6 : St → Int64 → Int32 → Prop) (L54 : St → Int64 → Int32 → Prop) (L86 : St → Int64 → Int32 → Prop) (L100 : St → Int64 → Int32 → Int32 → Prop) (L147 : St → Int64 → Int32 → Int32 → Prop) (L180 : St → Int64 → Int32 → Int32 → Prop) (L194 : St → Int64 → Int32 → Int32 → Int32 → Prop) (L234 : St → Int64 → Int32 → Int32 → Prop) (K : Int64 → St → Prop) (f : St) (x4 : Int64) (x6 : Int32) : Prop :=
  kX8_of P f a p3 1 (fun r91 g91 => (r91 ≤ x6 → kX8_looseLength P g91 a p3 (fun r139 g139 => L147 g139 x4 r139 0)) ∧ (¬ r91 ≤ x6 → L100 g91 x4 x6 0))
def bX8_digestLoaf_100 (P : Sk) (a : Nat) (p1 : Int64) (p3 : Int32) (L6 : St → Int64 → Int32 → Prop) (L54 : St → Int64 → Int32 → Prop) (L86 : St → Int64 → Int32 → Prop) (L100 : St → Int64 → Int32 → Int32 → Prop) (L147 : St → Int64 → Int32 → Int32 → Prop) (L180 : St → Int64 → Int32 → Int32 → Prop) (L194 : St → Int64 → Int32 → Int32 → Int32 → Prop) (L234 : St → Int64 → Int32 → Int32 → Prop) (K : Int64 → St → Prop) (f : St) (x4 : Int64) (x6 : Int32) (x7 : Int32) : Prop :=
  (4 ≤ x7 → ∀ x6_131 : Int32, x6_131 = x6 + 1 → L86 f x4 x6_131) ∧ (¬ 4 ≤ x7 → kX8_tellsCrossing P f a p3 x6 x7 (fun r118 g118 => ∀ x4_123 : Int64, x4_123 = (31 * x4) + (r118.toInt64) → ∀ x7_125 : Int32, x7_125 = x7 + 1 → L100 g118 x4_123 x6 x7_125))
def bX8_digestLoaf_147 (P : Sk) (a : Nat) (p1 : Int64) (p3 : Int32) (L6 : St → Int64 → Int32 → Prop) (L54 : St → Int64 → Int32 → Prop) (L86 : St → Int64 → Int32 → Prop) (L100 : St → Int64 → Int32 → Int32 → Prop) (L147 : St → Int64 → Int32 → Int32 → Prop) (L180 : St → Int64 → Int32 → Int32 → Prop) (L194 : St → Int64 → Int32 → Int32 → Int32 → Prop) (L234 : St → Int64 → Int32 → Int32 → Prop) (K : Int64 → St → Prop) (f : St) (x4 : Int64) (x6 : Int32) (x7 : Int32) : Prop :=
  (x6 ≤ x7 → L180 f x4 x6 0) ∧ (¬ x6 ≤ x7 → vp_in x7 50 ∧ (∀ x4_169 : Int64, x4_169 = (31 * x4) + ((f (a + 5) x7.toNatClampNeg : Int32).toInt64) → ∀ x7_171 : Int32, x7_171 = x7 + 1 → L147 f x4_169 x6 x7_171))
def bX8_digestLoaf_180 (P : Sk) (a : Nat) (p1 : Int64) (p3 : Int32) (L6 : St → Int64 → Int32 → Prop) (L54 : St → Int64 → Int32 → Prop) (L86 : St → Int64 → Int32 → Prop) (L100 : St → Int64 → Int32 → Int32 → Prop) (L147 : St → Int64 → Int32 → Int32 → Prop) (L180 : St → Int64 → Int32 → Int32 → Prop) (L194 : St → Int64 → Int32 → Int32 → Int32 → Prop) (L234 : St → Int64 → Int32 → Int32 → Prop) (K : Int64 → St → Prop) (f : St) (x4 : Int64) (x6 : Int32) (x7 : Int32) : Prop :=
  kX8_of P f a p3 0 (fun r185 g185 => (r185 ≤ x7 → L234 g185 x4 x6 0) ∧ (¬ r185 ≤ x7 → L194 g185 x4 x6 x7 0))
def bX8_digestLoaf_194 (P : Sk) (a : Nat) (p1 : Int64) (p3 : Int32) (L6 : St → Int64 → Int32 → Prop) (L54 : St → Int64 → Int32 → Prop) (L86 : St → Int64 → Int32 → Prop) (L100 : St → Int64 → Int32 → Int32 → Prop) (L147 : St → Int64 → Int32 → Int32 → Prop) (L180 : St → Int64 → Int32 → Int32 → Prop) (L194 : St → Int64 → Int32 → Int32 → Int32 → Prop) (L234 : St → Int64 → Int32 → Int32 → Prop) (K : Int64 → St → Prop) (f : St) (x4 : Int64) (x6 : Int32) (x7 : Int32) (x8 : Int32) : Prop :=
  (5 ≤ x8 → ∀ x7_225 : Int32, x7_225 = x7 + 1 → L180 f x4 x6 x7_225) ∧ (¬ 5 ≤ x8 → kX8_tellsStrand P f a p3 x7 x8 (fun r212 g212 => ∀ x4_217 : Int64, x4_217 = (31 * x4) + (r212.toInt64) → ∀ x8_219 : Int32, x8_219 = x8 + 1 → L194 g212 x4_217 x6 x7 x8_219))
def bX8_digestLoaf_234 (P : Sk) (a : Nat) (p1 : Int64) (p3 : Int32) (L6 : St → Int64 → Int32 → Prop) (L54 : St → Int64 → Int32 → Prop) (L86 : St → Int64 → Int32 → Prop) (L100 : St → Int64 → Int32 → Int32 → Prop) (L147 : St → Int64 → Int32 → Int32 → Prop) (L180 : St → Int64 → Int32 → Int32 → Prop) (L194 : St → Int64 → Int32 → Int32 → Int32 → Prop) (L234 : St → Int64 → Int32 → Int32 → Prop) (K : Int64 → St → Prop) (f : St) (x4 : Int64) (x6 : Int32) (x7 : Int32) : Prop :=
  vp_in 0 160 ∧ ((f (a + 1) ((0 : Int32)).toNatClampNeg ≤ x7 → K x4 f) ∧ (¬ f (a + 1) ((0 : Int32)).toNatClampNeg ≤ x7 → kX8_likeness P f a p3 x7 (fun r255 g255 => ∀ x4_260 : Int64, x4_260 = (31 * x4) + (r255.toInt64) → ∀ x7_262 : Int32, x7_262 = x7 + 1 → L234 g255 x4_260 x6 x7_262)))
def vX8_digestLoaf (P : Sk) (f : St) (a : Nat) (p1 : Int64) (p3 : Int32) (L6 : St → Int64 → Int32 → Prop) (L54 : St → Int64 → Int32 → Prop) (L86 : St → Int64 → Int32 → Prop) (L100 : St → Int64 → Int32 → Int32 → Prop) (L147 : St → Int64 → Int32 → Int32 → Prop) (L180 : St → Int64 → Int32 → Int32 → Prop) (L194 : St → Int64 → Int32 → Int32 → Int32 → Prop) (L234 : St → Int64 → Int32 → Int32 → Prop) (K : Int64 → St → Prop) : Prop :=
  L6 f p1 0
set_option maxRecDepth 20000 in
set_option maxHeartbeats 4000000 in
theorem mX8_digestLoaf (l : Launch) (G : Gl) (P : Sk) (f : St) (sz : Nat) (a : Nat) (ha : IsModel P a) (p1 : Int64) (p3 : Int32) (K : Int64 → St → Prop) (I6 : St → Int64 → Int32 → Prop) (μ6 : St → Int64 → Int32 → Nat) (I54 : St → Int64 → Int32 → Prop) (μ54 : St → Int64 → Int32 → Nat) (I86 : St → Int64 → Int32 → Prop) (μ86 : St → Int64 → Int32 → Nat) (I100 : St → Int64 → Int32 → Int32 → Prop) (μ100 : St → Int64 → Int32 → Int32 → Nat) (I147 : St → Int64 → Int32 → Int32 → Prop) (μ147 : St → Int64 → Int32 → Int32 → Nat) (I180 : St → Int64 → Int32 → Int32 → Prop) (μ180 : St → Int64 → Int32 → Int32 → Nat) (I194 : St → Int64 → Int32 → Int32 → Int32 → Prop) (μ194 : St → Int64 → Int32 → Int32 → Int32 → Nat) (I234 : St → Int64 → Int32 → Int32 → Prop) (μ234 : St → Int64 → Int32 → Int32 → Nat) 
  (h : vX8_digestLoaf P f a p1 p3 I6 I54 I86 I100 I147 I180 I194 I234 K)
  (h6 : ∀ (g : St) (x4 : Int64) (x6 : Int32) , I6 g x4 x6 → bX8_digestLoaf_6 P a p1 p3 (fun g' z0 z1 => I6 g' z0 z1 ∧ μ6 g' z0 z1 < μ6 g x4 x6) (fun g' z0 z1 => I54 g' z0 z1 ∧ μ54 g' z0 z1 < μ6 g x4 x6) (fun g' z0 z1 => I86 g' z0 z1 ∧ μ86 g' z0 z1 < μ6 g x4 x6) (fun g' z0 z1 z2 => I100 g' z0 z1 z2 ∧ μ100 g' z0 z1 z2 < μ6 g x4 x6) (fun g' z0 z1 z2 => I147 g' z0 z1 z2 ∧ μ147 g' z0 z1 z2 < μ6 g x4 x6) (fun g' z0 z1 z2 => I180 g' z0 z1 z2 ∧ μ180 g' z0 z1 z2 < μ6 g x4 x6) (fun g' z0 z1 z2 z3 => I194 g' z0 z1 z2 z3 ∧ μ194 g' z0 z1 z2 z3 < μ6 g x4 x6) (fun g' z0 z1 z2 => I234 g' z0 z1 z2 ∧ μ234 g' z0 z1 z2 < μ6 g x4 x6) K g x4 x6)
  (h54 : ∀ (g : St) (x4 : Int64) (x6 : Int32) , I54 g x4 x6 → bX8_digestLoaf_54 P a p1 p3 (fun g' z0 z1 => I6 g' z0 z1 ∧ μ6 g' z0 z1 < μ54 g x4 x6) (fun g' z0 z1 => I54 g' z0 z1 ∧ μ54 g' z0 z1 < μ54 g x4 x6) (fun g' z0 z1 => I86 g' z0 z1 ∧ μ86 g' z0 z1 < μ54 g x4 x6) (fun g' z0 z1 z2 => I100 g' z0 z1 z2 ∧ μ100 g' z0 z1 z2 < μ54 g x4 x6) (fun g' z0 z1 z2 => I147 g' z0 z1 z2 ∧ μ147 g' z0 z1 z2 < μ54 g x4 x6) (fun g' z0 z1 z2 => I180 g' z0 z1 z2 ∧ μ180 g' z0 z1 z2 < μ54 g x4 x6) (fun g' z0 z1 z2 z3 => I194 g' z0 z1 z2 z3 ∧ μ194 g' z0 z1 z2 z3 < μ54 g x4 x6) (fun g' z0 z1 z2 => I234 g' z0 z1 z2 ∧ μ234 g' z0 z1 z2 < μ54 g x4 x6) K g x4 x6)
  (h86 : ∀ (g : St) (x4 : Int64) (x6 : Int32) , I86 g x4 x6 → bX8_digestLoaf_86 P a p1 p3 (fun g' z0 z1 => I6 g' z0 z1 ∧ μ6 g' z0 z1 < μ86 g x4 x6) (fun g' z0 z1 => I54 g' z0 z1 ∧ μ54 g' z0 z1 < μ86 g x4 x6) (fun g' z0 z1 => I86 g' z0 z1 ∧ μ86 g' z0 z1 < μ86 g x4 x6) (fun g' z0 z1 z2 => I100 g' z0 z1 z2 ∧ μ100 g' z0 z1 z2 < μ86 g x4 x6) (fun g' z0 z1 z2 => I147 g' z0 z1 z2 ∧ μ147 g' z0 z1 z2 < μ86 g x4 x6) (fun g' z0 z1 z2 => I180 g' z0 z1 z2 ∧ μ180 g' z0 z1 z2 < μ86 g x4 x6) (fun g' z0 z1 z2 z3 => I194 g' z0 z1 z2 z3 ∧ μ194 g' z0 z1 z2 z3 < μ86 g x4 x6) (fun g' z0 z1 z2 => I234 g' z0 z1 z2 ∧ μ234 g' z0 z1 z2 < μ86 g x4 x6) K g x4 x6)
  (h100 : ∀ (g : St) (x4 : Int64) (x6 : Int32) (x7 : Int32) , I100 g x4 x6 x7 → bX8_digestLoaf_100 P a p1 p3 (fun g' z0 z1 => I6 g' z0 z1 ∧ μ6 g' z0 z1 < μ100 g x4 x6 x7) (fun g' z0 z1 => I54 g' z0 z1 ∧ μ54 g' z0 z1 < μ100 g x4 x6 x7) (fun g' z0 z1 => I86 g' z0 z1 ∧ μ86 g' z0 z1 < μ100 g x4 x6 x7) (fun g' z0 z1 z2 => I100 g' z0 z1 z2 ∧ μ100 g' z0 z1 z2 < μ100 g x4 x6 x7) (fun g' z0 z1 z2 => I147 g' z0 z1 z2 ∧ μ147 g' z0 z1 z2 < μ100 g x4 x6 x7) (fun g' z0 z1 z2 => I180 g' z0 z1 z2 ∧ μ180 g' z0 z1 z2 < μ100 g x4 x6 x7) (fun g' z0 z1 z2 z3 => I194 g' z0 z1 z2 z3 ∧ μ194 g' z0 z1 z2 z3 < μ100 g x4 x6 x7) (fun g' z0 z1 z2 => I234 g' z0 z1 z2 ∧ μ234 g' z0 z1 z2 < μ100 g x4 x6 x7) K g x4 x6 x7)
  (h147 : ∀ (g : St) (x4 : Int64) (x6 : Int32) (x7 : Int32) , I147 g x4 x6 x7 → bX8_digestLoaf_147 P a p1 p3 (fun g' z0 z1 => I6 g' z0 z1 ∧ μ6 g' z0 z1 < μ147 g x4 x6 x7) (fun g' z0 z1 => I54 g' z0 z1 ∧ μ54 g' z0 z1 < μ147 g x4 x6 x7) (fun g' z0 z1 => I86 g' z0 z1 ∧ μ86 g' z0 z1 < μ147 g x4 x6 x7) (fun g' z0 z1 z2 => I100 g' z0 z1 z2 ∧ μ100 g' z0 z1 z2 < μ147 g x4 x6 x7) (fun g' z0 z1 z2 => I147 g' z0 z1 z2 ∧ μ147 g' z0 z1 z2 < μ147 g x4 x6 x7) (fun g' z0 z1 z2 => I180 g' z0 z1 z2 ∧ μ180 g' z0 z1 z2 < μ147 g x4 x6 x7) (fun g' z0 z1 z2 z3 => I194 g' z0 z1 z2 z3 ∧ μ194 g' z0 z1 z2 z3 < μ147 g x4 x6 x7) (fun g' z0 z1 z2 => I234 g' z0 z1 z2 ∧ μ234 g' z0 z1 z2 < μ147 g x4 x6 x7) K g x4 x6 x7)
  (h180 : ∀ (g : St) (x4 : Int64) (x6 : Int32) (x7 : Int32) , I180 g x4 x6 x7 → bX8_digestLoaf_180 P a p1 p3 (fun g' z0 z1 => I6 g' z0 z1 ∧ μ6 g' z0 z1 < μ180 g x4 x6 x7) (fun g' z0 z1 => I54 g' z0 z1 ∧ μ54 g' z0 z1 < μ180 g x4 x6 x7) (fun g' z0 z1 => I86 g' z0 z1 ∧ μ86 g' z0 z1 < μ180 g x4 x6 x7) (fun g' z0 z1 z2 => I100 g' z0 z1 z2 ∧ μ100 g' z0 z1 z2 < μ180 g x4 x6 x7) (fun g' z0 z1 z2 => I147 g' z0 z1 z2 ∧ μ147 g' z0 z1 z2 < μ180 g x4 x6 x7) (fun g' z0 z1 z2 => I180 g' z0 z1 z2 ∧ μ180 g' z0 z1 z2 < μ180 g x4 x6 x7) (fun g' z0 z1 z2 z3 => I194 g' z0 z1 z2 z3 ∧ μ194 g' z0 z1 z2 z3 < μ180 g x4 x6 x7) (fun g' z0 z1 z2 => I234 g' z0 z1 z2 ∧ μ234 g' z0 z1 z2 < μ180 g x4 x6 x7) K g x4 x6 x7)
  (h194 : ∀ (g : St) (x4 : Int64) (x6 : Int32) (x7 : Int32) (x8 : Int32) , I194 g x4 x6 x7 x8 → bX8_digestLoaf_194 P a p1 p3 (fun g' z0 z1 => I6 g' z0 z1 ∧ μ6 g' z0 z1 < μ194 g x4 x6 x7 x8) (fun g' z0 z1 => I54 g' z0 z1 ∧ μ54 g' z0 z1 < μ194 g x4 x6 x7 x8) (fun g' z0 z1 => I86 g' z0 z1 ∧ μ86 g' z0 z1 < μ194 g x4 x6 x7 x8) (fun g' z0 z1 z2 => I100 g' z0 z1 z2 ∧ μ100 g' z0 z1 z2 < μ194 g x4 x6 x7 x8) (fun g' z0 z1 z2 => I147 g' z0 z1 z2 ∧ μ147 g' z0 z1 z2 < μ194 g x4 x6 x7 x8) (fun g' z0 z1 z2 => I180 g' z0 z1 z2 ∧ μ180 g' z0 z1 z2 < μ194 g x4 x6 x7 x8) (fun g' z0 z1 z2 z3 => I194 g' z0 z1 z2 z3 ∧ μ194 g' z0 z1 z2 z3 < μ194 g x4 x6 x7 x8) (fun g' z0 z1 z2 => I234 g' z0 z1 z2 ∧ μ234 g' z0 z1 z2 < μ194 g x4 x6 x7 x8) K g x4 x6 x7 x8)
  (h234 : ∀ (g : St) (x4 : Int64) (x6 : Int32) (x7 : Int32) , I234 g x4 x6 x7 → bX8_digestLoaf_234 P a p1 p3 (fun g' z0 z1 => I6 g' z0 z1 ∧ μ6 g' z0 z1 < μ234 g x4 x6 x7) (fun g' z0 z1 => I54 g' z0 z1 ∧ μ54 g' z0 z1 < μ234 g x4 x6 x7) (fun g' z0 z1 => I86 g' z0 z1 ∧ μ86 g' z0 z1 < μ234 g x4 x6 x7) (fun g' z0 z1 z2 => I100 g' z0 z1 z2 ∧ μ100 g' z0 z1 z2 < μ234 g x4 x6 x7) (fun g' z0 z1 z2 => I147 g' z0 z1 z2 ∧ μ147 g' z0 z1 z2 < μ234 g x4 x6 x7) (fun g' z0 z1 z2 => I180 g' z0 z1 z2 ∧ μ180 g' z0 z1 z2 < μ234 g x4 x6 x7) (fun g' z0 z1 z2 z3 => I194 g' z0 z1 z2 z3 ∧ μ194 g' z0 z1 z2 z3 < μ234 g x4 x6 x7) (fun g' z0 z1 z2 => I234 g' z0 z1 z2 ∧ μ234 g' z0 z1 z2 < μ234 g x4 x6 x7) K g x4 x6 x7) :
  Met l yX8_digestLoaf (wU yX8_digestLoaf cX8_digestLoaf 9 (some .long)) rmX8_digestLoaf (PcW G P f sz [.ref a, .long p1, .int p3]) (QcL G P sz K) 0 0 (frA P sz) := by
  refine v_met (own := RX8) [.ref a, .long p1, .int p3] (by decide +kernel) rfl (Nat.le_of_ble_eq_true rfl) (fun p e s m args below meth c hsz o hr hnm => ?_)
  refine v_lv (lv2 := [(0, .ref a), (1, .long p1), (3, .int p3)]) rfl ?_
  have main : ∀ n : Nat, (∀ (g : St) (x4 : Int64) (x6 : Int32) , I6 g x4 x6 → μ6 g x4 x6 < n → V p l e rmX8_digestLoaf s m args below meth c 9 G (frA P sz) (MQ below (QcL G P sz K) args s 0 0 (frA P sz)) 0 0 P [(0, .ref a), (1, .long p1), (3, .int p3), (4, .long x4), (6, .int x6)] [] 6 g) ∧ (∀ (g : St) (x4 : Int64) (x6 : Int32) , I54 g x4 x6 → μ54 g x4 x6 < n → V p l e rmX8_digestLoaf s m args below meth c 9 G (frA P sz) (MQ below (QcL G P sz K) args s 0 0 (frA P sz)) 0 0 P [(0, .ref a), (1, .long p1), (3, .int p3), (4, .long x4), (6, .int x6)] [] 54 g) ∧ (∀ (g : St) (x4 : Int64) (x6 : Int32) , I86 g x4 x6 → μ86 g x4 x6 < n → V p l e rmX8_digestLoaf s m args below meth c 9 G (frA P sz) (MQ below (QcL G P sz K) args s 0 0 (frA P sz)) 0 0 P [(0, .ref a), (1, .long p1), (3, .int p3), (4, .long x4), (6, .int x6)] [] 86 g) ∧ (∀ (g : St) (x4 : Int64) (x6 : Int32) (x7 : Int32) , I100 g x4 x6 x7 → μ100 g x4 x6 x7 < n → V p l e rmX8_digestLoaf s m args below meth c 9 G (frA P sz) (MQ below (QcL G P sz K) args s 0 0 (frA P sz)) 0 0 P [(0, .ref a), (1, .long p1), (3, .int p3), (4, .long x4), (6, .int x6), (7, .int x7)] [] 100 g) ∧ (∀ (g : St) (x4 : Int64) (x6 : Int32) (x7 : Int32) , I147 g x4 x6 x7 → μ147 g x4 x6 x7 < n → V p l e rmX8_digestLoaf s m args below meth c 9 G (frA P sz) (MQ below (QcL G P sz K) args s 0 0 (frA P sz)) 0 0 P [(0, .ref a), (1, .long p1), (3, .int p3), (4, .long x4), (6, .int x6), (7, .int x7)] [] 147 g) ∧ (∀ (g : St) (x4 : Int64) (x6 : Int32) (x7 : Int32) , I180 g x4 x6 x7 → μ180 g x4 x6 x7 < n → V p l e rmX8_digestLoaf s m args below meth c 9 G (frA P sz) (MQ below (QcL G P sz K) args s 0 0 (frA P sz)) 0 0 P [(0, .ref a), (1, .long p1), (3, .int p3), (4, .long x4), (6, .int x6), (7, .int x7)] [] 180 g) ∧ (∀ (g : St) (x4 : Int64) (x6 : Int32) (x7 : Int32) (x8 : Int32) , I194 g x4 x6 x7 x8 → μ194 g x4 x6 x7 x8 < n → V p l e rmX8_digestLoaf s m args below meth c 9 G (frA P sz) (MQ below (QcL G P sz K) args s 0 0 (frA P sz)) 0 0 P [(0, .ref a), (1, .long p1), (3, .int p3), (4, .long x4), (6, .int x6), (7, .int x7), (8, .int x8)] [] 194 g) ∧ (∀ (g : St) (x4 : Int64) (x6 : Int32) (x7 : Int32) , I234 g x4 x6 x7 → μ234 g x4 x6 x7 < n → V p l e rmX8_digestLoaf s m args below meth c 9 G (frA P sz) (MQ below (QcL G P sz K) args s 0 0 (frA P sz)) 0 0 P [(0, .ref a), (1, .long p1), (3, .int p3), (4, .long x4), (6, .int x6), (7, .int x7)] [] 234 g) := by
    intro n
    induction n with
    | zero => exact ⟨fun g x4 x6 hI hm => absurd hm (Nat.not_lt_zero _), fun g x4 x6 hI hm => absurd hm (Nat.not_lt_zero _), fun g x4 x6 hI hm => absurd hm (Nat.not_lt_zero _), fun g x4 x6 x7 hI hm => absurd hm (Nat.not_lt_zero _), fun g x4 x6 x7 hI hm => absurd hm (Nat.not_lt_zero _), fun g x4 x6 x7 hI hm => absurd hm (Nat.not_lt_zero _), fun g x4 x6 x7 x8 hI hm => absurd hm (Nat.not_lt_zero _), fun g x4 x6 x7 hI hm => absurd hm (Nat.not_lt_zero _)⟩
    | succ n ih =>
      refine ⟨?_, ?_, ?_, ?_, ?_, ?_, ?_, ?_⟩
      · intro g x4 x6 hI hm
        have h := h6 g x4 x6 hI
        clear hI
        unfold bX8_digestLoaf_6 at h
        refine v_iload o 4 dX8_digestLoaf_6 rfl ?_
        refine v_bipush o (v := 11) dX8_digestLoaf_8 (by decide) ?_
        refine v_icmp_ge o (tgt := 36) dX8_digestLoaf_10 (by decide) (fun c10 => ?_) (fun c10 => ?_)
        · replace h := h.1 c10
          refine v_ldc2 o (v := 31) dX8_digestLoaf_36 (mU 1407 (by decide +kernel) rfl) ?_
          refine v_lload o 3 dX8_digestLoaf_39 rfl ?_
          refine v_lmul o dX8_digestLoaf_41 ?_
          refine v_aload_n o 0 dX8_digestLoaf_42 rfl ?_
          refine v_iload_n o 2 dX8_digestLoaf_43 rfl ?_
          refine v_cVi o [.int p3] [.long (31 * x4)] (fun sz => metX8_periodOf l G P g sz a ha p3 _ h) (cwX8_250 o.1.2.2.2.2 (by decide)) ⟨_, _, rfl⟩ (by decide) (wfModel_o ha) rfl (Nat.le_of_ble_eq_true rfl) ⟨Nat.le_of_ble_eq_true rfl, Nat.le_of_ble_eq_true rfl⟩ dX8_digestLoaf_44 rfl (fun r44 g44 h => ?_)
          refine v_i2l o dX8_digestLoaf_47 ?_
          refine v_ladd o dX8_digestLoaf_48 ?_
          refine v_topl (fun x4_49 ex4_49 => ?_)
          replace h := h x4_49 ex4_49
          refine v_lstore o (lv' := [(4, .long x4_49), (0, .ref a), (1, .long p1), (3, .int p3), (6, .int x6)]) dX8_digestLoaf_49 (by decide) rfl ?_
          refine v_iconst o (v := 0) dX8_digestLoaf_51 (by decide) ?_
          refine v_istore o (lv' := [(6, .int 0), (4, .long x4_49), (0, .ref a), (1, .long p1), (3, .int p3)]) dX8_digestLoaf_52 (by decide) rfl ?_
          refine v_sub [2, 3, 4, 1, 0] (lv2 := [(0, .ref a), (1, .long p1), (3, .int p3), (4, .long x4_49), (6, .int 0)]) rfl ?_
          exact ih.2.1 g44 x4_49 0  h.1 (by have := h.2; omega)
        · replace h := h.2 c10
          refine v_ldc2 o (v := 31) dX8_digestLoaf_13 (mU 1407 (by decide +kernel) rfl) ?_
          refine v_lload o 3 dX8_digestLoaf_16 rfl ?_
          refine v_lmul o dX8_digestLoaf_18 ?_
          refine v_aload_n o 0 dX8_digestLoaf_19 rfl ?_
          refine v_iload_n o 2 dX8_digestLoaf_20 rfl ?_
          refine v_iload o 4 dX8_digestLoaf_21 rfl ?_
          refine v_cVi o [.int p3, .int x6] [.long (31 * x4)] (fun sz => metX8_tellsLoaf l G P g sz a ha p3 x6 _ h) (cwX8_226 o.1.2.2.2.2 (by decide)) ⟨_, _, rfl⟩ (by decide) (wfModel_o ha) rfl (Nat.le_of_ble_eq_true rfl) ⟨Nat.le_of_ble_eq_true rfl, Nat.le_of_ble_eq_true rfl⟩ dX8_digestLoaf_23 rfl (fun r23 g23 h => ?_)
          refine v_i2l o dX8_digestLoaf_26 ?_
          refine v_ladd o dX8_digestLoaf_27 ?_
          refine v_topl (fun x4_28 ex4_28 => ?_)
          replace h := h x4_28 ex4_28
          refine v_lstore o (lv' := [(4, .long x4_28), (0, .ref a), (1, .long p1), (3, .int p3), (6, .int x6)]) dX8_digestLoaf_28 (by decide) rfl ?_
          obtain ⟨x6_30, ex6_30⟩ : ∃ y : Int32, y = x6 + 1 := ⟨_, rfl⟩
          replace h := h x6_30 ex6_30
          refine v_iinc o (v := x6_30) (lv' := [(6, .int x6_30), (4, .long x4_28), (0, .ref a), (1, .long p1), (3, .int p3)]) 4 dX8_digestLoaf_30 rfl (by rw [ex6_30]; rfl) (by decide) rfl ?_
          refine v_goto o (tgt := 6) dX8_digestLoaf_33 (by decide) ?_
          refine v_sub [2, 3, 4, 1, 0] (lv2 := [(0, .ref a), (1, .long p1), (3, .int p3), (4, .long x4_28), (6, .int x6_30)]) rfl ?_
          exact ih.1 g23 x4_28 x6_30  h.1 (by have := h.2; omega)
      · intro g x4 x6 hI hm
        have h := h54 g x4 x6 hI
        clear hI
        unfold bX8_digestLoaf_54 at h
        refine v_iload o 4 dX8_digestLoaf_54 rfl ?_
        refine v_iconst o (v := 4) dX8_digestLoaf_56 (by decide) ?_
        refine v_icmp_ge o (tgt := 83) dX8_digestLoaf_57 (by decide) (fun c57 => ?_) (fun c57 => ?_)
        · replace h := h.1 c57
          refine v_iconst o (v := 0) dX8_digestLoaf_83 (by decide) ?_
          refine v_istore o (lv' := [(6, .int 0), (0, .ref a), (1, .long p1), (3, .int p3), (4, .long x4)]) dX8_digestLoaf_84 (by decide) rfl ?_
          refine v_sub [1, 2, 3, 4, 0] (lv2 := [(0, .ref a), (1, .long p1), (3, .int p3), (4, .long x4), (6, .int 0)]) rfl ?_
          exact ih.2.2.1 g x4 0  h.1 (by have := h.2; omega)
        · replace h := h.2 c57
          refine v_ldc2 o (v := 31) dX8_digestLoaf_60 (mU 1407 (by decide +kernel) rfl) ?_
          refine v_lload o 3 dX8_digestLoaf_63 rfl ?_
          refine v_lmul o dX8_digestLoaf_65 ?_
          refine v_aload_n o 0 dX8_digestLoaf_66 rfl ?_
          refine v_iload_n o 2 dX8_digestLoaf_67 rfl ?_
          refine v_iload o 4 dX8_digestLoaf_68 rfl ?_
          refine v_cVi o [.int p3, .int x6] [.long (31 * x4)] (fun sz => metX8_looseBehind l G P g sz a ha p3 x6 _ h) (cwX8_241 o.1.2.2.2.2 (by decide)) ⟨_, _, rfl⟩ (by decide) (wfModel_o ha) rfl (Nat.le_of_ble_eq_true rfl) ⟨Nat.le_of_ble_eq_true rfl, Nat.le_of_ble_eq_true rfl⟩ dX8_digestLoaf_70 rfl (fun r70 g70 h => ?_)
          refine v_i2l o dX8_digestLoaf_73 ?_
          refine v_ladd o dX8_digestLoaf_74 ?_
          refine v_topl (fun x4_75 ex4_75 => ?_)
          replace h := h x4_75 ex4_75
          refine v_lstore o (lv' := [(4, .long x4_75), (0, .ref a), (1, .long p1), (3, .int p3), (6, .int x6)]) dX8_digestLoaf_75 (by decide) rfl ?_
          obtain ⟨x6_77, ex6_77⟩ : ∃ y : Int32, y = x6 + 1 := ⟨_, rfl⟩
          replace h := h x6_77 ex6_77
          refine v_iinc o (v := x6_77) (lv' := [(6, .int x6_77), (4, .long x4_75), (0, .ref a), (1, .long p1), (3, .int p3)]) 4 dX8_digestLoaf_77 rfl (by rw [ex6_77]; rfl) (by decide) rfl ?_
          refine v_goto o (tgt := 54) dX8_digestLoaf_80 (by decide) ?_
          refine v_sub [2, 3, 4, 1, 0] (lv2 := [(0, .ref a), (1, .long p1), (3, .int p3), (4, .long x4_75), (6, .int x6_77)]) rfl ?_
          exact ih.2.1 g70 x4_75 x6_77  h.1 (by have := h.2; omega)
      · intro g x4 x6 hI hm
        have h := h86 g x4 x6 hI
        clear hI
        unfold bX8_digestLoaf_86 at h
        refine v_iload o 4 dX8_digestLoaf_86 rfl ?_
        refine v_aload_n o 0 dX8_digestLoaf_88 rfl ?_
        refine v_iload_n o 2 dX8_digestLoaf_89 rfl ?_
        refine v_iconst o (v := 1) dX8_digestLoaf_90 (by decide) ?_
        refine v_cVi o [.int p3, .int 1] [.int x6] (fun sz => metX8_of l G P g sz a ha p3 1 _ h) (cwX8_51 o.1.2.2.2.2 (by decide)) ⟨_, _, rfl⟩ (by decide) (wfModel_o ha) rfl (Nat.le_of_ble_eq_true rfl) ⟨Nat.le_of_ble_eq_true rfl, Nat.le_of_ble_eq_true rfl⟩ dX8_digestLoaf_91 rfl (fun r91 g91 h => ?_)
        refine v_icmp_ge o (tgt := 137) dX8_digestLoaf_94 (by decide) (fun c94 => ?_) (fun c94 => ?_)
        · replace h := h.1 c94
          refine v_aload_n o 0 dX8_digestLoaf_137 rfl ?_
          refine v_iload_n o 2 dX8_digestLoaf_138 rfl ?_
          refine v_cVi o [.int p3] [] (fun sz => metX8_looseLength l G P g91 sz a ha p3 _ h) (cwX8_217 o.1.2.2.2.2 (by decide)) ⟨_, _, rfl⟩ (by decide) (wfModel_o ha) rfl (Nat.le_of_ble_eq_true rfl) ⟨Nat.le_of_ble_eq_true rfl, Nat.le_of_ble_eq_true rfl⟩ dX8_digestLoaf_139 rfl (fun r139 g139 h => ?_)
          refine v_istore o (lv' := [(6, .int r139), (0, .ref a), (1, .long p1), (3, .int p3), (4, .long x4)]) dX8_digestLoaf_142 (by decide) rfl ?_
          refine v_iconst o (v := 0) dX8_digestLoaf_144 (by decide) ?_
          refine v_istore o (lv' := [(7, .int 0), (6, .int r139), (0, .ref a), (1, .long p1), (3, .int p3), (4, .long x4)]) dX8_digestLoaf_145 (by decide) rfl ?_
          refine v_sub [2, 3, 4, 5, 1, 0] (lv2 := [(0, .ref a), (1, .long p1), (3, .int p3), (4, .long x4), (6, .int r139), (7, .int 0)]) rfl ?_
          exact ih.2.2.2.2.1 g139 x4 r139 0  h.1 (by have := h.2; omega)
        · replace h := h.2 c94
          refine v_iconst o (v := 0) dX8_digestLoaf_97 (by decide) ?_
          refine v_istore o (lv' := [(7, .int 0), (0, .ref a), (1, .long p1), (3, .int p3), (4, .long x4), (6, .int x6)]) dX8_digestLoaf_98 (by decide) rfl ?_
          refine v_sub [1, 2, 3, 4, 5, 0] (lv2 := [(0, .ref a), (1, .long p1), (3, .int p3), (4, .long x4), (6, .int x6), (7, .int 0)]) rfl ?_
          exact ih.2.2.2.1 g91 x4 x6 0  h.1 (by have := h.2; omega)
      · intro g x4 x6 x7 hI hm
        have h := h100 g x4 x6 x7 hI
        clear hI
        unfold bX8_digestLoaf_100 at h
        refine v_iload o 5 dX8_digestLoaf_100 rfl ?_
        refine v_iconst o (v := 4) dX8_digestLoaf_102 (by decide) ?_
        refine v_icmp_ge o (tgt := 131) dX8_digestLoaf_103 (by decide) (fun c103 => ?_) (fun c103 => ?_)
        · replace h := h.1 c103
          obtain ⟨x6_131, ex6_131⟩ : ∃ y : Int32, y = x6 + 1 := ⟨_, rfl⟩
          replace h := h x6_131 ex6_131
          refine v_iinc o (v := x6_131) (lv' := [(6, .int x6_131), (0, .ref a), (1, .long p1), (3, .int p3), (4, .long x4), (7, .int x7)]) 4 dX8_digestLoaf_131 rfl (by rw [ex6_131]; rfl) (by decide) rfl ?_
          refine v_goto o (tgt := 86) dX8_digestLoaf_134 (by decide) ?_
          refine v_sub [1, 2, 3, 4, 0] (lv2 := [(0, .ref a), (1, .long p1), (3, .int p3), (4, .long x4), (6, .int x6_131)]) rfl ?_
          exact ih.2.2.1 g x4 x6_131  h.1 (by have := h.2; omega)
        · replace h := h.2 c103
          refine v_ldc2 o (v := 31) dX8_digestLoaf_106 (mU 1407 (by decide +kernel) rfl) ?_
          refine v_lload o 3 dX8_digestLoaf_109 rfl ?_
          refine v_lmul o dX8_digestLoaf_111 ?_
          refine v_aload_n o 0 dX8_digestLoaf_112 rfl ?_
          refine v_iload_n o 2 dX8_digestLoaf_113 rfl ?_
          refine v_iload o 4 dX8_digestLoaf_114 rfl ?_
          refine v_iload o 5 dX8_digestLoaf_116 rfl ?_
          refine v_cVi o [.int p3, .int x6, .int x7] [.long (31 * x4)] (fun sz => metX8_tellsCrossing l G P g sz a ha p3 x6 x7 _ h) (cwX8_186 o.1.2.2.2.2 (by decide)) ⟨_, _, rfl⟩ (by decide) (wfModel_o ha) rfl (Nat.le_of_ble_eq_true rfl) ⟨Nat.le_of_ble_eq_true rfl, Nat.le_of_ble_eq_true rfl⟩ dX8_digestLoaf_118 rfl (fun r118 g118 h => ?_)
          refine v_i2l o dX8_digestLoaf_121 ?_
          refine v_ladd o dX8_digestLoaf_122 ?_
          refine v_topl (fun x4_123 ex4_123 => ?_)
          replace h := h x4_123 ex4_123
          refine v_lstore o (lv' := [(4, .long x4_123), (0, .ref a), (1, .long p1), (3, .int p3), (6, .int x6), (7, .int x7)]) dX8_digestLoaf_123 (by decide) rfl ?_
          obtain ⟨x7_125, ex7_125⟩ : ∃ y : Int32, y = x7 + 1 := ⟨_, rfl⟩
          replace h := h x7_125 ex7_125
          refine v_iinc o (v := x7_125) (lv' := [(7, .int x7_125), (4, .long x4_123), (0, .ref a), (1, .long p1), (3, .int p3), (6, .int x6)]) 5 dX8_digestLoaf_125 rfl (by rw [ex7_125]; rfl) (by decide) rfl ?_
          refine v_goto o (tgt := 100) dX8_digestLoaf_128 (by decide) ?_
          refine v_sub [2, 3, 4, 1, 5, 0] (lv2 := [(0, .ref a), (1, .long p1), (3, .int p3), (4, .long x4_123), (6, .int x6), (7, .int x7_125)]) rfl ?_
          exact ih.2.2.2.1 g118 x4_123 x6 x7_125  h.1 (by have := h.2; omega)
      · intro g x4 x6 x7 hI hm
        have h := h147 g x4 x6 x7 hI
        clear hI
        unfold bX8_digestLoaf_147 at h
        refine v_iload o 5 dX8_digestLoaf_147 rfl ?_
        refine v_iload o 4 dX8_digestLoaf_149 rfl ?_
        refine v_icmp_ge o (tgt := 177) dX8_digestLoaf_151 (by decide) (fun c151 => ?_) (fun c151 => ?_)
        · replace h := h.1 c151
          refine v_iconst o (v := 0) dX8_digestLoaf_177 (by decide) ?_
          refine v_istore o (lv' := [(7, .int 0), (0, .ref a), (1, .long p1), (3, .int p3), (4, .long x4), (6, .int x6)]) dX8_digestLoaf_178 (by decide) rfl ?_
          refine v_sub [1, 2, 3, 4, 5, 0] (lv2 := [(0, .ref a), (1, .long p1), (3, .int p3), (4, .long x4), (6, .int x6), (7, .int 0)]) rfl ?_
          exact ih.2.2.2.2.2.1 g x4 x6 0  h.1 (by have := h.2; omega)
        · replace h := h.2 c151
          refine v_ldc2 o (v := 31) dX8_digestLoaf_154 (mU 1407 (by decide +kernel) rfl) ?_
          refine v_lload o 3 dX8_digestLoaf_157 rfl ?_
          refine v_lmul o dX8_digestLoaf_159 ?_
          refine v_aload_n o 0 dX8_digestLoaf_160 rfl ?_
          refine v_gfR o lkX8_22 (by decide) (wfModel_o ha) (wfModel_r8 ha) dX8_digestLoaf_161 ?_
          refine v_iload o 5 dX8_digestLoaf_164 rfl ?_
          refine v_iald o (wfModel_t8 ha) (wfModel_n8 ha) h.1 dX8_digestLoaf_166 ?_
          replace h := h.2
          refine v_i2l o dX8_digestLoaf_167 ?_
          refine v_ladd o dX8_digestLoaf_168 ?_
          refine v_topl (fun x4_169 ex4_169 => ?_)
          replace h := h x4_169 ex4_169
          refine v_lstore o (lv' := [(4, .long x4_169), (0, .ref a), (1, .long p1), (3, .int p3), (6, .int x6), (7, .int x7)]) dX8_digestLoaf_169 (by decide) rfl ?_
          obtain ⟨x7_171, ex7_171⟩ : ∃ y : Int32, y = x7 + 1 := ⟨_, rfl⟩
          replace h := h x7_171 ex7_171
          refine v_iinc o (v := x7_171) (lv' := [(7, .int x7_171), (4, .long x4_169), (0, .ref a), (1, .long p1), (3, .int p3), (6, .int x6)]) 5 dX8_digestLoaf_171 rfl (by rw [ex7_171]; rfl) (by decide) rfl ?_
          refine v_goto o (tgt := 147) dX8_digestLoaf_174 (by decide) ?_
          refine v_sub [2, 3, 4, 1, 5, 0] (lv2 := [(0, .ref a), (1, .long p1), (3, .int p3), (4, .long x4_169), (6, .int x6), (7, .int x7_171)]) rfl ?_
          exact ih.2.2.2.2.1 g x4_169 x6 x7_171  h.1 (by have := h.2; omega)
      · intro g x4 x6 x7 hI hm
        have h := h180 g x4 x6 x7 hI
        clear hI
        unfold bX8_digestLoaf_180 at h
        refine v_iload o 5 dX8_digestLoaf_180 rfl ?_
        refine v_aload_n o 0 dX8_digestLoaf_182 rfl ?_
        refine v_iload_n o 2 dX8_digestLoaf_183 rfl ?_
        refine v_iconst o (v := 0) dX8_digestLoaf_184 (by decide) ?_
        refine v_cVi o [.int p3, .int 0] [.int x7] (fun sz => metX8_of l G P g sz a ha p3 0 _ h) (cwX8_51 o.1.2.2.2.2 (by decide)) ⟨_, _, rfl⟩ (by decide) (wfModel_o ha) rfl (Nat.le_of_ble_eq_true rfl) ⟨Nat.le_of_ble_eq_true rfl, Nat.le_of_ble_eq_true rfl⟩ dX8_digestLoaf_185 rfl (fun r185 g185 h => ?_)
        refine v_icmp_ge o (tgt := 231) dX8_digestLoaf_188 (by decide) (fun c188 => ?_) (fun c188 => ?_)
        · replace h := h.1 c188
          refine v_iconst o (v := 0) dX8_digestLoaf_231 (by decide) ?_
          refine v_istore o (lv' := [(7, .int 0), (0, .ref a), (1, .long p1), (3, .int p3), (4, .long x4), (6, .int x6)]) dX8_digestLoaf_232 (by decide) rfl ?_
          refine v_sub [1, 2, 3, 4, 5, 0] (lv2 := [(0, .ref a), (1, .long p1), (3, .int p3), (4, .long x4), (6, .int x6), (7, .int 0)]) rfl ?_
          exact ih.2.2.2.2.2.2.2 g185 x4 x6 0  h.1 (by have := h.2; omega)
        · replace h := h.2 c188
          refine v_iconst o (v := 0) dX8_digestLoaf_191 (by decide) ?_
          refine v_istore o (lv' := [(8, .int 0), (0, .ref a), (1, .long p1), (3, .int p3), (4, .long x4), (6, .int x6), (7, .int x7)]) dX8_digestLoaf_192 (by decide) rfl ?_
          refine v_sub [1, 2, 3, 4, 5, 6, 0] (lv2 := [(0, .ref a), (1, .long p1), (3, .int p3), (4, .long x4), (6, .int x6), (7, .int x7), (8, .int 0)]) rfl ?_
          exact ih.2.2.2.2.2.2.1 g185 x4 x6 x7 0  h.1 (by have := h.2; omega)
      · intro g x4 x6 x7 x8 hI hm
        have h := h194 g x4 x6 x7 x8 hI
        clear hI
        unfold bX8_digestLoaf_194 at h
        refine v_iload o 6 dX8_digestLoaf_194 rfl ?_
        refine v_iconst o (v := 5) dX8_digestLoaf_196 (by decide) ?_
        refine v_icmp_ge o (tgt := 225) dX8_digestLoaf_197 (by decide) (fun c197 => ?_) (fun c197 => ?_)
        · replace h := h.1 c197
          obtain ⟨x7_225, ex7_225⟩ : ∃ y : Int32, y = x7 + 1 := ⟨_, rfl⟩
          replace h := h x7_225 ex7_225
          refine v_iinc o (v := x7_225) (lv' := [(7, .int x7_225), (0, .ref a), (1, .long p1), (3, .int p3), (4, .long x4), (6, .int x6), (8, .int x8)]) 5 dX8_digestLoaf_225 rfl (by rw [ex7_225]; rfl) (by decide) rfl ?_
          refine v_goto o (tgt := 180) dX8_digestLoaf_228 (by decide) ?_
          refine v_sub [1, 2, 3, 4, 5, 0] (lv2 := [(0, .ref a), (1, .long p1), (3, .int p3), (4, .long x4), (6, .int x6), (7, .int x7_225)]) rfl ?_
          exact ih.2.2.2.2.2.1 g x4 x6 x7_225  h.1 (by have := h.2; omega)
        · replace h := h.2 c197
          refine v_ldc2 o (v := 31) dX8_digestLoaf_200 (mU 1407 (by decide +kernel) rfl) ?_
          refine v_lload o 3 dX8_digestLoaf_203 rfl ?_
          refine v_lmul o dX8_digestLoaf_205 ?_
          refine v_aload_n o 0 dX8_digestLoaf_206 rfl ?_
          refine v_iload_n o 2 dX8_digestLoaf_207 rfl ?_
          refine v_iload o 5 dX8_digestLoaf_208 rfl ?_
          refine v_iload o 6 dX8_digestLoaf_210 rfl ?_
          refine v_cVi o [.int p3, .int x7, .int x8] [.long (31 * x4)] (fun sz => metX8_tellsStrand l G P g sz a ha p3 x7 x8 _ h) (cwX8_192 o.1.2.2.2.2 (by decide)) ⟨_, _, rfl⟩ (by decide) (wfModel_o ha) rfl (Nat.le_of_ble_eq_true rfl) ⟨Nat.le_of_ble_eq_true rfl, Nat.le_of_ble_eq_true rfl⟩ dX8_digestLoaf_212 rfl (fun r212 g212 h => ?_)
          refine v_i2l o dX8_digestLoaf_215 ?_
          refine v_ladd o dX8_digestLoaf_216 ?_
          refine v_topl (fun x4_217 ex4_217 => ?_)
          replace h := h x4_217 ex4_217
          refine v_lstore o (lv' := [(4, .long x4_217), (0, .ref a), (1, .long p1), (3, .int p3), (6, .int x6), (7, .int x7), (8, .int x8)]) dX8_digestLoaf_217 (by decide) rfl ?_
          obtain ⟨x8_219, ex8_219⟩ : ∃ y : Int32, y = x8 + 1 := ⟨_, rfl⟩
          replace h := h x8_219 ex8_219
          refine v_iinc o (v := x8_219) (lv' := [(8, .int x8_219), (4, .long x4_217), (0, .ref a), (1, .long p1), (3, .int p3), (6, .int x6), (7, .int x7)]) 6 dX8_digestLoaf_219 rfl (by rw [ex8_219]; rfl) (by decide) rfl ?_
          refine v_goto o (tgt := 194) dX8_digestLoaf_222 (by decide) ?_
          refine v_sub [2, 3, 4, 1, 5, 6, 0] (lv2 := [(0, .ref a), (1, .long p1), (3, .int p3), (4, .long x4_217), (6, .int x6), (7, .int x7), (8, .int x8_219)]) rfl ?_
          exact ih.2.2.2.2.2.2.1 g212 x4_217 x6 x7 x8_219  h.1 (by have := h.2; omega)
      · intro g x4 x6 x7 hI hm
        have h := h234 g x4 x6 x7 hI
        clear hI
        unfold bX8_digestLoaf_234 at h
        refine v_iload o 5 dX8_digestLoaf_234 rfl ?_
        refine v_aload_n o 0 dX8_digestLoaf_236 rfl ?_
        refine v_gfR o lkX8_7 (by decide) (wfModel_o ha) (wfModel_r1 ha) dX8_digestLoaf_237 ?_
        refine v_iconst o (v := 0) dX8_digestLoaf_240 (by decide) ?_
        refine v_iald o (wfModel_t1 ha) (wfModel_n1 ha) h.1 dX8_digestLoaf_241 ?_
        replace h := h.2
        refine v_icmp_ge o (tgt := 268) dX8_digestLoaf_242 (by decide) (fun c242 => ?_) (fun c242 => ?_)
        · replace h := h.1 c242
          refine v_lload o 3 dX8_digestLoaf_268 rfl ?_
          exact v_lret o rfl hr dX8_digestLoaf_270 h
        · replace h := h.2 c242
          refine v_ldc2 o (v := 31) dX8_digestLoaf_245 (mU 1407 (by decide +kernel) rfl) ?_
          refine v_lload o 3 dX8_digestLoaf_248 rfl ?_
          refine v_lmul o dX8_digestLoaf_250 ?_
          refine v_aload_n o 0 dX8_digestLoaf_251 rfl ?_
          refine v_iload_n o 2 dX8_digestLoaf_252 rfl ?_
          refine v_iload o 5 dX8_digestLoaf_253 rfl ?_
          refine v_cVi o [.int p3, .int x7] [.long (31 * x4)] (fun sz => metX8_likeness l G P g sz a ha p3 x7 _ h) (cwX8_244 o.1.2.2.2.2 (by decide)) ⟨_, _, rfl⟩ (by decide) (wfModel_o ha) rfl (Nat.le_of_ble_eq_true rfl) ⟨Nat.le_of_ble_eq_true rfl, Nat.le_of_ble_eq_true rfl⟩ dX8_digestLoaf_255 rfl (fun r255 g255 h => ?_)
          refine v_i2l o dX8_digestLoaf_258 ?_
          refine v_ladd o dX8_digestLoaf_259 ?_
          refine v_topl (fun x4_260 ex4_260 => ?_)
          replace h := h x4_260 ex4_260
          refine v_lstore o (lv' := [(4, .long x4_260), (0, .ref a), (1, .long p1), (3, .int p3), (6, .int x6), (7, .int x7)]) dX8_digestLoaf_260 (by decide) rfl ?_
          obtain ⟨x7_262, ex7_262⟩ : ∃ y : Int32, y = x7 + 1 := ⟨_, rfl⟩
          replace h := h x7_262 ex7_262
          refine v_iinc o (v := x7_262) (lv' := [(7, .int x7_262), (4, .long x4_260), (0, .ref a), (1, .long p1), (3, .int p3), (6, .int x6)]) 5 dX8_digestLoaf_262 rfl (by rw [ex7_262]; rfl) (by decide) rfl ?_
          refine v_goto o (tgt := 234) dX8_digestLoaf_265 (by decide) ?_
          refine v_sub [2, 3, 4, 1, 5, 0] (lv2 := [(0, .ref a), (1, .long p1), (3, .int p3), (4, .long x4_260), (6, .int x6), (7, .int x7_262)]) rfl ?_
          exact ih.2.2.2.2.2.2.2 g255 x4_260 x6 x7_262  h.1 (by have := h.2; omega)
  unfold vX8_digestLoaf at h
  refine v_lload_n o 1 dX8_digestLoaf_0 rfl ?_
  refine v_lstore o (lv' := [(4, .long p1), (0, .ref a), (1, .long p1), (3, .int p3)]) dX8_digestLoaf_1 (by decide) rfl ?_
  refine v_iconst o (v := 0) dX8_digestLoaf_3 (by decide) ?_
  refine v_istore o (lv' := [(6, .int 0), (4, .long p1), (0, .ref a), (1, .long p1), (3, .int p3)]) dX8_digestLoaf_4 (by decide) rfl ?_
  refine v_sub [2, 3, 4, 1, 0] (lv2 := [(0, .ref a), (1, .long p1), (3, .int p3), (4, .long p1), (6, .int 0)]) rfl ?_
  exact (main (μ6 f p1 0 + 1)).1 f p1 0  h (Nat.lt_succ_self _)
def WX8_digestLoaf (P : Sk) (f : St) (a : Nat) (p1 : Int64) (p3 : Int32) (K : Int64 → St → Prop) : Prop := ∃ (I6 : St → Int64 → Int32 → Prop) (I54 : St → Int64 → Int32 → Prop) (I86 : St → Int64 → Int32 → Prop) (I100 : St → Int64 → Int32 → Int32 → Prop) (I147 : St → Int64 → Int32 → Int32 → Prop) (I180 : St → Int64 → Int32 → Int32 → Prop) (I194 : St → Int64 → Int32 → Int32 → Int32 → Prop) (I234 : St → Int64 → Int32 → Int32 → Prop) (μ6 : St → Int64 → Int32 → Nat) (μ54 : St → Int64 → Int32 → Nat) (μ86 : St → Int64 → Int32 → Nat) (μ100 : St → Int64 → Int32 → Int32 → Nat) (μ147 : St → Int64 → Int32 → Int32 → Nat) (μ180 : St → Int64 → Int32 → Int32 → Nat) (μ194 : St → Int64 → Int32 → Int32 → Int32 → Nat) (μ234 : St → Int64 → Int32 → Int32 → Nat), (vX8_digestLoaf P f a p1 p3 I6 I54 I86 I100 I147 I180 I194 I234 K) ∧ (∀ (g : St) (x4 : Int64) (x6 : Int32) , I6 g x4 x6 → bX8_digestLoaf_6 P a p1 p3 (fun g' z0 z1 => I6 g' z0 z1 ∧ μ6 g' z0 z1 < μ6 g x4 x6) (fun g' z0 z1 => I54 g' z0 z1 ∧ μ54 g' z0 z1 < μ6 g x4 x6) (fun g' z0 z1 => I86 g' z0 z1 ∧ μ86 g' z0 z1 < μ6 g x4 x6) (fun g' z0 z1 z2 => I100 g' z0 z1 z2 ∧ μ100 g' z0 z1 z2 < μ6 g x4 x6) (fun g' z0 z1 z2 => I147 g' z0 z1 z2 ∧ μ147 g' z0 z1 z2 < μ6 g x4 x6) (fun g' z0 z1 z2 => I180 g' z0 z1 z2 ∧ μ180 g' z0 z1 z2 < μ6 g x4 x6) (fun g' z0 z1 z2 z3 => I194 g' z0 z1 z2 z3 ∧ μ194 g' z0 z1 z2 z3 < μ6 g x4 x6) (fun g' z0 z1 z2 => I234 g' z0 z1 z2 ∧ μ234 g' z0 z1 z2 < μ6 g x4 x6) K g x4 x6) ∧ (∀ (g : St) (x4 : Int64) (x6 : Int32) , I54 g x4 x6 → bX8_digestLoaf_54 P a p1 p3 (fun g' z0 z1 => I6 g' z0 z1 ∧ μ6 g' z0 z1 < μ54 g x4 x6) (fun g' z0 z1 => I54 g' z0 z1 ∧ μ54 g' z0 z1 < μ54 g x4 x6) (fun g' z0 z1 => I86 g' z0 z1 ∧ μ86 g' z0 z1 < μ54 g x4 x6) (fun g' z0 z1 z2 => I100 g' z0 z1 z2 ∧ μ100 g' z0 z1 z2 < μ54 g x4 x6) (fun g' z0 z1 z2 => I147 g' z0 z1 z2 ∧ μ147 g' z0 z1 z2 < μ54 g x4 x6) (fun g' z0 z1 z2 => I180 g' z0 z1 z2 ∧ μ180 g' z0 z1 z2 < μ54 g x4 x6) (fun g' z0 z1 z2 z3 => I194 g' z0 z1 z2 z3 ∧ μ194 g' z0 z1 z2 z3 < μ54 g x4 x6) (fun g' z0 z1 z2 => I234 g' z0 z1 z2 ∧ μ234 g' z0 z1 z2 < μ54 g x4 x6) K g x4 x6) ∧ (∀ (g : St) (x4 : Int64) (x6 : Int32) , I86 g x4 x6 → bX8_digestLoaf_86 P a p1 p3 (fun g' z0 z1 => I6 g' z0 z1 ∧ μ6 g' z0 z1 < μ86 g x4 x6) (fun g' z0 z1 => I54 g' z0 z1 ∧ μ54 g' z0 z1 < μ86 g x4 x6) (fun g' z0 z1 => I86 g' z0 z1 ∧ μ86 g' z0 z1 < μ86 g x4 x6) (fun g' z0 z1 z2 => I100 g' z0 z1 z2 ∧ μ100 g' z0 z1 z2 < μ86 g x4 x6) (fun g' z0 z1 z2 => I147 g' z0 z1 z2 ∧ μ147 g' z0 z1 z2 < μ86 g x4 x6) (fun g' z0 z1 z2 => I180 g' z0 z1 z2 ∧ μ180 g' z0 z1 z2 < μ86 g x4 x6) (fun g' z0 z1 z2 z3 => I194 g' z0 z1 z2 z3 ∧ μ194 g' z0 z1 z2 z3 < μ86 g x4 x6) (fun g' z0 z1 z2 => I234 g' z0 z1 z2 ∧ μ234 g' z0 z1 z2 < μ86 g x4 x6) K g x4 x6) ∧ (∀ (g : St) (x4 : Int64) (x6 : Int32) (x7 : Int32) , I100 g x4 x6 x7 → bX8_digestLoaf_100 P a p1 p3 (fun g' z0 z1 => I6 g' z0 z1 ∧ μ6 g' z0 z1 < μ100 g x4 x6 x7) (fun g' z0 z1 => I54 g' z0 z1 ∧ μ54 g' z0 z1 < μ100 g x4 x6 x7) (fun g' z0 z1 => I86 g' z0 z1 ∧ μ86 g' z0 z1 < μ100 g x4 x6 x7) (fun g' z0 z1 z2 => I100 g' z0 z1 z2 ∧ μ100 g' z0 z1 z2 < μ100 g x4 x6 x7) (fun g' z0 z1 z2 => I147 g' z0 z1 z2 ∧ μ147 g' z0 z1 z2 < μ100 g x4 x6 x7) (fun g' z0 z1 z2 => I180 g' z0 z1 z2 ∧ μ180 g' z0 z1 z2 < μ100 g x4 x6 x7) (fun g' z0 z1 z2 z3 => I194 g' z0 z1 z2 z3 ∧ μ194 g' z0 z1 z2 z3 < μ100 g x4 x6 x7) (fun g' z0 z1 z2 => I234 g' z0 z1 z2 ∧ μ234 g' z0 z1 z2 < μ100 g x4 x6 x7) K g x4 x6 x7) ∧ (∀ (g : St) (x4 : Int64) (x6 : Int32) (x7 : Int32) , I147 g x4 x6 x7 → bX8_digestLoaf_147 P a p1 p3 (fun g' z0 z1 => I6 g' z0 z1 ∧ μ6 g' z0 z1 < μ147 g x4 x6 x7) (fun g' z0 z1 => I54 g' z0 z1 ∧ μ54 g' z0 z1 < μ147 g x4 x6 x7) (fun g' z0 z1 => I86 g' z0 z1 ∧ μ86 g' z0 z1 < μ147 g x4 x6 x7) (fun g' z0 z1 z2 => I100 g' z0 z1 z2 ∧ μ100 g' z0 z1 z2 < μ147 g x4 x6 x7) (fun g' z0 z1 z2 => I147 g' z0 z1 z2 ∧ μ147 g' z0 z1 z2 < μ147 g x4 x6 x7) (fun g' z0 z1 z2 => I180 g' z0 z1 z2 ∧ μ180 g' z0 z1 z2 < μ147 g x4 x6 x7) (fun g' z0 z1 z2 z3 => I194 g' z0 z1 z2 z3 ∧ μ194 g' z0 z1 z2 z3 < μ147 g x4 x6 x7) (fun g' z0 z1 z2 => I234 g' z0 z1 z2 ∧ μ234 g' z0 z1 z2 < μ147 g x4 x6 x7) K g x4 x6 x7) ∧ (∀ (g : St) (x4 : Int64) (x6 : Int32) (x7 : Int32) , I180 g x4 x6 x7 → bX8_digestLoaf_180 P a p1 p3 (fun g' z0 z1 => I6 g' z0 z1 ∧ μ6 g' z0 z1 < μ180 g x4 x6 x7) (fun g' z0 z1 => I54 g' z0 z1 ∧ μ54 g' z0 z1 < μ180 g x4 x6 x7) (fun g' z0 z1 => I86 g' z0 z1 ∧ μ86 g' z0 z1 < μ180 g x4 x6 x7) (fun g' z0 z1 z2 => I100 g' z0 z1 z2 ∧ μ100 g' z0 z1 z2 < μ180 g x4 x6 x7) (fun g' z0 z1 z2 => I147 g' z0 z1 z2 ∧ μ147 g' z0 z1 z2 < μ180 g x4 x6 x7) (fun g' z0 z1 z2 => I180 g' z0 z1 z2 ∧ μ180 g' z0 z1 z2 < μ180 g x4 x6 x7) (fun g' z0 z1 z2 z3 => I194 g' z0 z1 z2 z3 ∧ μ194 g' z0 z1 z2 z3 < μ180 g x4 x6 x7) (fun g' z0 z1 z2 => I234 g' z0 z1 z2 ∧ μ234 g' z0 z1 z2 < μ180 g x4 x6 x7) K g x4 x6 x7) ∧ (∀ (g : St) (x4 : Int64) (x6 : Int32) (x7 : Int32) (x8 : Int32) , I194 g x4 x6 x7 x8 → bX8_digestLoaf_194 P a p1 p3 (fun g' z0 z1 => I6 g' z0 z1 ∧ μ6 g' z0 z1 < μ194 g x4 x6 x7 x8) (fun g' z0 z1 => I54 g' z0 z1 ∧ μ54 g' z0 z1 < μ194 g x4 x6 x7 x8) (fun g' z0 z1 => I86 g' z0 z1 ∧ μ86 g' z0 z1 < μ194 g x4 x6 x7 x8) (fun g' z0 z1 z2 => I100 g' z0 z1 z2 ∧ μ100 g' z0 z1 z2 < μ194 g x4 x6 x7 x8) (fun g' z0 z1 z2 => I147 g' z0 z1 z2 ∧ μ147 g' z0 z1 z2 < μ194 g x4 x6 x7 x8) (fun g' z0 z1 z2 => I180 g' z0 z1 z2 ∧ μ180 g' z0 z1 z2 < μ194 g x4 x6 x7 x8) (fun g' z0 z1 z2 z3 => I194 g' z0 z1 z2 z3 ∧ μ194 g' z0 z1 z2 z3 < μ194 g x4 x6 x7 x8) (fun g' z0 z1 z2 => I234 g' z0 z1 z2 ∧ μ234 g' z0 z1 z2 < μ194 g x4 x6 x7 x8) K g x4 x6 x7 x8) ∧ (∀ (g : St) (x4 : Int64) (x6 : Int32) (x7 : Int32) , I234 g x4 x6 x7 → bX8_digestLoaf_234 P a p1 p3 (fun g' z0 z1 => I6 g' z0 z1 ∧ μ6 g' z0 z1 < μ234 g x4 x6 x7) (fun g' z0 z1 => I54 g' z0 z1 ∧ μ54 g' z0 z1 < μ234 g x4 x6 x7) (fun g' z0 z1 => I86 g' z0 z1 ∧ μ86 g' z0 z1 < μ234 g x4 x6 x7) (fun g' z0 z1 z2 => I100 g' z0 z1 z2 ∧ μ100 g' z0 z1 z2 < μ234 g x4 x6 x7) (fun g' z0 z1 z2 => I147 g' z0 z1 z2 ∧ μ147 g' z0 z1 z2 < μ234 g x4 x6 x7) (fun g' z0 z1 z2 => I180 g' z0 z1 z2 ∧ μ180 g' z0 z1 z2 < μ234 g x4 x6 x7) (fun g' z0 z1 z2 z3 => I194 g' z0 z1 z2 z3 ∧ μ194 g' z0 z1 z2 z3 < μ234 g x4 x6 x7) (fun g' z0 z1 z2 => I234 g' z0 z1 z2 ∧ μ234 g' z0 z1 z2 < μ234 g x4 x6 x7) K g x4 x6 x7)
def kX8_digestLoaf (P : Sk) (f : St) (a : Nat) (p1 : Int64) (p3 : Int32) (K : Int64 → St → Prop) : Prop := ∃ bd i, p3 = nI i ∧ i < bd.1.length ∧ StM f (a + 1) 0 bd ∧ Bok bd ∧ ∀ g, Sc9 f g a → K (hsL bd.1 i p1) g
theorem wX8_digestLoaf (P : Sk) (f : St) (a : Nat) (ha : IsModel P a) (p1 : Int64) (p3 : Int32) (K : Int64 → St → Prop) (h : kX8_digestLoaf P f a p1 p3 K) : WX8_digestLoaf P f a p1 p3 K := by
  obtain ⟨bd, i, rfl, hi, hS, hb, hK⟩ := h
  have h6 := hb.1
  obtain ⟨hp, hy⟩ := hasB_n (bd := bd) hi hb
  have ho := (hb.has hp).1
  have h24 := ho.2.2.1
  have h7 := ho.2.1
  have hn24 := ho.NF.2.2.1
  have in0 : vp_in 0 160 := vp_nI (i := 0) (by decide) (by decide)
  unfold hsL hsP at hK
  rw [← hy] at hK
  generalize eB : hsB bd.1 i p1 = H1 at hK
  generalize ey : lfP bd (nI i) = y at *
  refine ⟨fun g x4 x6 => Sc9 f g a ∧ ∃ k, x6 = nI k ∧ k ≤ 11 ∧ x4 = hN (nL bd.1 i) k p1,
    fun g x4 x6 => Sc9 f g a ∧ ∃ k, x6 = nI k ∧ k ≤ 4 ∧ x4 = hN (fun how => nI (NF (chg y.1 y.2 how)).length) k (hsA bd.1 i p1),
    fun g x4 x6 => Sc9 f g a ∧ ∃ k, x6 = nI k ∧ k ≤ y.2.length ∧ x4 = hNN 4 (fun i j => nI (crN y.2 i j)) k H1,
    fun g x4 x6 x7 => Sc9 f g a ∧ ∃ k j, x6 = nI k ∧ x7 = nI j ∧ k < y.2.length ∧ j ≤ 4 ∧ x4 = hN (fun j => nI (crN y.2 k j)) j (hNN 4 (fun i j => nI (crN y.2 i j)) k H1),
    fun g x4 x6 x7 => Sc9 f g a ∧ MW g a (NF y.2) ∧ x6 = nI (NF y.2).length ∧ ∃ k, x7 = nI k ∧ k ≤ (NF y.2).length ∧ x4 = hN (fun i => nI ((NF y.2).getD i 0)) k (hNN 4 (fun i j => nI (crN y.2 i j)) y.2.length H1),
    fun g x4 x6 x7 => Sc9 f g a ∧ ∃ k, x7 = nI k ∧ k ≤ y.1 ∧ x4 = hNN 5 (fun s j => nI (stN y.1 y.2 s j)) k (hN (fun i => nI ((NF y.2).getD i 0)) (NF y.2).length (hNN 4 (fun i j => nI (crN y.2 i j)) y.2.length H1)),
    fun g x4 x6 x7 x8 => Sc9 f g a ∧ ∃ k j, x7 = nI k ∧ x8 = nI j ∧ k < y.1 ∧ j ≤ 5 ∧ x4 = hN (fun j => nI (stN y.1 y.2 k j)) j (hNN 5 (fun s j => nI (stN y.1 y.2 s j)) k (hN (fun i => nI ((NF y.2).getD i 0)) (NF y.2).length (hNN 4 (fun i j => nI (crN y.2 i j)) y.2.length H1))),
    fun g x4 x6 x7 => Sc9 f g a ∧ ∃ k, x7 = nI k ∧ k ≤ bd.1.length ∧ x4 = hN (fun o => nI (lk y (lfAt bd.1 o))) k (hNN 5 (fun s j => nI (stN y.1 y.2 s j)) y.1 (hN (fun i => nI ((NF y.2).getD i 0)) (NF y.2).length (hNN 4 (fun i j => nI (crN y.2 i j)) y.2.length H1))),
    fun g x4 x6 => 90000 - x6.toNatClampNeg, fun g x4 x6 => 80000 - x6.toNatClampNeg, fun g x4 x6 => 70000 - 10 * x6.toNatClampNeg, fun g x4 x6 x7 => 70000 - 10 * x6.toNatClampNeg - 1 - x7.toNatClampNeg, fun g x4 x6 x7 => 60000 - x7.toNatClampNeg, fun g x4 x6 x7 => 50000 - 10 * x7.toNatClampNeg, fun g x4 x6 x7 x8 => 50000 - 10 * x7.toNatClampNeg - 1 - x8.toNatClampNeg, fun g x4 x6 x7 => 40000 - x7.toNatClampNeg, ?_, ?_, ?_, ?_, ?_, ?_, ?_, ?_, ?_⟩
  · unfold vX8_digestLoaf
    exact ⟨Sc9.refl _ _, 0, rfl, by decide, rfl⟩
  · rintro g x4 x6 ⟨s, k, rfl, hk, rfl⟩
    unfold bX8_digestLoaf_6
    rw [show (11 : Int32) = nI 11 from rfl, nI_leI (by omega) (by omega)]
    refine ⟨fun q => ⟨bd, hS.sc9 s, hb, hp, fun g2 s2 => ?_⟩, fun q => ?_⟩
    · intro z ez
      rw [ey] at ez
      refine ⟨⟨s.tr s2, 0, rfl, by decide, ?_⟩, ?_⟩
      · rw [ez, show k = 11 by omega]
        unfold hsA
        rw [← hy]
        rfl
      · show 80000 - (0 : Int32).toNatClampNeg < 90000 - (nI k).toNatClampNeg
        rw [tn0, nI_clamp (by omega)]
        omega
    · refine u8_tellsLoaf (hS.sc9 s) hb hi (what := k) (by omega) (fun g2 s2 => ?_)
      intro z ez u eu
      rw [nI_1] at eu
      exact ⟨⟨s.tr s2, k + 1, eu, by omega, ez⟩, mu_up eu (by omega) (by omega)⟩
  · rintro g x4 x6 ⟨s, k, rfl, hk, rfl⟩
    unfold bX8_digestLoaf_54
    rw [show (4 : Int32) = nI 4 from rfl, nI_leI (by omega) (by omega)]
    refine ⟨fun q => ⟨⟨s, 0, rfl, Nat.zero_le _, ?_⟩, ?_⟩, fun q => ?_⟩
    · rw [show k = 4 by omega, ← eB]
      unfold hsB
      rw [← hy]
      rfl
    · show 70000 - 10 * (0 : Int32).toNatClampNeg < 80000 - (nI k).toNatClampNeg
      rw [tn0, nI_clamp (by omega)]
      omega
    · refine u8_looseBehind (hS.sc9 s) hb hp (how := k) (by omega) (fun g2 s2 => ?_)
      intro z ez u eu
      rw [nI_1] at eu
      rw [ey] at ez
      exact ⟨⟨s.tr s2, k + 1, eu, by omega, ez⟩, mu_up eu (by omega) (by omega)⟩
  · rintro g x4 x6 ⟨s, k, rfl, hk, rfl⟩
    unfold bX8_digestLoaf_86
    have S := hS.sc9 s
    have hL := (S.has hp).2.1
    rw [ey] at hL
    refine u8_ofP (w := 1) hb hp (by decide) hL ?_
    change _ ∧ _
    rw [nI_leI (by omega) (by omega)]
    refine ⟨fun q => ?_, fun q => ⟨⟨s, k, 0, rfl, rfl, by omega, by decide, rfl⟩, ?_⟩⟩
    · refine u8_looseLength S hb hp (fun g2 s2 m2 => ?_)
      rw [ey] at m2 ⊢
      refine ⟨⟨s.tr s2, m2, rfl, 0, rfl, Nat.zero_le _, ?_⟩, ?_⟩
      · rw [show k = y.2.length by omega]
        rfl
      · show 60000 - (0 : Int32).toNatClampNeg < 70000 - 10 * (nI k).toNatClampNeg
        rw [tn0, nI_clamp (by omega)]
        omega
    · show 70000 - 10 * (nI k).toNatClampNeg - 1 - (0 : Int32).toNatClampNeg < 70000 - 10 * (nI k).toNatClampNeg
      rw [tn0, nI_clamp (by omega)]
      omega
  · rintro g x4 x6 x7 ⟨s, k, j, rfl, rfl, hk, hj, rfl⟩
    unfold bX8_digestLoaf_100
    rw [show (4 : Int32) = nI 4 from rfl, nI_leI (by omega) (by omega)]
    refine ⟨fun q u eu => ?_, fun q => ?_⟩
    · rw [nI_1] at eu
      refine ⟨⟨s, k + 1, eu, by omega, ?_⟩, ?_⟩
      · rw [show j = 4 by omega]
        rfl
      · rw [eu]
        show 70000 - 10 * (nI (k + 1)).toNatClampNeg < 70000 - 10 * (nI k).toNatClampNeg - 1 - (nI j).toNatClampNeg
        rw [nI_clamp (n := k + 1) (by omega), nI_clamp (n := k) (by omega), nI_clamp (n := j) (by omega)]
        omega
    · refine u8_tellsCrossing (hS.sc9 s) hb hp (i := k) (what := j) (by omega) (by omega) (fun g2 s2 => ?_)
      rw [ey, if_pos hk]
      intro z ez u eu
      rw [nI_1] at eu
      refine ⟨⟨s.tr s2, k, j + 1, rfl, eu, hk, by omega, ez⟩, ?_⟩
      rw [eu]
      show 70000 - 10 * (nI k).toNatClampNeg - 1 - (nI (j + 1)).toNatClampNeg < 70000 - 10 * (nI k).toNatClampNeg - 1 - (nI j).toNatClampNeg
      rw [nI_clamp (n := j + 1) (by omega), nI_clamp (n := k) (by omega), nI_clamp (n := j) (by omega)]
      omega
  · rintro g x4 x6 x7 ⟨s, m, rfl, k, rfl, hk, rfl⟩
    unfold bX8_digestLoaf_147
    rw [nI_leI (by omega) (by omega)]
    refine ⟨fun q => ⟨⟨s, 0, rfl, Nat.zero_le _, ?_⟩, ?_⟩, fun q => ⟨vp_nI (by omega) (by decide), fun z ez u eu => ?_⟩⟩
    · rw [show k = (NF y.2).length by omega]
      rfl
    · show 50000 - 10 * (0 : Int32).toNatClampNeg < 60000 - (nI k).toNatClampNeg
      rw [tn0, nI_clamp (by omega)]
      omega
    · rw [nI_1] at eu
      rw [nI_clamp (by omega), m.2 k (by omega)] at ez
      exact ⟨⟨s, m, rfl, k + 1, eu, by omega, ez⟩, mu_up eu (by omega) (by omega)⟩
  · rintro g x4 x6 x7 ⟨s, k, rfl, hk, rfl⟩
    unfold bX8_digestLoaf_180
    have S := hS.sc9 s
    have hL := (S.has hp).1
    rw [ey] at hL
    refine u8_ofP (w := 0) hb hp (by decide) hL ?_
    change _ ∧ _
    rw [nI_leI (by omega) (by omega)]
    refine ⟨fun q => ⟨⟨s, 0, rfl, Nat.zero_le _, ?_⟩, ?_⟩, fun q => ⟨⟨s, k, 0, rfl, rfl, by omega, by decide, rfl⟩, ?_⟩⟩
    · rw [show k = y.1 by omega]
      rfl
    · show 40000 - (0 : Int32).toNatClampNeg < 50000 - 10 * (nI k).toNatClampNeg
      rw [tn0, nI_clamp (by omega)]
      omega
    · show 50000 - 10 * (nI k).toNatClampNeg - 1 - (0 : Int32).toNatClampNeg < 50000 - 10 * (nI k).toNatClampNeg
      rw [tn0, nI_clamp (by omega)]
      omega
  · rintro g x4 x6 x7 x8 ⟨s, k, j, rfl, rfl, hk, hj, rfl⟩
    unfold bX8_digestLoaf_194
    rw [show (5 : Int32) = nI 5 from rfl, nI_leI (by omega) (by omega)]
    refine ⟨fun q u eu => ?_, fun q => ?_⟩
    · rw [nI_1] at eu
      refine ⟨⟨s, k + 1, eu, by omega, ?_⟩, ?_⟩
      · rw [show j = 5 by omega]
        rfl
      · rw [eu]
        show 50000 - 10 * (nI (k + 1)).toNatClampNeg < 50000 - 10 * (nI k).toNatClampNeg - 1 - (nI j).toNatClampNeg
        rw [nI_clamp (n := k + 1) (by omega), nI_clamp (n := k) (by omega), nI_clamp (n := j) (by omega)]
        omega
    · refine u8_tellsStrand (hS.sc9 s) hb hp (s := k) (what := j) (by omega) (by omega) (fun g2 s2 => ?_)
      rw [ey, if_pos hk]
      intro z ez u eu
      rw [nI_1] at eu
      refine ⟨⟨s.tr s2, k, j + 1, rfl, eu, hk, by omega, ez⟩, ?_⟩
      rw [eu]
      show 50000 - 10 * (nI k).toNatClampNeg - 1 - (nI (j + 1)).toNatClampNeg < 50000 - 10 * (nI k).toNatClampNeg - 1 - (nI j).toNatClampNeg
      rw [nI_clamp (n := j + 1) (by omega), nI_clamp (n := k) (by omega), nI_clamp (n := j) (by omega)]
      omega
  · rintro g x4 x6 x7 ⟨s, k, rfl, hk, rfl⟩
    unfold bX8_digestLoaf_234
    have S := hS.sc9 s
    rw [tn0, S.1, nI_leI (by omega) (by omega)]
    refine ⟨in0, fun q => ?_, fun q => ?_⟩
    · rw [show k = bd.1.length by omega]
      exact hK g s
    · obtain ⟨hq, hz⟩ := hasB_n (bd := bd) (i := k) (by omega) hb
      refine ⟨bd, S, hb, hp, hq, fun g2 s2 => ?_⟩
      rw [ey, hz]
      intro z ez u eu
      rw [nI_1] at eu
      exact ⟨⟨s.tr s2, k + 1, eu, by omega, ez⟩, mu_up eu (by omega) (by omega)⟩

theorem metX8_digestLoaf (l : Launch) (G : Gl) (P : Sk) (f : St) (sz : Nat) (a : Nat) (ha : IsModel P a) (p1 : Int64) (p3 : Int32) (K : Int64 → St → Prop) (h : kX8_digestLoaf P f a p1 p3 K) : Met l yX8_digestLoaf (wU yX8_digestLoaf cX8_digestLoaf 9 (some .long)) rmX8_digestLoaf (PcW G P f sz [.ref a, .long p1, .int p3]) (QcL G P sz K) 0 0 (frA P sz) := by
  obtain ⟨I6, I54, I86, I100, I147, I180, I194, I234, μ6, μ54, μ86, μ100, μ147, μ180, μ194, μ234, qh, qh6, qh54, qh86, qh100, qh147, qh180, qh194, qh234⟩ := wX8_digestLoaf P f a ha p1 p3 K h
  exact mX8_digestLoaf l G P f sz a ha p1 p3 K I6 μ6 I54 μ54 I86 μ86 I100 μ100 I147 μ147 I180 μ180 I194 μ194 I234 μ234 qh qh6 qh54 qh86 qh100 qh147 qh180 qh194 qh234

def bX8_digest_11 (P : Sk) (a : Nat) (L11 : St → Int64 → Int32 → Prop) (L38 : St → Int64 → Int32 → Prop) (L115 : St → Int64 → Int32 → Prop) (K : Int64 → St → Prop) (f : St) (x1 : Int64) (x3 : Int32) : Prop :=
  (7 ≤ x3 → L38 f x1 0) ∧ (¬ 7 ≤ x3 → kX8_tellsCount P f a x3 (fun r24 g24 => ∀ x1_29 : Int64, x1_29 = (31 * x1) + (r24.toInt64) → ∀ x3_30 : Int32, x3_30 = x3 + 1 → L11 g24 x1_29 x3_30))
def bX8_digest_38 (P : Sk) (a : Nat) (L11 : St → Int64 → Int32 → Prop) (L38 : St → Int64 → Int32 → Prop) (L115 : St → Int64 → Int32 → Prop) (K : Int64 → St → Prop) (f : St) (x1 : Int64) (x3 : Int32) : Prop :=
  vp_in 0 160 ∧ ((f (a + 1) ((0 : Int32)).toNatClampNeg ≤ x3 → vp_in 2 160 ∧ (vp_in 3 160 ∧ (∀ x1_86 : Int64, x1_86 = (31 * ((31 * x1) + ((f (a + 1) ((2 : Int32)).toNatClampNeg : Int32).toInt64))) + ((f (a + 1) ((3 : Int32)).toNatClampNeg : Int32).toInt64) → kX8_share P f a (fun r93 g93 => kJxe99ae_doubleToLongBits_ccdee P g93 r93 (fun r96 g96 => ∀ x1_100 : Int64, x1_100 = (31 * x1_86) + r96 → ∀ x1_112 : Int64, x1_112 = (31 * x1_100) + ((g96 a 7 : Int32).toInt64) → L115 g96 x1_112 0))))) ∧ (¬ f (a + 1) ((0 : Int32)).toNatClampNeg ≤ x3 → kX8_digestLoaf P f a x1 x3 (fun r51 g51 => ∀ x3_55 : Int32, x3_55 = x3 + 1 → L38 g51 r51 x3_55)))
def bX8_digest_115 (P : Sk) (a : Nat) (L11 : St → Int64 → Int32 → Prop) (L38 : St → Int64 → Int32 → Prop) (L115 : St → Int64 → Int32 → Prop) (K : Int64 → St → Prop) (f : St) (x1 : Int64) (x3 : Int32) : Prop :=
  (f a 7 ≤ x3 → K x1 f) ∧ (¬ f a 7 ≤ x3 → vp_in x3 60 ∧ (∀ x1_136 : Int64, x1_136 = (31 * x1) + ((f (a + 4) x3.toNatClampNeg : Int32).toInt64) → ∀ x3_137 : Int32, x3_137 = x3 + 1 → L115 f x1_136 x3_137))
def vX8_digest (P : Sk) (f : St) (a : Nat) (L11 : St → Int64 → Int32 → Prop) (L38 : St → Int64 → Int32 → Prop) (L115 : St → Int64 → Int32 → Prop) (K : Int64 → St → Prop) : Prop :=
  ∀ g2 : St, g2 = setf f a 0 0 → L11 g2 4051 0
set_option maxRecDepth 20000 in
set_option maxHeartbeats 4000000 in
theorem mX8_digest (l : Launch) (G : Gl) (P : Sk) (f : St) (sz : Nat) (a : Nat) (ha : IsModel P a) (K : Int64 → St → Prop) (I11 : St → Int64 → Int32 → Prop) (μ11 : St → Int64 → Int32 → Nat) (I38 : St → Int64 → Int32 → Prop) (μ38 : St → Int64 → Int32 → Nat) (I115 : St → Int64 → Int32 → Prop) (μ115 : St → Int64 → Int32 → Nat) 
  (h : vX8_digest P f a I11 I38 I115 K)
  (h11 : ∀ (g : St) (x1 : Int64) (x3 : Int32) , I11 g x1 x3 → bX8_digest_11 P a (fun g' z0 z1 => I11 g' z0 z1 ∧ μ11 g' z0 z1 < μ11 g x1 x3) (fun g' z0 z1 => I38 g' z0 z1 ∧ μ38 g' z0 z1 < μ11 g x1 x3) (fun g' z0 z1 => I115 g' z0 z1 ∧ μ115 g' z0 z1 < μ11 g x1 x3) K g x1 x3)
  (h38 : ∀ (g : St) (x1 : Int64) (x3 : Int32) , I38 g x1 x3 → bX8_digest_38 P a (fun g' z0 z1 => I11 g' z0 z1 ∧ μ11 g' z0 z1 < μ38 g x1 x3) (fun g' z0 z1 => I38 g' z0 z1 ∧ μ38 g' z0 z1 < μ38 g x1 x3) (fun g' z0 z1 => I115 g' z0 z1 ∧ μ115 g' z0 z1 < μ38 g x1 x3) K g x1 x3)
  (h115 : ∀ (g : St) (x1 : Int64) (x3 : Int32) , I115 g x1 x3 → bX8_digest_115 P a (fun g' z0 z1 => I11 g' z0 z1 ∧ μ11 g' z0 z1 < μ115 g x1 x3) (fun g' z0 z1 => I38 g' z0 z1 ∧ μ38 g' z0 z1 < μ115 g x1 x3) (fun g' z0 z1 => I115 g' z0 z1 ∧ μ115 g' z0 z1 < μ115 g x1 x3) K g x1 x3) :
  Met l yX8_digest (wU yX8_digest cX8_digest 4 (some .long)) rmX8_digest (PcW G P f sz [.ref a]) (QcL G P sz K) 0 0 (frA P sz) := by
  refine v_met (own := RX8) [.ref a] (by decide +kernel) rfl (Nat.le_of_ble_eq_true rfl) (fun p e s m args below meth c hsz o hr hnm => ?_)
  refine v_lv (lv2 := [(0, .ref a)]) rfl ?_
  have main : ∀ n : Nat, (∀ (g : St) (x1 : Int64) (x3 : Int32) , I11 g x1 x3 → μ11 g x1 x3 < n → V p l e rmX8_digest s m args below meth c 4 G (frA P sz) (MQ below (QcL G P sz K) args s 0 0 (frA P sz)) 0 0 P [(0, .ref a), (1, .long x1), (3, .int x3)] [] 11 g) ∧ (∀ (g : St) (x1 : Int64) (x3 : Int32) , I38 g x1 x3 → μ38 g x1 x3 < n → V p l e rmX8_digest s m args below meth c 4 G (frA P sz) (MQ below (QcL G P sz K) args s 0 0 (frA P sz)) 0 0 P [(0, .ref a), (1, .long x1), (3, .int x3)] [] 38 g) ∧ (∀ (g : St) (x1 : Int64) (x3 : Int32) , I115 g x1 x3 → μ115 g x1 x3 < n → V p l e rmX8_digest s m args below meth c 4 G (frA P sz) (MQ below (QcL G P sz K) args s 0 0 (frA P sz)) 0 0 P [(0, .ref a), (1, .long x1), (3, .int x3)] [] 115 g) := by
    intro n
    induction n with
    | zero => exact ⟨fun g x1 x3 hI hm => absurd hm (Nat.not_lt_zero _), fun g x1 x3 hI hm => absurd hm (Nat.not_lt_zero _), fun g x1 x3 hI hm => absurd hm (Nat.not_lt_zero _)⟩
    | succ n ih =>
      refine ⟨?_, ?_, ?_⟩
      · intro g x1 x3 hI hm
        have h := h11 g x1 x3 hI
        clear hI
        unfold bX8_digest_11 at h
        refine v_iload_n o 2 dX8_digest_11 rfl ?_
        refine v_bipush o (v := 7) dX8_digest_12 (by decide) ?_
        refine v_icmp_ge o (tgt := 36) dX8_digest_14 (by decide) (fun c14 => ?_) (fun c14 => ?_)
        · replace h := h.1 c14
          refine v_iconst o (v := 0) dX8_digest_36 (by decide) ?_
          refine v_istore_n o (lv' := [(3, .int 0), (0, .ref a), (1, .long x1)]) dX8_digest_37 rfl (by decide) rfl ?_
          refine v_sub [1, 2, 0] (lv2 := [(0, .ref a), (1, .long x1), (3, .int 0)]) rfl ?_
          exact ih.2.1 g x1 0  h.1 (by have := h.2; omega)
        · replace h := h.2 c14
          refine v_ldc2 o (v := 31) dX8_digest_17 (mU 1407 (by decide +kernel) rfl) ?_
          refine v_lload_n o 1 dX8_digest_20 rfl ?_
          refine v_lmul o dX8_digest_21 ?_
          refine v_aload_n o 0 dX8_digest_22 rfl ?_
          refine v_iload_n o 2 dX8_digest_23 rfl ?_
          refine v_cVi o [.int x3] [.long (31 * x1)] (fun sz => metX8_tellsCount l G P g sz a ha x3 _ h) (cwX8_238 o.1.2.2.2.2 (by decide)) ⟨_, _, rfl⟩ (by decide) (wfModel_o ha) rfl (Nat.le_of_ble_eq_true rfl) ⟨Nat.le_of_ble_eq_true rfl, Nat.le_of_ble_eq_true rfl⟩ dX8_digest_24 rfl (fun r24 g24 h => ?_)
          refine v_i2l o dX8_digest_27 ?_
          refine v_ladd o dX8_digest_28 ?_
          refine v_topl (fun x1_29 ex1_29 => ?_)
          replace h := h x1_29 ex1_29
          refine v_lstore_n o (lv' := [(1, .long x1_29), (0, .ref a), (3, .int x3)]) dX8_digest_29 rfl (by decide) rfl ?_
          obtain ⟨x3_30, ex3_30⟩ : ∃ y : Int32, y = x3 + 1 := ⟨_, rfl⟩
          replace h := h x3_30 ex3_30
          refine v_iinc o (v := x3_30) (lv' := [(3, .int x3_30), (1, .long x1_29), (0, .ref a)]) 2 dX8_digest_30 rfl (by rw [ex3_30]; rfl) (by decide) rfl ?_
          refine v_goto o (tgt := 11) dX8_digest_33 (by decide) ?_
          refine v_sub [2, 1, 0] (lv2 := [(0, .ref a), (1, .long x1_29), (3, .int x3_30)]) rfl ?_
          exact ih.1 g24 x1_29 x3_30  h.1 (by have := h.2; omega)
      · intro g x1 x3 hI hm
        have h := h38 g x1 x3 hI
        clear hI
        unfold bX8_digest_38 at h
        refine v_iload_n o 2 dX8_digest_38 rfl ?_
        refine v_aload_n o 0 dX8_digest_39 rfl ?_
        refine v_gfR o lkX8_7 (by decide) (wfModel_o ha) (wfModel_r1 ha) dX8_digest_40 ?_
        refine v_iconst o (v := 0) dX8_digest_43 (by decide) ?_
        refine v_iald o (wfModel_t1 ha) (wfModel_n1 ha) h.1 dX8_digest_44 ?_
        replace h := h.2
        refine v_icmp_ge o (tgt := 61) dX8_digest_45 (by decide) (fun c45 => ?_) (fun c45 => ?_)
        · replace h := h.1 c45
          refine v_ldc2 o (v := 31) dX8_digest_61 (mU 1407 (by decide +kernel) rfl) ?_
          refine v_ldc2 o (v := 31) dX8_digest_64 (mU 1407 (by decide +kernel) rfl) ?_
          refine v_lload_n o 1 dX8_digest_67 rfl ?_
          refine v_lmul o dX8_digest_68 ?_
          refine v_aload_n o 0 dX8_digest_69 rfl ?_
          refine v_gfR o lkX8_7 (by decide) (wfModel_o ha) (wfModel_r1 ha) dX8_digest_70 ?_
          refine v_iconst o (v := 2) dX8_digest_73 (by decide) ?_
          refine v_iald o (wfModel_t1 ha) (wfModel_n1 ha) h.1 dX8_digest_74 ?_
          replace h := h.2
          refine v_i2l o dX8_digest_75 ?_
          refine v_ladd o dX8_digest_76 ?_
          refine v_lmul o dX8_digest_77 ?_
          refine v_aload_n o 0 dX8_digest_78 rfl ?_
          refine v_gfR o lkX8_7 (by decide) (wfModel_o ha) (wfModel_r1 ha) dX8_digest_79 ?_
          refine v_iconst o (v := 3) dX8_digest_82 (by decide) ?_
          refine v_iald o (wfModel_t1 ha) (wfModel_n1 ha) h.1 dX8_digest_83 ?_
          replace h := h.2
          refine v_i2l o dX8_digest_84 ?_
          refine v_ladd o dX8_digest_85 ?_
          refine v_topl (fun x1_86 ex1_86 => ?_)
          replace h := h x1_86 ex1_86
          refine v_lstore_n o (lv' := [(1, .long x1_86), (0, .ref a), (3, .int x3)]) dX8_digest_86 rfl (by decide) rfl ?_
          refine v_ldc2 o (v := 31) dX8_digest_87 (mU 1407 (by decide +kernel) rfl) ?_
          refine v_lload_n o 0 dX8_digest_90 rfl ?_
          refine v_lmul o dX8_digest_91 ?_
          refine v_aload_n o 1 dX8_digest_92 rfl ?_
          refine v_cVd o [] [.long (31 * x1_86)] (fun sz => metX8_share l G P g sz a ha _ h) (cwX8_253 o.1.2.2.2.2 (by decide)) ⟨_, _, rfl⟩ (by decide) (wfModel_o ha) rfl (Nat.le_of_ble_eq_true rfl) ⟨Nat.le_of_ble_eq_true rfl, Nat.le_of_ble_eq_true rfl⟩ dX8_digest_93 rfl (fun r93 g93 h => ?_)
          refine v_cSl o [.double r93] [.long (31 * x1_86)] (fun sz => metJxe99ae_doubleToLongBits_ccdee l G P g93 sz r93 _ h) (cwX8_265 o.1.2.2.2.2 (by decide)) rfl (Nat.le_of_ble_eq_true rfl) ⟨Nat.le_of_ble_eq_true rfl, Nat.le_of_ble_eq_true rfl⟩ dX8_digest_96 rfl (fun r96 g96 h => ?_)
          refine v_ladd o dX8_digest_99 ?_
          refine v_topl (fun x1_100 ex1_100 => ?_)
          replace h := h x1_100 ex1_100
          refine v_lstore_n o (lv' := [(1, .long x1_100), (0, .ref a), (3, .int x3)]) dX8_digest_100 rfl (by decide) rfl ?_
          refine v_ldc2 o (v := 31) dX8_digest_101 (mU 1407 (by decide +kernel) rfl) ?_
          refine v_lload_n o 0 dX8_digest_104 rfl ?_
          refine v_lmul o dX8_digest_105 ?_
          refine v_aload_n o 1 dX8_digest_106 rfl ?_
          refine v_gfI o lkX8_133 (by decide) (wfModel_o ha) dX8_digest_107 ?_
          refine v_i2l o dX8_digest_110 ?_
          refine v_ladd o dX8_digest_111 ?_
          refine v_topl (fun x1_112 ex1_112 => ?_)
          replace h := h x1_112 ex1_112
          refine v_lstore_n o (lv' := [(1, .long x1_112), (0, .ref a), (3, .int x3)]) dX8_digest_112 rfl (by decide) rfl ?_
          refine v_iconst o (v := 0) dX8_digest_113 (by decide) ?_
          refine v_istore_n o (lv' := [(3, .int 0), (1, .long x1_112), (0, .ref a)]) dX8_digest_114 rfl (by decide) rfl ?_
          refine v_sub [2, 1, 0] (lv2 := [(0, .ref a), (1, .long x1_112), (3, .int 0)]) rfl ?_
          exact ih.2.2 g96 x1_112 0  h.1 (by have := h.2; omega)
        · replace h := h.2 c45
          refine v_aload_n o 0 dX8_digest_48 rfl ?_
          refine v_lload_n o 1 dX8_digest_49 rfl ?_
          refine v_iload_n o 2 dX8_digest_50 rfl ?_
          refine v_cVl o [.long x1, .int x3] [] (fun sz => metX8_digestLoaf l G P g sz a ha x1 x3 _ h) (cwX8_261 o.1.2.2.2.2 (by decide)) ⟨_, _, rfl⟩ (by decide) (wfModel_o ha) rfl (Nat.le_of_ble_eq_true rfl) ⟨Nat.le_of_ble_eq_true rfl, Nat.le_of_ble_eq_true rfl⟩ dX8_digest_51 rfl (fun r51 g51 h => ?_)
          refine v_lstore_n o (lv' := [(1, .long r51), (0, .ref a), (3, .int x3)]) dX8_digest_54 rfl (by decide) rfl ?_
          obtain ⟨x3_55, ex3_55⟩ : ∃ y : Int32, y = x3 + 1 := ⟨_, rfl⟩
          replace h := h x3_55 ex3_55
          refine v_iinc o (v := x3_55) (lv' := [(3, .int x3_55), (1, .long r51), (0, .ref a)]) 2 dX8_digest_55 rfl (by rw [ex3_55]; rfl) (by decide) rfl ?_
          refine v_goto o (tgt := 38) dX8_digest_58 (by decide) ?_
          refine v_sub [2, 1, 0] (lv2 := [(0, .ref a), (1, .long r51), (3, .int x3_55)]) rfl ?_
          exact ih.2.1 g51 r51 x3_55  h.1 (by have := h.2; omega)
      · intro g x1 x3 hI hm
        have h := h115 g x1 x3 hI
        clear hI
        unfold bX8_digest_115 at h
        refine v_iload_n o 2 dX8_digest_115 rfl ?_
        refine v_aload_n o 0 dX8_digest_116 rfl ?_
        refine v_gfI o lkX8_133 (by decide) (wfModel_o ha) dX8_digest_117 ?_
        refine v_icmp_ge o (tgt := 143) dX8_digest_120 (by decide) (fun c120 => ?_) (fun c120 => ?_)
        · replace h := h.1 c120
          refine v_lload_n o 1 dX8_digest_143 rfl ?_
          exact v_lret o rfl hr dX8_digest_144 h
        · replace h := h.2 c120
          refine v_ldc2 o (v := 31) dX8_digest_123 (mU 1407 (by decide +kernel) rfl) ?_
          refine v_lload_n o 1 dX8_digest_126 rfl ?_
          refine v_lmul o dX8_digest_127 ?_
          refine v_aload_n o 0 dX8_digest_128 rfl ?_
          refine v_gfR o lkX8_19 (by decide) (wfModel_o ha) (wfModel_r6 ha) dX8_digest_129 ?_
          refine v_iload_n o 2 dX8_digest_132 rfl ?_
          refine v_iald o (wfModel_t6 ha) (wfModel_n6 ha) h.1 dX8_digest_133 ?_
          replace h := h.2
          refine v_i2l o dX8_digest_134 ?_
          refine v_ladd o dX8_digest_135 ?_
          refine v_topl (fun x1_136 ex1_136 => ?_)
          replace h := h x1_136 ex1_136
          refine v_lstore_n o (lv' := [(1, .long x1_136), (0, .ref a), (3, .int x3)]) dX8_digest_136 rfl (by decide) rfl ?_
          obtain ⟨x3_137, ex3_137⟩ : ∃ y : Int32, y = x3 + 1 := ⟨_, rfl⟩
          replace h := h x3_137 ex3_137
          refine v_iinc o (v := x3_137) (lv' := [(3, .int x3_137), (1, .long x1_136), (0, .ref a)]) 2 dX8_digest_137 rfl (by rw [ex3_137]; rfl) (by decide) rfl ?_
          refine v_goto o (tgt := 115) dX8_digest_140 (by decide) ?_
          refine v_sub [2, 1, 0] (lv2 := [(0, .ref a), (1, .long x1_136), (3, .int x3_137)]) rfl ?_
          exact ih.2.2 g x1_136 x3_137  h.1 (by have := h.2; omega)
  unfold vX8_digest at h
  refine v_aload_n o 0 dX8_digest_0 rfl ?_
  refine v_iconst o (v := 0) dX8_digest_1 (by decide) ?_
  refine v_pf o lpX8_40 (wfModel_o ha) ⟨rfl, rfl⟩ dX8_digest_2 ?_
  refine v_nmf (fun g2 eg2 => ?_)
  replace h := h g2 eg2
  refine v_ldc2 o (v := 4051) dX8_digest_5 (mU 1406 (by decide +kernel) rfl) ?_
  refine v_lstore_n o (lv' := [(1, .long 4051), (0, .ref a)]) dX8_digest_8 rfl (by decide) rfl ?_
  refine v_iconst o (v := 0) dX8_digest_9 (by decide) ?_
  refine v_istore_n o (lv' := [(3, .int 0), (1, .long 4051), (0, .ref a)]) dX8_digest_10 rfl (by decide) rfl ?_
  refine v_sub [2, 1, 0] (lv2 := [(0, .ref a), (1, .long 4051), (3, .int 0)]) rfl ?_
  exact (main (μ11 g2 4051 0 + 1)).1 g2 4051 0  h (Nat.lt_succ_self _)
def WX8_digest (P : Sk) (f : St) (a : Nat) (K : Int64 → St → Prop) : Prop := ∃ (I11 : St → Int64 → Int32 → Prop) (I38 : St → Int64 → Int32 → Prop) (I115 : St → Int64 → Int32 → Prop) (μ11 : St → Int64 → Int32 → Nat) (μ38 : St → Int64 → Int32 → Nat) (μ115 : St → Int64 → Int32 → Nat), (vX8_digest P f a I11 I38 I115 K) ∧ (∀ (g : St) (x1 : Int64) (x3 : Int32) , I11 g x1 x3 → bX8_digest_11 P a (fun g' z0 z1 => I11 g' z0 z1 ∧ μ11 g' z0 z1 < μ11 g x1 x3) (fun g' z0 z1 => I38 g' z0 z1 ∧ μ38 g' z0 z1 < μ11 g x1 x3) (fun g' z0 z1 => I115 g' z0 z1 ∧ μ115 g' z0 z1 < μ11 g x1 x3) K g x1 x3) ∧ (∀ (g : St) (x1 : Int64) (x3 : Int32) , I38 g x1 x3 → bX8_digest_38 P a (fun g' z0 z1 => I11 g' z0 z1 ∧ μ11 g' z0 z1 < μ38 g x1 x3) (fun g' z0 z1 => I38 g' z0 z1 ∧ μ38 g' z0 z1 < μ38 g x1 x3) (fun g' z0 z1 => I115 g' z0 z1 ∧ μ115 g' z0 z1 < μ38 g x1 x3) K g x1 x3) ∧ (∀ (g : St) (x1 : Int64) (x3 : Int32) , I115 g x1 x3 → bX8_digest_115 P a (fun g' z0 z1 => I11 g' z0 z1 ∧ μ11 g' z0 z1 < μ115 g x1 x3) (fun g' z0 z1 => I38 g' z0 z1 ∧ μ38 g' z0 z1 < μ115 g x1 x3) (fun g' z0 z1 => I115 g' z0 z1 ∧ μ115 g' z0 z1 < μ115 g x1 x3) K g x1 x3)
def kX8_digest (P : Sk) (f : St) (a : Nat) (K : Int64 → St → Prop) : Prop := ∃ A, MIs f a A ∧ ∀ g, An f g a → MIs g a A → K (dgs A) g
theorem wX8_digest (P : Sk) (f : St) (a : Nat) (ha : IsModel P a) (K : Int64 → St → Prop) (h : kX8_digest P f a K) : WX8_digest P f a K := by
  obtain ⟨A, hM, hK⟩ := h
  have hb := hM.bok
  have h6 := hb.1
  have ht := hM.tok.1
  have in0 : vp_in 0 160 := vp_nI (i := 0) (by decide) (by decide)
  have in2 : vp_in 2 160 := vp_nI (i := 2) (by decide) (by decide)
  have in3 : vp_in 3 160 := vp_nI (i := 3) (by decide) (by decide)
  have cl2 : (2 : Int32).toNatClampNeg = 2 := by decide
  have cl3 : (3 : Int32).toNatClampNeg = 3 := by decide
  refine ⟨fun g x1 x3 => An f g a ∧ MIs g a A ∧ ∃ k, x3 = nI k ∧ k ≤ 7 ∧ x1 = hN (nB A) k 4051,
    fun g x1 x3 => An f g a ∧ MIs g a A ∧ ∃ k, x3 = nI k ∧ k ≤ A.1.1.length ∧ x1 = hdL A.1.1 k (hN (nB A) 7 4051),
    fun g x1 x3 => An f g a ∧ MIs g a A ∧ ∃ k, x3 = nI k ∧ k ≤ A.2.2.2.length ∧ x1 = hN (fun i => nI (A.2.2.2.getD i 0)) k (31 * dgs2 A + (nI A.2.2.2.length).toInt64),
    fun g x1 x3 => 9000 - x3.toNatClampNeg, fun g x1 x3 => 8000 - x3.toNatClampNeg, fun g x1 x3 => 7000 - x3.toNatClampNeg, ?_, ?_, ?_, ?_⟩
  · unfold vX8_digest
    intro g2 e2
    obtain ⟨M, z, r0⟩ := mi_start hM e2
    exact ⟨r0, M, 0, rfl, by decide, rfl⟩
  · rintro g x1 x3 ⟨r, M, k, rfl, hk, rfl⟩
    unfold bX8_digest_11
    rw [show (7 : Int32) = nI 7 from rfl, nI_leI (by omega) (by omega)]
    refine ⟨fun q => ⟨⟨r, M, 0, rfl, Nat.zero_le _, ?_⟩, ?_⟩, fun q => ?_⟩
    · rw [show k = 7 by omega]
      rfl
    · show 8000 - (0 : Int32).toNatClampNeg < 9000 - (nI k).toNatClampNeg
      rw [tn0, nI_clamp (by omega)]
      omega
    · refine u8_tellsCount M (what := k) (by omega) (fun g2 s2 => ?_)
      intro z ez u eu
      rw [nI_1] at eu
      exact ⟨⟨MF.trans r s2.scr.an, M.scr s2.scr, k + 1, eu, by omega, ez⟩, mu_up eu (by omega) (by omega)⟩
  · rintro g x1 x3 ⟨r, M, k, rfl, hk, rfl⟩
    unfold bX8_digest_38
    rw [tn0, cl2, cl3, show g (a + 1) 0 = nI A.1.1.length from M.1.1, show g (a + 1) 2 = A.1.2.2.1 from M.1.2.2.1, show g (a + 1) 3 = A.1.2.2.2 from M.1.2.2.2.1, nI_leI (by omega) (by omega)]
    refine ⟨in0, fun q => ⟨in2, in3, fun z ez => ?_⟩, fun q => ?_⟩
    · refine ⟨A, M, fun g2 s2 => ?_⟩
      refine ux_bits (shV_nn hb) ?_
      intro u eu w ew
      have M2 := M.scr s2.scr
      refine ⟨⟨MF.trans r s2.scr.an, M2, 0, rfl, Nat.zero_le _, ?_⟩, ?_⟩
      · rw [ew, eu, ez, M2.txm.1, show k = A.1.1.length by omega]
        rfl
      · show 7000 - (0 : Int32).toNatClampNeg < 8000 - (nI k).toNatClampNeg
        rw [tn0, nI_clamp (by omega)]
        omega
    · refine ⟨A.1, k, rfl, by omega, M.1, hb, fun g2 s2 => ?_⟩
      intro u eu
      rw [nI_1] at eu
      exact ⟨⟨MF.trans r s2.scr.an, M.scr s2.scr, k + 1, eu, by omega, rfl⟩, mu_up eu (by omega) (by omega)⟩
  · rintro g x1 x3 ⟨r, M, k, rfl, hk, rfl⟩
    unfold bX8_digest_115
    rw [M.txm.1, nI_leI (by omega) (by omega)]
    refine ⟨fun q => ?_, fun q => ⟨vp_nI (by omega) (by decide), fun z ez u eu => ?_⟩⟩
    · rw [show k = A.2.2.2.length by omega]
      exact hK g r M
    · rw [nI_1] at eu
      rw [nI_clamp (by omega), M.txm.2 k (by omega)] at ez
      exact ⟨⟨r, M, k + 1, eu, by omega, ez⟩, mu_up eu (by omega) (by omega)⟩

theorem metX8_digest (l : Launch) (G : Gl) (P : Sk) (f : St) (sz : Nat) (a : Nat) (ha : IsModel P a) (K : Int64 → St → Prop) (h : kX8_digest P f a K) : Met l yX8_digest (wU yX8_digest cX8_digest 4 (some .long)) rmX8_digest (PcW G P f sz [.ref a]) (QcL G P sz K) 0 0 (frA P sz) := by
  obtain ⟨I11, I38, I115, μ11, μ38, μ115, qh, qh11, qh38, qh115⟩ := wX8_digest P f a ha K h
  exact mX8_digest l G P f sz a ha K I11 μ11 I38 μ38 I115 μ115 qh qh11 qh38 qh115

