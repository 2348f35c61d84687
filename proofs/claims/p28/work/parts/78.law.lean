def jL_law_286 (P : Sk) (Ln : Nat) (xs : Nat → Int32) (a : Nat) (L81 : St → Int32 → Prop) (x2 : Int32) (x3 : Int32) (x4 : Int64) (x6 : Int32) (x7 : Int32) (x8 : Int32) (f : St) : Prop :=
  kX7_count P f a 3 (fun r288 g288 => kX7_count P g288 a 2 (fun r293 g293 => (¬ r288 = r293 → False) ∧ (r288 = r293 → kX7_count P g293 a 2 (fun r301 g301 => kX7_count P g301 a 1 (fun r307 g307 => (r301 = 3 * r307 → ∀ x2_316 : Int32, x2_316 = x2 + 1 → L81 g307 x2_316) ∧ (¬ r301 = 3 * r307 → False)) XF) XF)) XF) XF
def jL_law_237 (P : Sk) (Ln : Nat) (xs : Nat → Int32) (a : Nat) (L81 : St → Int32 → Prop) (x2 : Int32) (x3 : Int32) (x4 : Int64) (x6 : Int32) (x7 : Int32) (f : St) : Prop :=
  kX7_count P f a 0 (fun r243 g243 => kL_low P g243 (x3 >>> (12 &&& 31)) r243 (fun r246 g246 => kL_holds P g246 a r246 (fun r254 g254 => (r254 = 0 → False) ∧ (¬ r254 = 0 → (¬ (x3 >>> (16 &&& 31)) &&& 3 = 0 → jL_law_286 P Ln xs a L81  x2 x3 x4 x6 x7 r246 g254) ∧ ((x3 >>> (16 &&& 31)) &&& 3 = 0 → kL_low P g254 (x3 >>> (18 &&& 31)) 3 (fun r277 g277 => kL_isTwice P g277 a r246 r277 (fun r280 g280 => (r280 = 0 → False) ∧ (¬ r280 = 0 → jL_law_286 P Ln xs a L81  x2 x3 x4 x6 x7 r246 g280)))))))) XF
def jL_law_168 (P : Sk) (Ln : Nat) (xs : Nat → Int32) (a : Nat) (L81 : St → Int32 → Prop) (x2 : Int32) (x3 : Int32) (x4 : Int64) (x6 : Int32) (x7 : Int32) (f : St) : Prop :=
  (x7 = 0 → jL_law_237 P Ln xs a L81  x2 x3 x4 x6 x7 f) ∧ (¬ x7 = 0 → (¬ (x3 >>> (10 &&& 31)) &&& 1 = 0 → jL_law_237 P Ln xs a L81  x2 x3 x4 x6 x7 f) ∧ ((x3 >>> (10 &&& 31)) &&& 1 = 0 → kL_told P f a (fun r183 g183 => kX7_count P g183 a 6 (fun r191 g191 => ∀ x10_196 : Int32, x10_196 = r191 - 1 → kX7_undo P g191 a (fun r199 g199 => (¬ r199 = x10_196 → False) ∧ (r199 = x10_196 → kL_told P g199 a (fun r208 g208 => (¬ lg_cmp r208 x4 = 0 → False) ∧ (lg_cmp r208 x4 = 0 → kL_act P g208 a x3 (fun r219 g219 => (r219 = 0 → False) ∧ (¬ r219 = 0 → kL_told P g219 a (fun r226 g226 => (lg_cmp r226 r183 = 0 → jL_law_237 P Ln xs a L81  x2 x3 x4 x6 x7 g226) ∧ (¬ lg_cmp r226 r183 = 0 → False)))))))) XF) XF)))
def jL_law_148 (P : Sk) (Ln : Nat) (xs : Nat → Int32) (a : Nat) (L81 : St → Int32 → Prop) (x2 : Int32) (x3 : Int32) (x4 : Int64) (x6 : Int32) (x7 : Int32) (y0 : Int32) (y1 : Int32) (f : St) : Prop :=
  (¬ y0 = y1 → False) ∧ (y0 = y1 → (¬ x7 = 0 → jL_law_168 P Ln xs a L81  x2 x3 x4 x6 x7 f) ∧ (x7 = 0 → kL_told P f a (fun r157 g157 => (lg_cmp r157 x4 = 0 → jL_law_168 P Ln xs a L81  x2 x3 x4 x6 x7 g157) ∧ (¬ lg_cmp r157 x4 = 0 → False))))
def bL_law_81 (P : Sk) (Ln : Nat) (xs : Nat → Int32) (a : Nat) (L81 : St → Int32 → Prop) (f : St) (x2 : Int32) : Prop :=
  (32 ≤ x2 → True) ∧ (¬ 32 ≤ x2 → kL_cell Ln xs (1 + x2) f (fun r91 g91 => kL_told P g91 a (fun r96 g96 => kX7_count P g96 a 6 (fun r104 g104 => kL_act P g104 a r91 (fun r111 g111 => kX7_count P g111 a 6 (fun r119 g119 => (r111 = 0 → jL_law_148 P Ln xs a L81  x2 r91 r96 r104 r111 r119 r104 g119) ∧ (¬ r111 = 0 → (6 ≤ r104 → jL_law_148 P Ln xs a L81  x2 r91 r96 r104 r111 r119 6 g119) ∧ (¬ 6 ≤ r104 → jL_law_148 P Ln xs a L81  x2 r91 r96 r104 r111 r119 (r104 + 1) g119))) XF)) XF)))
def vL_law (P : Sk) (Ln : Nat) (xs : Nat → Int32) (a : Nat) (f : St) (L81 : St → Int32 → Prop) : Prop :=
  kL_cell Ln xs 0 f (fun r13 g13 => kL_low P g13 r13 6 (fun r18 g18 => kX7_append P g18 a (50 + r18) (fun r22 g22 => kX7_append P g22 a 58 (fun r29 g29 => kX7_stopped P g29 a 0 (fun r35 g35 => (¬ r35 = (-1) → False) ∧ (r35 = (-1) → kX7_count P g35 a 6 (fun r45 g45 => (¬ r45 = 0 → False) ∧ (r45 = 0 → kX7_lay P g45 a (fun r52 g52 => (¬ r52 = 0 → False) ∧ (r52 = 0 → kX7_count P g52 a 6 (fun r61 g61 => (¬ r61 = 1 → False) ∧ (r61 = 1 → kX7_looseShare P g61 a (fun r69 g69 => (Op.cmpValue (FP.dcmp r69 (FP.dconst1)) .l = 0 → L81 g69 0) ∧ (¬ Op.cmpValue (FP.dcmp r69 (FP.dconst1)) .l = 0 → False)))) XF)) XF)) XF)) XF) XF) XF))
set_option maxRecDepth 20000 in
set_option maxHeartbeats 8000000 in
theorem mL_law {p : Program} {e : Env} {s : State} {m : MethodId} {args : Array Value} {below : List Frame} {meth : Method} {c : Code} {Q : State → Prop} {A : Nat → Prop} (l : Launch) (G : Gl) (P : Sk) (b Ln : Nat) (xs : Nat → Int32) (a : Nat) (ha : IsComp P a) (o : Okk p s m args meth c cL_law RL 11 G A) (hX : va_X b Ln xs s s.heap) (hbl : b < s.heap.size) (hbA : ¬ A b) (f : St) (I81 : St → Int32 → Prop) (μ81 : St → Int32 → Nat)
  (h : vL_law P Ln xs a f I81)
  (h81 : ∀ (g : St) (x2 : Int32) , I81 g x2 → bL_law_81 P Ln xs a (fun g' z0 => I81 g' z0 ∧ μ81 g' z0 < μ81 g x2) g x2)
  (hret : ∀ (lv : List (Nat × Value)) (pc : Nat) (f : St), decode cL_law pc = .ok (.ireturn, 1) → V p l e room_1 s m args below meth c 11 G A Q 1438 10293 P lv [.int 1] pc f) :
  V p l e room_1 s m args below meth c 11 G A Q 1438 10293 P [(0, .ref b), (1, .ref a)] [] 8 f := by
  have main : ∀ n : Nat, (∀ (g : St) (x2 : Int32) , I81 g x2 → μ81 g x2 < n → V p l e room_1 s m args below meth c 11 G A Q 1438 10293 P [(0, .ref b), (1, .ref a), (2, .int x2)] [] 81 g) := by
    intro n
    induction n with
    | zero => exact fun g x2 hI hm => absurd hm (Nat.not_lt_zero _)
    | succ n ih =>
      intro g x2 hI hm
      have h := h81 g x2 hI
      clear hI
      have J286 : ∀ (x2_286 : Int32) (x3_286 : Int32) (x4_286 : Int64) (x6_286 : Int32) (x7_286 : Int32) (x8_286 : Int32) (g286 : St), jL_law_286 P Ln xs a (fun g' z0 => I81 g' z0 ∧ μ81 g' z0 < μ81 g x2)  x2_286 x3_286 x4_286 x6_286 x7_286 x8_286 g286 → V p l e room_1 s m args below meth c 11 G A Q 1438 10293 P [(0, .ref b), (1, .ref a), (2, .int x2_286), (3, .int x3_286), (4, .long x4_286), (6, .int x6_286), (7, .int x7_286), (8, .int x8_286)] [] 286 g286 := by
        intro x2_286 x3_286 x4_286 x6_286 x7_286 x8_286 g286  h
        unfold jL_law_286 at h
        refine v_aload_n o 1 dL_law_286 rfl ?_
        refine v_iconst o (v := 3) dL_law_287 (by decide) ?_
        refine v_cVi o [.int 3] [] (fun sz => metX7_count l G P g286 sz a ha 3 _ h) (cwL_12 o.1.2.2.2.2 (by decide)) ⟨_, _, rfl⟩ (by decide) (wfComp_o ha) rfl (Nat.le_of_ble_eq_true rfl) ⟨Nat.le_of_ble_eq_true rfl, Nat.le_of_ble_eq_true rfl⟩ dL_law_288 rfl (fun r288 g288 h => ?_)
        refine v_aload_n o 1 dL_law_291 rfl ?_
        refine v_iconst o (v := 2) dL_law_292 (by decide) ?_
        refine v_cVi o [.int 2] [.int r288] (fun sz => metX7_count l G P g288 sz a ha 2 _ h) (cwL_12 o.1.2.2.2.2 (by decide)) ⟨_, _, rfl⟩ (by decide) (wfComp_o ha) rfl (Nat.le_of_ble_eq_true rfl) ⟨Nat.le_of_ble_eq_true rfl, Nat.le_of_ble_eq_true rfl⟩ dL_law_293 rfl (fun r293 g293 h => ?_)
        refine v_icmp_ne o (tgt := 314) dL_law_296 (by decide) (fun c296 => ?_) (fun c296 => ?_)
        · replace h := h.1 c296
          refine v_iconst o (v := 0) dL_law_314 (by decide) ?_
          exact False.elim h
        · replace h := h.2 c296
          refine v_aload_n o 1 dL_law_299 rfl ?_
          refine v_iconst o (v := 2) dL_law_300 (by decide) ?_
          refine v_cVi o [.int 2] [] (fun sz => metX7_count l G P g293 sz a ha 2 _ h) (cwL_12 o.1.2.2.2.2 (by decide)) ⟨_, _, rfl⟩ (by decide) (wfComp_o ha) rfl (Nat.le_of_ble_eq_true rfl) ⟨Nat.le_of_ble_eq_true rfl, Nat.le_of_ble_eq_true rfl⟩ dL_law_301 rfl (fun r301 g301 h => ?_)
          refine v_iconst o (v := 3) dL_law_304 (by decide) ?_
          refine v_aload_n o 1 dL_law_305 rfl ?_
          refine v_iconst o (v := 1) dL_law_306 (by decide) ?_
          refine v_cVi o [.int 1] [.int 3, .int r301] (fun sz => metX7_count l G P g301 sz a ha 1 _ h) (cwL_12 o.1.2.2.2.2 (by decide)) ⟨_, _, rfl⟩ (by decide) (wfComp_o ha) rfl (Nat.le_of_ble_eq_true rfl) ⟨Nat.le_of_ble_eq_true rfl, Nat.le_of_ble_eq_true rfl⟩ dL_law_307 rfl (fun r307 g307 h => ?_)
          refine v_imul o dL_law_310 ?_
          refine v_icmp_eq o (tgt := 316) dL_law_311 (by decide) (fun c311 => ?_) (fun c311 => ?_)
          · replace h := h.1 c311
            obtain ⟨x2_316, ex2_316⟩ : ∃ y : Int32, y = x2_286 + 1 := ⟨_, rfl⟩
            replace h := h x2_316 ex2_316
            refine v_iinc o (v := x2_316) (lv' := [(2, .int x2_316), (0, .ref b), (1, .ref a), (3, .int x3_286), (4, .long x4_286), (6, .int x6_286), (7, .int x7_286), (8, .int x8_286)]) 2 dL_law_316 rfl (by rw [ex2_316]; rfl) (by decide) rfl ?_
            refine v_goto o (tgt := 81) dL_law_319 (by decide) ?_
            refine v_sub [1, 2, 0] (lv2 := [(0, .ref b), (1, .ref a), (2, .int x2_316)]) rfl ?_
            exact ih g307 x2_316  h.1 (by have := h.2; omega)
          · replace h := h.2 c311
            refine v_iconst o (v := 0) dL_law_314 (by decide) ?_
            exact False.elim h
      have J237 : ∀ (x2_237 : Int32) (x3_237 : Int32) (x4_237 : Int64) (x6_237 : Int32) (x7_237 : Int32) (g237 : St), jL_law_237 P Ln xs a (fun g' z0 => I81 g' z0 ∧ μ81 g' z0 < μ81 g x2)  x2_237 x3_237 x4_237 x6_237 x7_237 g237 → V p l e room_1 s m args below meth c 11 G A Q 1438 10293 P [(0, .ref b), (1, .ref a), (2, .int x2_237), (3, .int x3_237), (4, .long x4_237), (6, .int x6_237), (7, .int x7_237)] [] 237 g237 := by
        intro x2_237 x3_237 x4_237 x6_237 x7_237 g237  h
        unfold jL_law_237 at h
        refine v_iload_n o 3 dL_law_237 rfl ?_
        refine v_bipush o (v := 12) dL_law_238 (by decide) ?_
        refine v_ishr o dL_law_240 ?_
        refine v_aload_n o 1 dL_law_241 rfl ?_
        refine v_iconst o (v := 0) dL_law_242 (by decide) ?_
        refine v_cVi o [.int 0] [.int (x3_237 >>> (12 &&& 31))] (fun sz => metX7_count l G P g237 sz a ha 0 _ h) (cwL_12 o.1.2.2.2.2 (by decide)) ⟨_, _, rfl⟩ (by decide) (wfComp_o ha) rfl (Nat.le_of_ble_eq_true rfl) ⟨Nat.le_of_ble_eq_true rfl, Nat.le_of_ble_eq_true rfl⟩ dL_law_243 rfl (fun r243 g243 h => ?_)
        refine v_cSi o [.int (x3_237 >>> (12 &&& 31)), .int r243] [] (fun sz => metL_low l G P g243 sz (x3_237 >>> (12 &&& 31)) r243 _ h) (cwL_29 o.1.2.2.2.2 (by decide)) rfl (Nat.le_of_ble_eq_true rfl) ⟨Nat.le_of_ble_eq_true rfl, Nat.le_of_ble_eq_true rfl⟩ dL_law_246 rfl (fun r246 g246 h => ?_)
        refine v_istore o (lv' := [(8, .int r246), (0, .ref b), (1, .ref a), (2, .int x2_237), (3, .int x3_237), (4, .long x4_237), (6, .int x6_237), (7, .int x7_237)]) dL_law_249 (by decide) rfl ?_
        refine v_aload_n o 2 dL_law_251 rfl ?_
        refine v_iload o 0 dL_law_252 rfl ?_
        refine v_cSi o [.ref a, .int r246] [] (fun sz => metL_holds l G P g246 sz a ha r246 _ h) (cwL_89 o.1.2.2.2.2 (by decide)) rfl (Nat.le_of_ble_eq_true rfl) ⟨Nat.le_of_ble_eq_true rfl, Nat.le_of_ble_eq_true rfl⟩ dL_law_254 rfl (fun r254 g254 h => ?_)
        refine v_if_eq o (tgt := 314) dL_law_257 (by decide) (fun c257 => ?_) (fun c257 => ?_)
        · replace h := h.1 c257
          refine v_iconst o (v := 0) dL_law_314 (by decide) ?_
          exact False.elim h
        · replace h := h.2 c257
          refine v_iload_n o 4 dL_law_260 rfl ?_
          refine v_bipush o (v := 16) dL_law_261 (by decide) ?_
          refine v_ishr o dL_law_263 ?_
          refine v_iconst o (v := 3) dL_law_264 (by decide) ?_
          refine v_iand o dL_law_265 ?_
          refine v_if_ne o (tgt := 286) dL_law_266 (by decide) (fun c266 => ?_) (fun c266 => ?_)
          · replace h := h.1 c266
            refine v_sub [1, 2, 3, 4, 5, 6, 7, 0] (lv2 := [(0, .ref b), (1, .ref a), (2, .int x2_237), (3, .int x3_237), (4, .long x4_237), (6, .int x6_237), (7, .int x7_237), (8, .int r246)]) rfl ?_
            exact J286 x2_237 x3_237 x4_237 x6_237 x7_237 r246 g254  h
          · replace h := h.2 c266
            refine v_aload_n o 2 dL_law_269 rfl ?_
            refine v_iload o 0 dL_law_270 rfl ?_
            refine v_iload_n o 4 dL_law_272 rfl ?_
            refine v_bipush o (v := 18) dL_law_273 (by decide) ?_
            refine v_ishr o dL_law_275 ?_
            refine v_iconst o (v := 3) dL_law_276 (by decide) ?_
            refine v_cSi o [.int (x3_237 >>> (18 &&& 31)), .int 3] [.int r246, .ref a] (fun sz => metL_low l G P g254 sz (x3_237 >>> (18 &&& 31)) 3 _ h) (cwL_29 o.1.2.2.2.2 (by decide)) rfl (Nat.le_of_ble_eq_true rfl) ⟨Nat.le_of_ble_eq_true rfl, Nat.le_of_ble_eq_true rfl⟩ dL_law_277 rfl (fun r277 g277 h => ?_)
            refine v_cSi o [.ref a, .int r246, .int r277] [] (fun sz => metL_isTwice l G P g277 sz a ha r246 r277 _ h) (cwL_92 o.1.2.2.2.2 (by decide)) rfl (Nat.le_of_ble_eq_true rfl) ⟨Nat.le_of_ble_eq_true rfl, Nat.le_of_ble_eq_true rfl⟩ dL_law_280 rfl (fun r280 g280 h => ?_)
            refine v_if_eq o (tgt := 314) dL_law_283 (by decide) (fun c283 => ?_) (fun c283 => ?_)
            · replace h := h.1 c283
              refine v_iconst o (v := 0) dL_law_314 (by decide) ?_
              exact False.elim h
            · replace h := h.2 c283
              refine v_sub [1, 2, 3, 4, 5, 6, 7, 0] (lv2 := [(0, .ref b), (1, .ref a), (2, .int x2_237), (3, .int x3_237), (4, .long x4_237), (6, .int x6_237), (7, .int x7_237), (8, .int r246)]) rfl ?_
              exact J286 x2_237 x3_237 x4_237 x6_237 x7_237 r246 g280  h
      have J168 : ∀ (x2_168 : Int32) (x3_168 : Int32) (x4_168 : Int64) (x6_168 : Int32) (x7_168 : Int32) (g168 : St), jL_law_168 P Ln xs a (fun g' z0 => I81 g' z0 ∧ μ81 g' z0 < μ81 g x2)  x2_168 x3_168 x4_168 x6_168 x7_168 g168 → V p l e room_1 s m args below meth c 11 G A Q 1438 10293 P [(0, .ref b), (1, .ref a), (2, .int x2_168), (3, .int x3_168), (4, .long x4_168), (6, .int x6_168), (7, .int x7_168)] [] 168 g168 := by
        intro x2_168 x3_168 x4_168 x6_168 x7_168 g168  h
        unfold jL_law_168 at h
        refine v_iload o 6 dL_law_168 rfl ?_
        refine v_if_eq o (tgt := 237) dL_law_170 (by decide) (fun c170 => ?_) (fun c170 => ?_)
        · replace h := h.1 c170
          refine v_sub [0, 1, 2, 3, 4, 5, 6] (lv2 := [(0, .ref b), (1, .ref a), (2, .int x2_168), (3, .int x3_168), (4, .long x4_168), (6, .int x6_168), (7, .int x7_168)]) rfl ?_
          exact J237 x2_168 x3_168 x4_168 x6_168 x7_168 g168  h
        · replace h := h.2 c170
          refine v_iload_n o 3 dL_law_173 rfl ?_
          refine v_bipush o (v := 10) dL_law_174 (by decide) ?_
          refine v_ishr o dL_law_176 ?_
          refine v_iconst o (v := 1) dL_law_177 (by decide) ?_
          refine v_iand o dL_law_178 ?_
          refine v_if_ne o (tgt := 237) dL_law_179 (by decide) (fun c179 => ?_) (fun c179 => ?_)
          · replace h := h.1 c179
            refine v_sub [0, 1, 2, 3, 4, 5, 6] (lv2 := [(0, .ref b), (1, .ref a), (2, .int x2_168), (3, .int x3_168), (4, .long x4_168), (6, .int x6_168), (7, .int x7_168)]) rfl ?_
            exact J237 x2_168 x3_168 x4_168 x6_168 x7_168 g168  h
          · replace h := h.2 c179
            refine v_aload_n o 1 dL_law_182 rfl ?_
            refine v_cSl o [.ref a] [] (fun sz => metL_told l G P g168 sz a ha _ h) (cwL_69 o.1.2.2.2.2 (by decide)) rfl (Nat.le_of_ble_eq_true rfl) ⟨Nat.le_of_ble_eq_true rfl, Nat.le_of_ble_eq_true rfl⟩ dL_law_183 rfl (fun r183 g183 h => ?_)
            refine v_lstore o (lv' := [(8, .long r183), (0, .ref b), (1, .ref a), (2, .int x2_168), (3, .int x3_168), (4, .long x4_168), (6, .int x6_168), (7, .int x7_168)]) dL_law_186 (by decide) rfl ?_
            refine v_aload_n o 2 dL_law_188 rfl ?_
            refine v_bipush o (v := 6) dL_law_189 (by decide) ?_
            refine v_cVi o [.int 6] [] (fun sz => metX7_count l G P g183 sz a ha 6 _ h) (cwL_12 o.1.2.2.2.2 (by decide)) ⟨_, _, rfl⟩ (by decide) (wfComp_o ha) rfl (Nat.le_of_ble_eq_true rfl) ⟨Nat.le_of_ble_eq_true rfl, Nat.le_of_ble_eq_true rfl⟩ dL_law_191 rfl (fun r191 g191 h => ?_)
            refine v_iconst o (v := 1) dL_law_194 (by decide) ?_
            refine v_isub o dL_law_195 ?_
            refine v_topi (fun x10_196 ex10_196 => ?_)
            replace h := h x10_196 ex10_196
            refine v_istore o (lv' := [(10, .int x10_196), (8, .long r183), (0, .ref b), (1, .ref a), (2, .int x2_168), (3, .int x3_168), (4, .long x4_168), (6, .int x6_168), (7, .int x7_168)]) dL_law_196 (by decide) rfl ?_
            refine v_aload_n o 3 dL_law_198 rfl ?_
            refine v_cVi o [] [] (fun sz => metX7_undo l G P g191 sz a ha _ h) (cwL_73 o.1.2.2.2.2 (by decide)) ⟨_, _, rfl⟩ (by decide) (wfComp_o ha) rfl (Nat.le_of_ble_eq_true rfl) ⟨Nat.le_of_ble_eq_true rfl, Nat.le_of_ble_eq_true rfl⟩ dL_law_199 rfl (fun r199 g199 h => ?_)
            refine v_iload o 0 dL_law_202 rfl ?_
            refine v_icmp_ne o (tgt := 235) dL_law_204 (by decide) (fun c204 => ?_) (fun c204 => ?_)
            · replace h := h.1 c204
              refine v_iconst o (v := 0) dL_law_235 (by decide) ?_
              exact False.elim h
            · replace h := h.2 c204
              refine v_aload_n o 3 dL_law_207 rfl ?_
              refine v_cSl o [.ref a] [] (fun sz => metL_told l G P g199 sz a ha _ h) (cwL_69 o.1.2.2.2.2 (by decide)) rfl (Nat.le_of_ble_eq_true rfl) ⟨Nat.le_of_ble_eq_true rfl, Nat.le_of_ble_eq_true rfl⟩ dL_law_208 rfl (fun r208 g208 h => ?_)
              refine v_lload o 6 dL_law_211 rfl ?_
              refine v_lcmp o dL_law_213 ?_
              refine v_if_ne o (tgt := 235) dL_law_214 (by decide) (fun c214 => ?_) (fun c214 => ?_)
              · replace h := h.1 c214
                refine v_iconst o (v := 0) dL_law_235 (by decide) ?_
                exact False.elim h
              · replace h := h.2 c214
                refine v_aload_n o 3 dL_law_217 rfl ?_
                refine v_iload_n o 5 dL_law_218 rfl ?_
                refine v_cSi o [.ref a, .int x3_168] [] (fun sz => metL_act l G P g208 sz a ha x3_168 _ h) (cwL_85 o.1.2.2.2.2 (by decide)) rfl (Nat.le_of_ble_eq_true rfl) ⟨Nat.le_of_ble_eq_true rfl, Nat.le_of_ble_eq_true rfl⟩ dL_law_219 rfl (fun r219 g219 h => ?_)
                refine v_if_eq o (tgt := 235) dL_law_222 (by decide) (fun c222 => ?_) (fun c222 => ?_)
                · replace h := h.1 c222
                  refine v_iconst o (v := 0) dL_law_235 (by decide) ?_
                  exact False.elim h
                · replace h := h.2 c222
                  refine v_aload_n o 3 dL_law_225 rfl ?_
                  refine v_cSl o [.ref a] [] (fun sz => metL_told l G P g219 sz a ha _ h) (cwL_69 o.1.2.2.2.2 (by decide)) rfl (Nat.le_of_ble_eq_true rfl) ⟨Nat.le_of_ble_eq_true rfl, Nat.le_of_ble_eq_true rfl⟩ dL_law_226 rfl (fun r226 g226 h => ?_)
                  refine v_lload o 1 dL_law_229 rfl ?_
                  refine v_lcmp o dL_law_231 ?_
                  refine v_if_eq o (tgt := 237) dL_law_232 (by decide) (fun c232 => ?_) (fun c232 => ?_)
                  · replace h := h.1 c232
                    refine v_sub [2, 3, 4, 5, 6, 7, 8] (lv2 := [(0, .ref b), (1, .ref a), (2, .int x2_168), (3, .int x3_168), (4, .long x4_168), (6, .int x6_168), (7, .int x7_168)]) rfl ?_
                    exact J237 x2_168 x3_168 x4_168 x6_168 x7_168 g226  h
                  · replace h := h.2 c232
                    refine v_iconst o (v := 0) dL_law_235 (by decide) ?_
                    exact False.elim h
      have J148 : ∀ (x2_148 : Int32) (x3_148 : Int32) (x4_148 : Int64) (x6_148 : Int32) (x7_148 : Int32) (y0_148 : Int32) (y1_148 : Int32) (g148 : St), jL_law_148 P Ln xs a (fun g' z0 => I81 g' z0 ∧ μ81 g' z0 < μ81 g x2)  x2_148 x3_148 x4_148 x6_148 x7_148 y0_148 y1_148 g148 → V p l e room_1 s m args below meth c 11 G A Q 1438 10293 P [(0, .ref b), (1, .ref a), (2, .int x2_148), (3, .int x3_148), (4, .long x4_148), (6, .int x6_148), (7, .int x7_148)] [.int y1_148, .int y0_148] 148 g148 := by
        intro x2_148 x3_148 x4_148 x6_148 x7_148 y0_148 y1_148 g148  h
        unfold jL_law_148 at h
        refine v_icmp_ne o (tgt := 166) dL_law_148 (by decide) (fun c148 => ?_) (fun c148 => ?_)
        · replace h := h.1 c148
          refine v_iconst o (v := 0) dL_law_166 (by decide) ?_
          exact False.elim h
        · replace h := h.2 c148
          refine v_iload o 6 dL_law_151 rfl ?_
          refine v_if_ne o (tgt := 168) dL_law_153 (by decide) (fun c153 => ?_) (fun c153 => ?_)
          · replace h := h.1 c153
            refine v_sub [0, 1, 2, 3, 4, 5, 6] (lv2 := [(0, .ref b), (1, .ref a), (2, .int x2_148), (3, .int x3_148), (4, .long x4_148), (6, .int x6_148), (7, .int x7_148)]) rfl ?_
            exact J168 x2_148 x3_148 x4_148 x6_148 x7_148 g148  h
          · replace h := h.2 c153
            refine v_aload_n o 1 dL_law_156 rfl ?_
            refine v_cSl o [.ref a] [] (fun sz => metL_told l G P g148 sz a ha _ h) (cwL_69 o.1.2.2.2.2 (by decide)) rfl (Nat.le_of_ble_eq_true rfl) ⟨Nat.le_of_ble_eq_true rfl, Nat.le_of_ble_eq_true rfl⟩ dL_law_157 rfl (fun r157 g157 h => ?_)
            refine v_lload o 4 dL_law_160 rfl ?_
            refine v_lcmp o dL_law_162 ?_
            refine v_if_eq o (tgt := 168) dL_law_163 (by decide) (fun c163 => ?_) (fun c163 => ?_)
            · replace h := h.1 c163
              refine v_sub [0, 1, 2, 3, 4, 5, 6] (lv2 := [(0, .ref b), (1, .ref a), (2, .int x2_148), (3, .int x3_148), (4, .long x4_148), (6, .int x6_148), (7, .int x7_148)]) rfl ?_
              exact J168 x2_148 x3_148 x4_148 x6_148 x7_148 g157  h
            · replace h := h.2 c163
              refine v_iconst o (v := 0) dL_law_166 (by decide) ?_
              exact False.elim h
      unfold bL_law_81 at h
      refine v_iload_n o 2 dL_law_81 rfl ?_
      refine v_bipush o (v := 32) dL_law_82 (by decide) ?_
      refine v_icmp_ge o (tgt := 322) dL_law_84 (by decide) (fun c84 => ?_) (fun c84 => ?_)
      · replace h := h.1 c84
        refine v_iconst o (v := 1) dL_law_322 (by decide) ?_
        exact hret _ _ _ dL_law_323
      · replace h := h.2 c84
        refine v_aload_n o 0 dL_law_87 rfl ?_
        refine v_iconst o (v := 1) dL_law_88 (by decide) ?_
        refine v_iload_n o 2 dL_law_89 rfl ?_
        refine v_iadd o dL_law_90 ?_
        refine v_cSs o hX hbl hbA [.ref b, .int (1 + x2)] [] (fun sz => metL_cell l G P g b Ln xs sz (1 + x2) _ h) (cwL_77 o.1.2.2.2.2 (by decide)) rfl (Nat.le_of_ble_eq_true rfl) ⟨Nat.le_of_ble_eq_true rfl, Nat.le_of_ble_eq_true rfl⟩ dL_law_91 rfl (fun r91 g91 h => ?_)
        refine v_istore_n o (lv' := [(3, .int r91), (0, .ref b), (1, .ref a), (2, .int x2)]) dL_law_94 rfl (by decide) rfl ?_
        refine v_aload_n o 2 dL_law_95 rfl ?_
        refine v_cSl o [.ref a] [] (fun sz => metL_told l G P g91 sz a ha _ h) (cwL_69 o.1.2.2.2.2 (by decide)) rfl (Nat.le_of_ble_eq_true rfl) ⟨Nat.le_of_ble_eq_true rfl, Nat.le_of_ble_eq_true rfl⟩ dL_law_96 rfl (fun r96 g96 h => ?_)
        refine v_lstore o (lv' := [(4, .long r96), (3, .int r91), (0, .ref b), (1, .ref a), (2, .int x2)]) dL_law_99 (by decide) rfl ?_
        refine v_aload_n o 3 dL_law_101 rfl ?_
        refine v_bipush o (v := 6) dL_law_102 (by decide) ?_
        refine v_cVi o [.int 6] [] (fun sz => metX7_count l G P g96 sz a ha 6 _ h) (cwL_12 o.1.2.2.2.2 (by decide)) ⟨_, _, rfl⟩ (by decide) (wfComp_o ha) rfl (Nat.le_of_ble_eq_true rfl) ⟨Nat.le_of_ble_eq_true rfl, Nat.le_of_ble_eq_true rfl⟩ dL_law_104 rfl (fun r104 g104 h => ?_)
        refine v_istore o (lv' := [(6, .int r104), (4, .long r96), (3, .int r91), (0, .ref b), (1, .ref a), (2, .int x2)]) dL_law_107 (by decide) rfl ?_
        refine v_aload_n o 4 dL_law_109 rfl ?_
        refine v_iload_n o 2 dL_law_110 rfl ?_
        refine v_cSi o [.ref a, .int r91] [] (fun sz => metL_act l G P g104 sz a ha r91 _ h) (cwL_85 o.1.2.2.2.2 (by decide)) rfl (Nat.le_of_ble_eq_true rfl) ⟨Nat.le_of_ble_eq_true rfl, Nat.le_of_ble_eq_true rfl⟩ dL_law_111 rfl (fun r111 g111 h => ?_)
        refine v_istore o (lv' := [(7, .int r111), (6, .int r104), (4, .long r96), (3, .int r91), (0, .ref b), (1, .ref a), (2, .int x2)]) dL_law_114 (by decide) rfl ?_
        refine v_aload_n o 5 dL_law_116 rfl ?_
        refine v_bipush o (v := 6) dL_law_117 (by decide) ?_
        refine v_cVi o [.int 6] [] (fun sz => metX7_count l G P g111 sz a ha 6 _ h) (cwL_12 o.1.2.2.2.2 (by decide)) ⟨_, _, rfl⟩ (by decide) (wfComp_o ha) rfl (Nat.le_of_ble_eq_true rfl) ⟨Nat.le_of_ble_eq_true rfl, Nat.le_of_ble_eq_true rfl⟩ dL_law_119 rfl (fun r119 g119 h => ?_)
        refine v_iload o 0 dL_law_122 rfl ?_
        refine v_if_eq o (tgt := 146) dL_law_124 (by decide) (fun c124 => ?_) (fun c124 => ?_)
        · replace h := h.1 c124
          refine v_iload o 1 dL_law_146 rfl ?_
          refine v_sub [4, 5, 6, 3, 2, 1, 0] (lv2 := [(0, .ref b), (1, .ref a), (2, .int x2), (3, .int r91), (4, .long r96), (6, .int r104), (7, .int r111)]) rfl ?_
          exact J148 x2 r91 r96 r104 r111 r119 r104 g119  h
        · replace h := h.2 c124
          refine v_iload o 1 dL_law_127 rfl ?_
          refine v_bipush o (v := 6) dL_law_129 (by decide) ?_
          refine v_icmp_ge o (tgt := 141) dL_law_131 (by decide) (fun c131 => ?_) (fun c131 => ?_)
          · replace h := h.1 c131
            refine v_bipush o (v := 6) dL_law_141 (by decide) ?_
            refine v_goto o (tgt := 148) dL_law_143 (by decide) ?_
            refine v_sub [4, 5, 6, 3, 2, 1, 0] (lv2 := [(0, .ref b), (1, .ref a), (2, .int x2), (3, .int r91), (4, .long r96), (6, .int r104), (7, .int r111)]) rfl ?_
            exact J148 x2 r91 r96 r104 r111 r119 6 g119  h
          · replace h := h.2 c131
            refine v_iload o 1 dL_law_134 rfl ?_
            refine v_iconst o (v := 1) dL_law_136 (by decide) ?_
            refine v_iadd o dL_law_137 ?_
            refine v_goto o (tgt := 148) dL_law_138 (by decide) ?_
            refine v_sub [4, 5, 6, 3, 2, 1, 0] (lv2 := [(0, .ref b), (1, .ref a), (2, .int x2), (3, .int r91), (4, .long r96), (6, .int r104), (7, .int r111)]) rfl ?_
            exact J148 x2 r91 r96 r104 r111 r119 (r104 + 1) g119  h
  unfold vL_law at h
  refine v_aload_n o 1 dL_law_8 rfl ?_
  refine v_bipush o (v := 50) dL_law_9 (by decide) ?_
  refine v_aload_n o 0 dL_law_11 rfl ?_
  refine v_iconst o (v := 0) dL_law_12 (by decide) ?_
  refine v_cSs o hX hbl hbA [.ref b, .int 0] [.int 50, .ref a] (fun sz => metL_cell l G P f b Ln xs sz 0 _ h) (cwL_77 o.1.2.2.2.2 (by decide)) rfl (Nat.le_of_ble_eq_true rfl) ⟨Nat.le_of_ble_eq_true rfl, Nat.le_of_ble_eq_true rfl⟩ dL_law_13 rfl (fun r13 g13 h => ?_)
  refine v_bipush o (v := 6) dL_law_16 (by decide) ?_
  refine v_cSi o [.int r13, .int 6] [.int 50, .ref a] (fun sz => metL_low l G P g13 sz r13 6 _ h) (cwL_29 o.1.2.2.2.2 (by decide)) rfl (Nat.le_of_ble_eq_true rfl) ⟨Nat.le_of_ble_eq_true rfl, Nat.le_of_ble_eq_true rfl⟩ dL_law_18 rfl (fun r18 g18 h => ?_)
  refine v_iadd o dL_law_21 ?_
  refine v_cVi o [.int (50 + r18)] [] (fun sz => metX7_append l G P g18 sz a ha (50 + r18) _ h) (cwL_48 o.1.2.2.2.2 (by decide)) ⟨_, _, rfl⟩ (by decide) (wfComp_o ha) rfl (Nat.le_of_ble_eq_true rfl) ⟨Nat.le_of_ble_eq_true rfl, Nat.le_of_ble_eq_true rfl⟩ dL_law_22 rfl (fun r22 g22 h => ?_)
  refine v_pop o dL_law_25 rfl ?_
  refine v_aload_n o 1 dL_law_26 rfl ?_
  refine v_bipush o (v := 58) dL_law_27 (by decide) ?_
  refine v_cVi o [.int 58] [] (fun sz => metX7_append l G P g22 sz a ha 58 _ h) (cwL_48 o.1.2.2.2.2 (by decide)) ⟨_, _, rfl⟩ (by decide) (wfComp_o ha) rfl (Nat.le_of_ble_eq_true rfl) ⟨Nat.le_of_ble_eq_true rfl, Nat.le_of_ble_eq_true rfl⟩ dL_law_29 rfl (fun r29 g29 h => ?_)
  refine v_pop o dL_law_32 rfl ?_
  refine v_aload_n o 1 dL_law_33 rfl ?_
  refine v_iconst o (v := 0) dL_law_34 (by decide) ?_
  refine v_cVi o [.int 0] [] (fun sz => metX7_stopped l G P g29 sz a ha 0 _ h) (cwL_18 o.1.2.2.2.2 (by decide)) ⟨_, _, rfl⟩ (by decide) (wfComp_o ha) rfl (Nat.le_of_ble_eq_true rfl) ⟨Nat.le_of_ble_eq_true rfl, Nat.le_of_ble_eq_true rfl⟩ dL_law_35 rfl (fun r35 g35 h => ?_)
  refine v_iconst o (v := (-1)) dL_law_38 (by decide) ?_
  refine v_icmp_ne o (tgt := 77) dL_law_39 (by decide) (fun c39 => ?_) (fun c39 => ?_)
  · replace h := h.1 c39
    refine v_iconst o (v := 0) dL_law_77 (by decide) ?_
    exact False.elim h
  · replace h := h.2 c39
    refine v_aload_n o 1 dL_law_42 rfl ?_
    refine v_bipush o (v := 6) dL_law_43 (by decide) ?_
    refine v_cVi o [.int 6] [] (fun sz => metX7_count l G P g35 sz a ha 6 _ h) (cwL_12 o.1.2.2.2.2 (by decide)) ⟨_, _, rfl⟩ (by decide) (wfComp_o ha) rfl (Nat.le_of_ble_eq_true rfl) ⟨Nat.le_of_ble_eq_true rfl, Nat.le_of_ble_eq_true rfl⟩ dL_law_45 rfl (fun r45 g45 h => ?_)
    refine v_if_ne o (tgt := 77) dL_law_48 (by decide) (fun c48 => ?_) (fun c48 => ?_)
    · replace h := h.1 c48
      refine v_iconst o (v := 0) dL_law_77 (by decide) ?_
      exact False.elim h
    · replace h := h.2 c48
      refine v_aload_n o 1 dL_law_51 rfl ?_
      refine v_cVi o [] [] (fun sz => metX7_lay l G P g45 sz a ha _ h) (cwL_54 o.1.2.2.2.2 (by decide)) ⟨_, _, rfl⟩ (by decide) (wfComp_o ha) rfl (Nat.le_of_ble_eq_true rfl) ⟨Nat.le_of_ble_eq_true rfl, Nat.le_of_ble_eq_true rfl⟩ dL_law_52 rfl (fun r52 g52 h => ?_)
      refine v_if_ne o (tgt := 77) dL_law_55 (by decide) (fun c55 => ?_) (fun c55 => ?_)
      · replace h := h.1 c55
        refine v_iconst o (v := 0) dL_law_77 (by decide) ?_
        exact False.elim h
      · replace h := h.2 c55
        refine v_aload_n o 1 dL_law_58 rfl ?_
        refine v_bipush o (v := 6) dL_law_59 (by decide) ?_
        refine v_cVi o [.int 6] [] (fun sz => metX7_count l G P g52 sz a ha 6 _ h) (cwL_12 o.1.2.2.2.2 (by decide)) ⟨_, _, rfl⟩ (by decide) (wfComp_o ha) rfl (Nat.le_of_ble_eq_true rfl) ⟨Nat.le_of_ble_eq_true rfl, Nat.le_of_ble_eq_true rfl⟩ dL_law_61 rfl (fun r61 g61 h => ?_)
        refine v_iconst o (v := 1) dL_law_64 (by decide) ?_
        refine v_icmp_ne o (tgt := 77) dL_law_65 (by decide) (fun c65 => ?_) (fun c65 => ?_)
        · replace h := h.1 c65
          refine v_iconst o (v := 0) dL_law_77 (by decide) ?_
          exact False.elim h
        · replace h := h.2 c65
          refine v_aload_n o 1 dL_law_68 rfl ?_
          refine v_cVd o [] [] (fun sz => metX7_looseShare l G P g61 sz a ha _ h) (cwL_81 o.1.2.2.2.2 (by decide)) ⟨_, _, rfl⟩ (by decide) (wfComp_o ha) rfl (Nat.le_of_ble_eq_true rfl) ⟨Nat.le_of_ble_eq_true rfl, Nat.le_of_ble_eq_true rfl⟩ dL_law_69 rfl (fun r69 g69 h => ?_)
          refine v_dconst1 o dL_law_72 ?_
          refine v_dcmp o dL_law_73 ?_
          refine v_if_eq o (tgt := 79) dL_law_74 (by decide) (fun c74 => ?_) (fun c74 => ?_)
          · replace h := h.1 c74
            refine v_iconst o (v := 0) dL_law_79 (by decide) ?_
            refine v_istore_n o (lv' := [(2, .int 0), (0, .ref b), (1, .ref a)]) dL_law_80 rfl (by decide) rfl ?_
            refine v_sub [1, 2, 0] (lv2 := [(0, .ref b), (1, .ref a), (2, .int 0)]) rfl ?_
            exact (main (μ81 g69 0 + 1)) g69 0  h (Nat.lt_succ_self _)
          · replace h := h.2 c74
            refine v_iconst o (v := 0) dL_law_77 (by decide) ?_
            exact False.elim h
def eL_law (sz : Nat) (Pz : Sk) (f0 : St) (K : Sk → St → Prop) : Prop :=
  (COk Pz Pz sz 0) ∧ (∀ P0 : Sk, P0 = pNew Pz (sz + 0) 7 0 → ∀ g0 : St, g0 = va_up f0 (sz + 0) z0 → (COk Pz P0 sz 1) ∧ (kX7_init P0 g0 (sz + 1) (sz + 0) K))
set_option maxRecDepth 20000 in
set_option maxHeartbeats 8000000 in
theorem mEnt {p : Program} {e : Env} {s : State} {m : MethodId} {args : Array Value} {below : List Frame} {meth : Method} {c : Code} {b : Nat} {Q : State → Prop} {Pz : Sk} (l : Launch) (G : Gl) (sz : Nat) (o : Okk p s m args meth c cL_law RL 11 G (frA Pz sz)) (hsz : s.heap.size = sz) (hAe : frA Pz sz = frA Pz sz) (hO : AO s) (f0 : St) (K : Sk → St → Prop) (h : eL_law sz Pz f0 K)
  (kk : ∀ P f, K P f → V p l e room_1 s m args below meth c 11 G (frA Pz sz) Q 1438 10293 P [(0, .ref b), (1, .ref (sz + 0))] [] 8 f) : V p l e room_1 s m args below meth c 11 G (frA Pz sz) Q 0 0 Pz [(0, .ref b)] [] 0 f0 := by
  unfold eL_law at h
  refine v_new o hsz hAe h.1.1 h.1.2 lnL_13 ⟨Nat.le_of_ble_eq_true rfl, Nat.le_of_ble_eq_true rfl⟩ dL_law_0 ?_
  replace h := h.2
  generalize eP0 : pNew Pz (sz + 0) 7 0 = P0
  replace h := h P0 eP0.symm
  generalize eg0 : va_up f0 (sz + 0) z0 = g0
  replace h := h g0 eg0.symm
  refine v_eqc (c2 := 1) (s2 := 8) (by rfl) (by rfl) ?_
  refine v_dup o dL_law_3 rfl ?_
  have hq := h.1
  replace h := h.2
  refine v_cI o hsz hAe hq.1 hq.2 hO [] [.ref (sz + 0)] (metX7_init l G P0 g0 (sz + 1) (sz + 0) _ h) (cwI 0 o.1.2.2.2.2 (gUc (mU 46 (by decide +kernel) rfl)) rfl rfl rfl (o.1.2.2.2.2 _ (mU 26 (by decide +kernel) rfl)) (o.1.2.2.2.2 _ (mU 44 (by decide +kernel) rfl)) (o.1.2.2.2.2 _ (mU 45 (by decide +kernel) rfl)) rfl ⟨by decide +kernel, by decide +kernel, by decide +kernel⟩ ⟨Nat.le_of_ble_eq_true rfl, Nat.le_of_ble_eq_true rfl⟩) rfl (Nat.le_of_ble_eq_true rfl) ⟨Nat.le_of_ble_eq_true rfl, Nat.le_of_ble_eq_true rfl⟩ dL_law_4 rfl (fun P4 g4 h => ?_)
  refine v_eqc (c2 := 1438) (s2 := 10293) (by rfl) (by rfl) ?_
  refine v_astore_n o (lv' := [(1, .ref (sz + 0)), (0, .ref b)]) dL_law_7 rfl (by decide) rfl ?_
  refine v_sub [1, 0] (lv2 := [(0, .ref b), (1, .ref (sz + 0))]) rfl ?_
  exact kk P4 g4 h
