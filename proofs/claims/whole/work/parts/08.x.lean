/-! methods that throw, over the V layer -/
def strs : List (Nat × String) := [(60, "the buffer is not a complete loaf"), (71, "there are 6 loaves"), (85, "a strand would use more than its dough"), (150, "no character of the buffer"), (153, "the buffer is full"), (167, "the buffer is not complete works"), (191, "there is no saved state"), (198, "there is no snapshot"), (255, "no such loaf"), (261, "no such place"), (263, "out of range"), (265, "it cannot be done")]
def ncs : List (String × String) := [("java/lang/IllegalArgumentException", "java/lang/IllegalStateException"), ("java/lang/IllegalArgumentException", "java/lang/IndexOutOfBoundsException"), ("java/lang/IllegalStateException", "java/lang/IllegalArgumentException"), ("java/lang/IllegalStateException", "java/lang/IndexOutOfBoundsException"), ("java/lang/IndexOutOfBoundsException", "java/lang/IllegalArgumentException"), ("java/lang/IndexOutOfBoundsException", "java/lang/IllegalStateException")]
def isB : Cond → Bool
  | .castable _ _ => true
  | .declares _ => true
  | _ => false
def lw_B : List Cond := lw_tbl.filter isB
/-- what a throw needs of the state beside the words: the statics, the texts, the words that only the tables decide -/
def TH (A : Nat → Prop) (U : State) (H : Heap) : Prop := vx_Zq Bundle.tN "UNASSIGNED_STACK" Bundle.steD A U H ∧ vx_Zq Bundle.tN "SUPPRESSED_SENTINEL" Bundle.listD A U H ∧ (∀ q ∈ strs, ∃ sa, vk_R RX7 q.1 q.2 sa U) ∧ (∀ w ∈ lw_B, va_Nw w U) ∧ ∀ q ∈ ncs, va_Nc q.1 q.2 U
theorem nb_warm {w : Cond} {s U : State} (hw : w ∈ lw_B) (hW : s.WarmedH U.vm) (h : va_Nw w s) : va_Nw w U := by
  have hb : isB w = true := (List.mem_filter.mp hw).2
  cases w with
  | castable C T => exact va_Nw.warmC hW h
  | declares x => exact va_Nw.warmD hW h
  | _ => cases hb
theorem TH.warm {A : Nat → Prop} {s U : State} {H : Heap} (h : TH A s H) (hW : s.WarmedH U.vm) : TH A U H := by
  obtain ⟨h1, h2, h3, h4, h5⟩ := h
  exact ⟨vx_Zq.moved hW.alike h1, vx_Zq.moved hW.alike h2, fun q hq => (h3 q hq).elim fun sa g => ⟨sa, vk_R.warm hW g⟩, fun w hw => nb_warm hw hW (h4 w hw), fun q hq => va_Nc.moved hW.alike (h5 q hq)⟩
theorem TH.kept {A : Nat → Prop} {s : State} {H H1 : Heap} (h : TH A s H) (hq : ∀ a : Nat, a < H.size → ¬ A a → H1[a]? = H[a]?) : TH A s H1 := ⟨vx_Zq.kept h.1 hq, vx_Zq.kept h.2.1 hq, h.2.2⟩
theorem TH.narrow {A B : Nat → Prop} {s : State} {H : Heap} (h : TH A s H) (hAB : ∀ q, B q → A q) : TH B s H := ⟨vx_Zq.narrow h.1 hAB, vx_Zq.narrow h.2.1 hAB, h.2.2⟩
abbrev PcX (G : Gl) (P : Sk) (f : St) (sz : Nat) (av : List Value) : Array Value → State → Prop := va_Pc av (fun U => U.heap.size = sz ∧ va_P G.1 vwCl (wld G P f) U.heap ∧ va_K G.1 vwCl (tysG G) U ∧ va_D (fun _ => True) (wld G P f) ∧ TH (frA P sz) U U.heap)
abbrev XX (G : Gl) (P : Sk) (sz : Nat) (X : String → St → Prop) : String → State → State → Prop := vx_X (S := St) (fun _ => True) (fun E u t => X E u ∧ WB G P sz u t) (frA P sz)
theorem pcx_blind {G : Gl} {P : Sk} {f : St} {sz : Nat} {av : List Value} : FrameBlind (PcX G P f sz av) := fun a U g mk q => by
  obtain ⟨q0, q1, qP, qK, qD, qT⟩ := q
  exact ⟨q0, q1, qP, va_K.moved (u := U) (U := U.calling g mk a) (Vm.Alike.refl U.vm) qK, qD, TH.warm (U := U.calling g mk a) qT (State.WarmedH.refl U)⟩
section VX
variable {p : Program} {l : Launch} {e : Env} {R : Room} {s : State} {m : MethodId} {args : Array Value} {below : List Frame} {meth : Method} {c : Code} {cc : ByteArray} {own : String} {nL : Nat} {G : Gl} {A : Nat → Prop} {Q : State → Prop} {cells slots : Nat} {P : Sk} {lv : List (Nat × Value)} {stk : List Value} {pc : Nat} {f : St}
theorem v_widen {k n : Nat} (h1 : cells ≤ k) (h2 : slots ≤ n) (kk : V p l e R s m args below meth c nL G A Q k n P lv stk pc f) : V p l e R s m args below meth c nL G A Q cells slots P lv stk pc f := fun H locs ls hP hD hS hl => W.widen h1 h2 (kk H locs ls hP hD hS hl)
theorem v_xret {Qc : Array Value → State → Outcome → State → Prop} {XC : String → State → State → Prop} {mc ms : Nat} {free : Nat → Prop} (h1 : cells ≤ mc) (h2 : slots ≤ ms) (kk : V p l e R s m args below meth c nL G A (MQ below Qc args s mc ms free) mc ms P lv stk pc f) : V p l e R s m args below meth c nL G A (vx_MQ below Qc XC args s mc ms free) cells slots P lv stk pc f := fun H locs ls hP hD hS hl => W.widen h1 h2 (vx_ret (kk H locs ls hP hD hS hl))
/-- the words of a throw of class cls, by the constructor's entry ic -/
def ThW (ik ic : Nat) (cls : String) : Prop := Bundle.fit cls = true ∧ Cond.classLink RX7 ik cls ∈ lw_U ∧ Cond.initialized cls ∈ lw_U ∧ (∀ w ∈ (vx_atS RX7 ic cls ["java/lang/RuntimeException", "java/lang/Exception"]).filter goodWord, w ∈ lw_U) ∧ (∀ w ∈ (vx_atS RX7 ic cls ["java/lang/RuntimeException", "java/lang/Exception"]).filter (fun w => !goodWord w), w ∈ lw_B) ∧ (∀ w ∈ Cond.classLink RX7 ik cls :: Cond.initialized cls :: vx_atS RX7 ic cls ["java/lang/RuntimeException", "java/lang/Exception"], vx_ot w = true)
theorem v_xx {A : Nat → Prop} {X : String → St → Prop} {sz : Nat} {E : String} {H : Heap} {locs : List Loc} (hA : A = frA P sz) (hK : va_K G.1 vwCl (tysG G) s) (hP : va_P G.1 vwCl (wld G P f) H) (hD : va_D A (wld G P f)) (hS : va_S A s.heap H locs) (h : X E f) : ∀ t : State, s.vm.Alike t.vm → H.size ≤ t.heap.size → (∀ q : Nat, q < H.size → t.heap[q]? = H[q]?) → XX G P sz X E s t := by
  subst hA
  intro t hvm hz hq
  refine ⟨f, trivial, ⟨h, hP.kept (fun k q hk => hq q.1 ((hP k q hk).lt)), va_K.moved hvm hK, hD⟩, Nat.le_trans hS.1 hz, fun q h1 h2 => (hq q (Nat.lt_of_lt_of_le h1 hS.1)).trans (hS.2.1 q h1 h2)⟩

theorem v_throwS (o : Okk p s m args meth c cc RX7 nL G A) (hT : TH A s s.heap) (hl : l.stackTraces = false) (hno : ∀ x ∈ c.exceptionTable.toList, False) {Qc : Array Value → State → Outcome → State → Prop} {X : String → St → Prop} {sz mc ms ik is ic : Nat} {cls text : String} (hA : A = frA P sz) (hW : ThW ik ic cls) (hst : (is, text) ∈ strs)
    (d0 : decode cc pc = .ok (.new ik, 3)) (d3 : decode cc (pc + 3) = .ok (.dup, 1)) (d4 : decode cc (pc + 4) = .ok (.ldc is, 2)) (d6 : decode cc (pc + 6) = .ok (.invokespecial ic, 3)) (d9 : decode cc (pc + 9) = .ok (.athrow, 1))
    (hR : 5 < R.frames ∧ (stk.map fun v => v.category).sum + 82 ≤ R.locals ∧ cells + 1 ≤ R.cells ∧ slots + 6 ≤ R.slots) (hm : cells + 1 ≤ mc ∧ slots + 6 ≤ ms) (h : X cls f) : V p l e R s m args below meth c nL G A (vx_MQ below Qc (XX G P sz X) args s mc ms (frA P sz)) cells slots P lv stk pc f := by
  intro H locs ls hP hD hS hlv
  obtain ⟨sa, hsa⟩ := hT.2.2.1 _ hst
  have e2 := o.1.2.2.2.2
  exact vx_throwS (names := ["java/lang/RuntimeException", "java/lang/Exception"]) o.1.1 o.1.2.1 hl o.1.2.2.2.1 hW.1 (by decide +kernel) (e2 _ hW.2.1) (e2 _ hW.2.2.1) hsa (vx_hat (fun w hw => e2 w (hW.2.2.2.1 w hw)) hW.2.2.2.2.1 (fun w hw => va_any (by
      have hb : isB w = true := (List.mem_filter.mp hw).2
      cases w <;> first | rfl | cases hb) (hT.2.2.2.1 w hw))) hW.2.2.2.2.2 hT.1 hT.2.1 hS (hlv.1.trans o.1.2.2.1.symm) d0 d3 d4 d6 d9 (fun x hx => (hno x hx).elim) hR.1 hR.2.1 hR.2.2.1 hR.2.2.2 o.2.2.1 (v_xx hA o.2.1 hP hD hS h) (fun z hz => hA ▸ hS.2.2 z hz) hm.1 hm.2
theorem v_throwSW (o : Okk p s m args meth c cc RX7 nL G A) (hT : TH A s s.heap) (hl : l.stackTraces = false) (hno : ∀ x ∈ c.exceptionTable.toList, False) {Qc : Array Value → State → Outcome → State → Prop} {X : String → St → Prop} {sz mc ms ik is ic : Nat} {cls text : String} (hA : A = frA P sz) (hW : ThW ik ic cls) (hst : (is, text) ∈ strs)
    (d0 : decode cc pc = .ok (.new ik, 3)) (d3 : decode cc (pc + 3) = .ok (.dup, 1)) (d4 : decode cc (pc + 4) = .ok (.ldc_w is, 3)) (d6 : decode cc (pc + 7) = .ok (.invokespecial ic, 3)) (d9 : decode cc (pc + 10) = .ok (.athrow, 1))
    (hR : 5 < R.frames ∧ (stk.map fun v => v.category).sum + 82 ≤ R.locals ∧ cells + 1 ≤ R.cells ∧ slots + 6 ≤ R.slots) (hm : cells + 1 ≤ mc ∧ slots + 6 ≤ ms) (h : X cls f) : V p l e R s m args below meth c nL G A (vx_MQ below Qc (XX G P sz X) args s mc ms (frA P sz)) cells slots P lv stk pc f := by
  intro H locs ls hP hD hS hlv
  obtain ⟨sa, hsa⟩ := hT.2.2.1 _ hst
  have e2 := o.1.2.2.2.2
  exact vx_throwSW (names := ["java/lang/RuntimeException", "java/lang/Exception"]) o.1.1 o.1.2.1 hl o.1.2.2.2.1 hW.1 (by decide +kernel) (e2 _ hW.2.1) (e2 _ hW.2.2.1) hsa (vx_hat (fun w hw => e2 w (hW.2.2.2.1 w hw)) hW.2.2.2.2.1 (fun w hw => va_any (by
      have hb : isB w = true := (List.mem_filter.mp hw).2
      cases w <;> first | rfl | cases hb) (hT.2.2.2.1 w hw))) hW.2.2.2.2.2 hT.1 hT.2.1 hS (hlv.1.trans o.1.2.2.1.symm) d0 d3 d4 d6 d9 (fun x hx => (hno x hx).elim) hR.1 hR.2.1 hR.2.2.1 hR.2.2.2 o.2.2.1 (v_xx hA o.2.1 hP hD hS h) (fun z hz => hA ▸ hS.2.2 z hz) hm.1 hm.2
theorem v_cxVi (o : Okk p s m args meth c cc own nL G A) (hT : TH A s s.heap) (hno : ∀ x ∈ c.exceptionTable.toList, False) {y : MethodName} {bytes : ByteArray} {maxL n idx ci b mc ms mc1 ms1 sz : Nat} {ret : Option FieldType} {rm : Room} {C : String} {K : Int32 → St → Prop} {Qc : Array Value → State → Outcome → State → Prop} {X : String → St → Prop} (As rest : List Value) (hA : A = frA P sz) (hM : ∀ sz, vx_Met l y (wU y bytes maxL ret) rm (PcX G P f sz (.ref b :: As)) (QcI G P sz K) (XX G P sz X) mc1 ms1 (frA P sz)) (cw : CallW R s args own C idx y bytes maxL ret (wU y bytes maxL ret) rm mc1 ms1 n) (hc : ∃ T N, vwCl[ci]? = some (C, T, N)) (hk : ci < 9) (hq : Ob P b ci) (hn : As.length = n) (hW : (rest.map fun v => v.category).sum ≤ 8) (hf : cells + mc1 ≤ R.cells ∧ slots + ms1 ≤ R.slots) (hm : cells + mc1 ≤ mc ∧ slots + ms1 ≤ ms) (d : decode cc pc = .ok (.invokevirtual idx, 3)) (hst : stk = As.reverse ++ .ref b :: rest) (kk : ∀ (r : Int32) (u : St), K r u → V p l e R s m args below meth c nL G A (vx_MQ below Qc (XX G P sz X) args s mc ms (frA P sz)) (cells + mc1) (slots + ms1) P lv (.int r :: rest) (pc + 3) u) : V p l e R s m args below meth c nL G A (vx_MQ below Qc (XX G P sz X) args s mc ms (frA P sz)) cells slots P lv stk pc f := by
  subst hst
  intro H locs ls hP hD hS hl
  obtain ⟨T, N, hc⟩ := hc
  obtain ⟨i, hi⟩ := wld_get (G := G) (f := f) hq.1
  rw [cellE_o hq hk] at hi
  have hA2 : ∀ q, frA P H.size q → A q := fun q h => h.elim (fun h => wld_in hD h) (fun h => o.2.2.2 q (Nat.le_trans hS.1 h))
  refine vx_calli (SX := St) (px := fun _ => True) (BX := fun E u t => X E u ∧ WB G P H.size u t) (AX := frA P H.size) (vx_runV (As := As) (rest := rest) o.1 (hM H.size) cw ⟨pcx_blind, va_recv o.2.1 hP hc hi, fun U hU hW => ⟨rfl, by rw [hU], by rw [hU]; exact hP, va_K.moved hW.alike o.2.1, wld_D hD (fun _ _ => trivial), by rw [hU]; exact ((hT.kept hS.2.1).narrow hA2).warm hW⟩⟩ rfl hn hl.1 rfl (lv_room hW) d hf) hS (fun q _ h => hA2 q h) hA2 (fun q _ h => hA2 q h) (fun E ce q9 u t H1 locs1 ht hvm _ hB hz1 hk1 hS1 hce hcv hcl => ?_) (fun r u t H1 locs1 ht hvm hw hB hz1 hk1 hS1 => ?_)
  · obtain ⟨hX, hP1, hK1, hD1⟩ := hB
    rw [ht] at hP1
    refine vx_out (fun x hx => (hno x hx).elim) o.2.2.1 hce hcv hcl (fun t2 ht2 hvm2 => ?_) (fun z hz => hA ▸ hS1.2.2 z hz) hm.1 hm.2
    exact v_xx (f := u) hA o.2.1 hP1 (wld_D hD1 (fun q hq => wld_in hD hq)) hS1 hX t2 hvm2 (by rw [ht2]; exact Nat.le_refl _) (fun q _ => by rw [ht2])
  · obtain ⟨hP1, hK1, hD1⟩ := hB
    rw [ht] at hP1
    exact kk r u hw H1 locs1 ls hP1 (wld_D hD1 (fun q hq => wld_in hD hq)) hS1 hl
theorem v_cxSi (o : Okk p s m args meth c cc own nL G A) (hT : TH A s s.heap) (hno : ∀ x ∈ c.exceptionTable.toList, False) {y : MethodName} {bytes : ByteArray} {maxL n idx mc ms mc1 ms1 sz : Nat} {ret : Option FieldType} {rm : Room} {K : Int32 → St → Prop} {Qc : Array Value → State → Outcome → State → Prop} {X : String → St → Prop} (As rest : List Value) (hA : A = frA P sz) (hM : ∀ sz, vx_Met l y (wU y bytes maxL ret) rm (PcX G P f sz As) (QcI G P sz K) (XX G P sz X) mc1 ms1 (frA P sz)) (cw : CallB R s args own idx y bytes maxL ret (wU y bytes maxL ret) rm mc1 ms1 n ∧ (Cond.static y).before args s = true) (hn : As.length = n) (hW : (rest.map fun v => v.category).sum ≤ 8) (hf : cells + mc1 ≤ R.cells ∧ slots + ms1 ≤ R.slots) (hm : cells + mc1 ≤ mc ∧ slots + ms1 ≤ ms) (d : decode cc pc = .ok (.invokestatic idx, 3)) (hst : stk = As.reverse ++ rest) (kk : ∀ (r : Int32) (u : St), K r u → V p l e R s m args below meth c nL G A (vx_MQ below Qc (XX G P sz X) args s mc ms (frA P sz)) (cells + mc1) (slots + ms1) P lv (.int r :: rest) (pc + 3) u) : V p l e R s m args below meth c nL G A (vx_MQ below Qc (XX G P sz X) args s mc ms (frA P sz)) cells slots P lv stk pc f := by
  subst hst
  intro H locs ls hP hD hS hl
  have hA2 : ∀ q, frA P H.size q → A q := fun q h => h.elim (fun h => wld_in hD h) (fun h => o.2.2.2 q (Nat.le_trans hS.1 h))
  refine vx_calli (SX := St) (px := fun _ => True) (BX := fun E u t => X E u ∧ WB G P H.size u t) (AX := frA P H.size) (vx_runS (As := As) (rest := rest) o.1 (hM H.size) cw ⟨pcx_blind, fun U hU hW => ⟨rfl, by rw [hU], by rw [hU]; exact hP, va_K.moved hW.alike o.2.1, wld_D hD (fun _ _ => trivial), by rw [hU]; exact ((hT.kept hS.2.1).narrow hA2).warm hW⟩⟩ rfl hn hl.1 rfl (lv_room hW) d hf) hS (fun q _ h => hA2 q h) hA2 (fun q _ h => hA2 q h) (fun E ce q9 u t H1 locs1 ht hvm _ hB hz1 hk1 hS1 hce hcv hcl => ?_) (fun r u t H1 locs1 ht hvm hw hB hz1 hk1 hS1 => ?_)
  · obtain ⟨hX, hP1, hK1, hD1⟩ := hB
    rw [ht] at hP1
    refine vx_out (fun x hx => (hno x hx).elim) o.2.2.1 hce hcv hcl (fun t2 ht2 hvm2 => ?_) (fun z hz => hA ▸ hS1.2.2 z hz) hm.1 hm.2
    exact v_xx (f := u) hA o.2.1 hP1 (wld_D hD1 (fun q hq => wld_in hD hq)) hS1 hX t2 hvm2 (by rw [ht2]; exact Nat.le_refl _) (fun q _ => by rw [ht2])
  · obtain ⟨hP1, hK1, hD1⟩ := hB
    rw [ht] at hP1
    exact kk r u hw H1 locs1 ls hP1 (wld_D hD1 (fun q hq => wld_in hD hq)) hS1 hl
theorem v_cxVl (o : Okk p s m args meth c cc own nL G A) (hT : TH A s s.heap) (hno : ∀ x ∈ c.exceptionTable.toList, False) {y : MethodName} {bytes : ByteArray} {maxL n idx ci b mc ms mc1 ms1 sz : Nat} {ret : Option FieldType} {rm : Room} {C : String} {K : Int64 → St → Prop} {Qc : Array Value → State → Outcome → State → Prop} {X : String → St → Prop} (As rest : List Value) (hA : A = frA P sz) (hM : ∀ sz, vx_Met l y (wU y bytes maxL ret) rm (PcX G P f sz (.ref b :: As)) (QcL G P sz K) (XX G P sz X) mc1 ms1 (frA P sz)) (cw : CallW R s args own C idx y bytes maxL ret (wU y bytes maxL ret) rm mc1 ms1 n) (hc : ∃ T N, vwCl[ci]? = some (C, T, N)) (hk : ci < 9) (hq : Ob P b ci) (hn : As.length = n) (hW : (rest.map fun v => v.category).sum ≤ 8) (hf : cells + mc1 ≤ R.cells ∧ slots + ms1 ≤ R.slots) (hm : cells + mc1 ≤ mc ∧ slots + ms1 ≤ ms) (d : decode cc pc = .ok (.invokevirtual idx, 3)) (hst : stk = As.reverse ++ .ref b :: rest) (kk : ∀ (r : Int64) (u : St), K r u → V p l e R s m args below meth c nL G A (vx_MQ below Qc (XX G P sz X) args s mc ms (frA P sz)) (cells + mc1) (slots + ms1) P lv (.long r :: rest) (pc + 3) u) : V p l e R s m args below meth c nL G A (vx_MQ below Qc (XX G P sz X) args s mc ms (frA P sz)) cells slots P lv stk pc f := by
  subst hst
  intro H locs ls hP hD hS hl
  obtain ⟨T, N, hc⟩ := hc
  obtain ⟨i, hi⟩ := wld_get (G := G) (f := f) hq.1
  rw [cellE_o hq hk] at hi
  have hA2 : ∀ q, frA P H.size q → A q := fun q h => h.elim (fun h => wld_in hD h) (fun h => o.2.2.2 q (Nat.le_trans hS.1 h))
  refine vx_calll (SX := St) (px := fun _ => True) (BX := fun E u t => X E u ∧ WB G P H.size u t) (AX := frA P H.size) (vx_runV (As := As) (rest := rest) o.1 (hM H.size) cw ⟨pcx_blind, va_recv o.2.1 hP hc hi, fun U hU hW => ⟨rfl, by rw [hU], by rw [hU]; exact hP, va_K.moved hW.alike o.2.1, wld_D hD (fun _ _ => trivial), by rw [hU]; exact ((hT.kept hS.2.1).narrow hA2).warm hW⟩⟩ rfl hn hl.1 rfl (lv_room hW) d hf) hS (fun q _ h => hA2 q h) hA2 (fun q _ h => hA2 q h) (fun E ce q9 u t H1 locs1 ht hvm _ hB hz1 hk1 hS1 hce hcv hcl => ?_) (fun r u t H1 locs1 ht hvm hw hB hz1 hk1 hS1 => ?_)
  · obtain ⟨hX, hP1, hK1, hD1⟩ := hB
    rw [ht] at hP1
    refine vx_out (fun x hx => (hno x hx).elim) o.2.2.1 hce hcv hcl (fun t2 ht2 hvm2 => ?_) (fun z hz => hA ▸ hS1.2.2 z hz) hm.1 hm.2
    exact v_xx (f := u) hA o.2.1 hP1 (wld_D hD1 (fun q hq => wld_in hD hq)) hS1 hX t2 hvm2 (by rw [ht2]; exact Nat.le_refl _) (fun q _ => by rw [ht2])
  · obtain ⟨hP1, hK1, hD1⟩ := hB
    rw [ht] at hP1
    exact kk r u hw H1 locs1 ls hP1 (wld_D hD1 (fun q hq => wld_in hD hq)) hS1 hl
theorem v_cxSl (o : Okk p s m args meth c cc own nL G A) (hT : TH A s s.heap) (hno : ∀ x ∈ c.exceptionTable.toList, False) {y : MethodName} {bytes : ByteArray} {maxL n idx mc ms mc1 ms1 sz : Nat} {ret : Option FieldType} {rm : Room} {K : Int64 → St → Prop} {Qc : Array Value → State → Outcome → State → Prop} {X : String → St → Prop} (As rest : List Value) (hA : A = frA P sz) (hM : ∀ sz, vx_Met l y (wU y bytes maxL ret) rm (PcX G P f sz As) (QcL G P sz K) (XX G P sz X) mc1 ms1 (frA P sz)) (cw : CallB R s args own idx y bytes maxL ret (wU y bytes maxL ret) rm mc1 ms1 n ∧ (Cond.static y).before args s = true) (hn : As.length = n) (hW : (rest.map fun v => v.category).sum ≤ 8) (hf : cells + mc1 ≤ R.cells ∧ slots + ms1 ≤ R.slots) (hm : cells + mc1 ≤ mc ∧ slots + ms1 ≤ ms) (d : decode cc pc = .ok (.invokestatic idx, 3)) (hst : stk = As.reverse ++ rest) (kk : ∀ (r : Int64) (u : St), K r u → V p l e R s m args below meth c nL G A (vx_MQ below Qc (XX G P sz X) args s mc ms (frA P sz)) (cells + mc1) (slots + ms1) P lv (.long r :: rest) (pc + 3) u) : V p l e R s m args below meth c nL G A (vx_MQ below Qc (XX G P sz X) args s mc ms (frA P sz)) cells slots P lv stk pc f := by
  subst hst
  intro H locs ls hP hD hS hl
  have hA2 : ∀ q, frA P H.size q → A q := fun q h => h.elim (fun h => wld_in hD h) (fun h => o.2.2.2 q (Nat.le_trans hS.1 h))
  refine vx_calll (SX := St) (px := fun _ => True) (BX := fun E u t => X E u ∧ WB G P H.size u t) (AX := frA P H.size) (vx_runS (As := As) (rest := rest) o.1 (hM H.size) cw ⟨pcx_blind, fun U hU hW => ⟨rfl, by rw [hU], by rw [hU]; exact hP, va_K.moved hW.alike o.2.1, wld_D hD (fun _ _ => trivial), by rw [hU]; exact ((hT.kept hS.2.1).narrow hA2).warm hW⟩⟩ rfl hn hl.1 rfl (lv_room hW) d hf) hS (fun q _ h => hA2 q h) hA2 (fun q _ h => hA2 q h) (fun E ce q9 u t H1 locs1 ht hvm _ hB hz1 hk1 hS1 hce hcv hcl => ?_) (fun r u t H1 locs1 ht hvm hw hB hz1 hk1 hS1 => ?_)
  · obtain ⟨hX, hP1, hK1, hD1⟩ := hB
    rw [ht] at hP1
    refine vx_out (fun x hx => (hno x hx).elim) o.2.2.1 hce hcv hcl (fun t2 ht2 hvm2 => ?_) (fun z hz => hA ▸ hS1.2.2 z hz) hm.1 hm.2
    exact v_xx (f := u) hA o.2.1 hP1 (wld_D hD1 (fun q hq => wld_in hD hq)) hS1 hX t2 hvm2 (by rw [ht2]; exact Nat.le_refl _) (fun q _ => by rw [ht2])
  · obtain ⟨hP1, hK1, hD1⟩ := hB
    rw [ht] at hP1
    exact kk r u hw H1 locs1 ls hP1 (wld_D hD1 (fun q hq => wld_in hD hq)) hS1 hl
theorem v_cxVv (o : Okk p s m args meth c cc own nL G A) (hT : TH A s s.heap) (hno : ∀ x ∈ c.exceptionTable.toList, False) {y : MethodName} {bytes : ByteArray} {maxL n idx ci b mc ms mc1 ms1 sz : Nat} {ret : Option FieldType} {rm : Room} {C : String} {K : St → Prop} {Qc : Array Value → State → Outcome → State → Prop} {X : String → St → Prop} (As rest : List Value) (hA : A = frA P sz) (hM : ∀ sz, vx_Met l y (wU y bytes maxL ret) rm (PcX G P f sz (.ref b :: As)) (QcV G P sz K) (XX G P sz X) mc1 ms1 (frA P sz)) (cw : CallW R s args own C idx y bytes maxL ret (wU y bytes maxL ret) rm mc1 ms1 n) (hc : ∃ T N, vwCl[ci]? = some (C, T, N)) (hk : ci < 9) (hq : Ob P b ci) (hn : As.length = n) (hW : (rest.map fun v => v.category).sum ≤ 8) (hf : cells + mc1 ≤ R.cells ∧ slots + ms1 ≤ R.slots) (hm : cells + mc1 ≤ mc ∧ slots + ms1 ≤ ms) (d : decode cc pc = .ok (.invokevirtual idx, 3)) (hst : stk = As.reverse ++ .ref b :: rest) (kk : ∀ (u : St), K u → V p l e R s m args below meth c nL G A (vx_MQ below Qc (XX G P sz X) args s mc ms (frA P sz)) (cells + mc1) (slots + ms1) P lv (rest) (pc + 3) u) : V p l e R s m args below meth c nL G A (vx_MQ below Qc (XX G P sz X) args s mc ms (frA P sz)) cells slots P lv stk pc f := by
  subst hst
  intro H locs ls hP hD hS hl
  obtain ⟨T, N, hc⟩ := hc
  obtain ⟨i, hi⟩ := wld_get (G := G) (f := f) hq.1
  rw [cellE_o hq hk] at hi
  have hA2 : ∀ q, frA P H.size q → A q := fun q h => h.elim (fun h => wld_in hD h) (fun h => o.2.2.2 q (Nat.le_trans hS.1 h))
  refine vx_callv (SX := St) (px := fun _ => True) (BX := fun E u t => X E u ∧ WB G P H.size u t) (AX := frA P H.size) (vx_runV (As := As) (rest := rest) o.1 (hM H.size) cw ⟨pcx_blind, va_recv o.2.1 hP hc hi, fun U hU hW => ⟨rfl, by rw [hU], by rw [hU]; exact hP, va_K.moved hW.alike o.2.1, wld_D hD (fun _ _ => trivial), by rw [hU]; exact ((hT.kept hS.2.1).narrow hA2).warm hW⟩⟩ rfl hn hl.1 rfl (lv_room hW) d hf) hS (fun q _ h => hA2 q h) hA2 (fun q _ h => hA2 q h) (fun E ce q9 u t H1 locs1 ht hvm _ hB hz1 hk1 hS1 hce hcv hcl => ?_) (fun u t H1 locs1 ht hvm hw hB hz1 hk1 hS1 => ?_)
  · obtain ⟨hX, hP1, hK1, hD1⟩ := hB
    rw [ht] at hP1
    refine vx_out (fun x hx => (hno x hx).elim) o.2.2.1 hce hcv hcl (fun t2 ht2 hvm2 => ?_) (fun z hz => hA ▸ hS1.2.2 z hz) hm.1 hm.2
    exact v_xx (f := u) hA o.2.1 hP1 (wld_D hD1 (fun q hq => wld_in hD hq)) hS1 hX t2 hvm2 (by rw [ht2]; exact Nat.le_refl _) (fun q _ => by rw [ht2])
  · obtain ⟨hP1, hK1, hD1⟩ := hB
    rw [ht] at hP1
    exact kk u hw H1 locs1 ls hP1 (wld_D hD1 (fun q hq => wld_in hD hq)) hS1 hl
theorem v_cxSv (o : Okk p s m args meth c cc own nL G A) (hT : TH A s s.heap) (hno : ∀ x ∈ c.exceptionTable.toList, False) {y : MethodName} {bytes : ByteArray} {maxL n idx mc ms mc1 ms1 sz : Nat} {ret : Option FieldType} {rm : Room} {K : St → Prop} {Qc : Array Value → State → Outcome → State → Prop} {X : String → St → Prop} (As rest : List Value) (hA : A = frA P sz) (hM : ∀ sz, vx_Met l y (wU y bytes maxL ret) rm (PcX G P f sz As) (QcV G P sz K) (XX G P sz X) mc1 ms1 (frA P sz)) (cw : CallB R s args own idx y bytes maxL ret (wU y bytes maxL ret) rm mc1 ms1 n ∧ (Cond.static y).before args s = true) (hn : As.length = n) (hW : (rest.map fun v => v.category).sum ≤ 8) (hf : cells + mc1 ≤ R.cells ∧ slots + ms1 ≤ R.slots) (hm : cells + mc1 ≤ mc ∧ slots + ms1 ≤ ms) (d : decode cc pc = .ok (.invokestatic idx, 3)) (hst : stk = As.reverse ++ rest) (kk : ∀ (u : St), K u → V p l e R s m args below meth c nL G A (vx_MQ below Qc (XX G P sz X) args s mc ms (frA P sz)) (cells + mc1) (slots + ms1) P lv (rest) (pc + 3) u) : V p l e R s m args below meth c nL G A (vx_MQ below Qc (XX G P sz X) args s mc ms (frA P sz)) cells slots P lv stk pc f := by
  subst hst
  intro H locs ls hP hD hS hl
  have hA2 : ∀ q, frA P H.size q → A q := fun q h => h.elim (fun h => wld_in hD h) (fun h => o.2.2.2 q (Nat.le_trans hS.1 h))
  refine vx_callv (SX := St) (px := fun _ => True) (BX := fun E u t => X E u ∧ WB G P H.size u t) (AX := frA P H.size) (vx_runS (As := As) (rest := rest) o.1 (hM H.size) cw ⟨pcx_blind, fun U hU hW => ⟨rfl, by rw [hU], by rw [hU]; exact hP, va_K.moved hW.alike o.2.1, wld_D hD (fun _ _ => trivial), by rw [hU]; exact ((hT.kept hS.2.1).narrow hA2).warm hW⟩⟩ rfl hn hl.1 rfl (lv_room hW) d hf) hS (fun q _ h => hA2 q h) hA2 (fun q _ h => hA2 q h) (fun E ce q9 u t H1 locs1 ht hvm _ hB hz1 hk1 hS1 hce hcv hcl => ?_) (fun u t H1 locs1 ht hvm hw hB hz1 hk1 hS1 => ?_)
  · obtain ⟨hX, hP1, hK1, hD1⟩ := hB
    rw [ht] at hP1
    refine vx_out (fun x hx => (hno x hx).elim) o.2.2.1 hce hcv hcl (fun t2 ht2 hvm2 => ?_) (fun z hz => hA ▸ hS1.2.2 z hz) hm.1 hm.2
    exact v_xx (f := u) hA o.2.1 hP1 (wld_D hD1 (fun q hq => wld_in hD hq)) hS1 hX t2 hvm2 (by rw [ht2]; exact Nat.le_refl _) (fun q _ => by rw [ht2])
  · obtain ⟨hP1, hK1, hD1⟩ := hB
    rw [ht] at hP1
    exact kk u hw H1 locs1 ls hP1 (wld_D hD1 (fun q hq => wld_in hD hq)) hS1 hl
end VX
/-- the contract of a method that may throw, out of its walk -/
theorem v_metx {l : Launch} {y : MethodName} {cc : ByteArray} {maxL : Nat} {ret : Option FieldType} {rm : Room} {G : Gl} {P : Sk} {f : St} {sz mc ms : Nat} {Qc : Array Value → State → Outcome → State → Prop} {XC : String → State → State → Prop} {own : String} (As : List Value) (hy : plainName y.cls = true) (ho : y.cls = own) (hlen : (lg_sl As).length ≤ maxL)
    (body : ∀ (p : Program) (e : Env) (s : State) (m : MethodId) (args : Array Value) (below : List Frame) (meth : Method) (c : Code), s.heap.size = sz → Okk p s m args meth c cc own maxL G (frA P sz) → meth.sig.returnType = ret → TH (frA P sz) s s.heap → (∀ x ∈ c.exceptionTable.toList, False) → V p l e rm s m args below meth c maxL G (frA P sz) (vx_MQ below Qc XC args s mc ms (frA P sz)) 0 0 P (lv_args 0 As) [] 0 f) :
    vx_Met l y (wU y cc maxL ret) rm (PcX G P f sz As) Qc XC mc ms (frA P sz) := by
  refine vx_ofW (cc := cc) (maxL := maxL) (ret := ret) hy rfl ?_
  intro p e s m args below meth c s₁ Bd hml hno hv
  obtain ⟨rfl, hsz, hP, hK, hD0, hT⟩ := hv
  have hts := atoms_spec (ws := wU y cc maxL ret) Bd.pre
  have hts : ∀ w ∈ lw_U, w.before _ s = true := fun w h => hts w (List.mem_cons_of_mem _ h)
  have hown : s.vm.findClass y.cls = some m.cls := findClass_of_methodNamed Bd.named
  have hl := lv_entry As (n := maxL) hlen
  rw [ho] at hown
  rw [lg_entry_eq]
  exact body p e s m _ below meth c hsz ⟨⟨Bd.exec, Bd.bytes, hml, hown, hts⟩, hK, Bd.notSynchronized, fun q h => Or.inr (by rw [← hsz]; exact h)⟩ Bd.returns hT hno s.heap [] _ hP (wld_D hD0 (fun q h => Or.inl h)) va_S.rf hl
theorem thw_58 : ThW 58 62 "java/lang/IllegalArgumentException" := ⟨by decide +kernel, mU 617 (by decide +kernel) rfl, mU 94 (by decide +kernel) rfl, by decide +kernel, by decide +kernel, by decide +kernel⟩
theorem thw_69 : ThW 69 73 "java/lang/IllegalStateException" := ⟨by decide +kernel, mU 685 (by decide +kernel) rfl, mU 95 (by decide +kernel) rfl, by decide +kernel, by decide +kernel, by decide +kernel⟩
theorem thw_253 : ThW 253 257 "java/lang/IndexOutOfBoundsException" := ⟨by decide +kernel, mU 767 (by decide +kernel) rfl, mU 98 (by decide +kernel) rfl, by decide +kernel, by decide +kernel, by decide +kernel⟩
