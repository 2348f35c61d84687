/-! the law's wrappers: a call that throws is caught -/
def setJ (P : Sk) (b : Nat) (v : Int64) : Sk := (sL P, sK P, sN P, sR P, fun q i => if q = b ∧ i = 0 then v else sJ P q i)
def setJO (P : Sk) (b : Nat) (v : Option Int64) : Sk := (sL P, sK P, sN P, sR P, fun q i => match v with
  | none => sJ P q i
  | some z => if q = b ∧ i = 0 then z else sJ P q i)
theorem setJO_none (P : Sk) (b : Nat) : setJO P b none = P := rfl
theorem setJO_some (P : Sk) (b : Nat) (v : Int64) : setJO P b (some v) = setJ P b v := rfl
abbrev QcW (G : Gl) (P : Sk) (b : Nat) (sz : Nat) (K : Int32 → Option Int64 → St → Prop) : Array Value → State → Outcome → State → Prop := va_Qi (S := Option Int64 × St) (fun r u => K r u.1 u.2) (fun u t => WB G (setJO P b u.1) sz u.2 t) (frA P sz)
theorem cellE_last {G : Gl} {P : Sk} {f : St} {a : Nat} (hq : Ob P a 10) (v : Int64) : ∀ q, va_up (cellE G P f) a (.inl (G.2.2.1, sN P a, .inr (.inl (vp_updL (sJ P a) 0 v)))) q = cellE G (setJ P a v) f q := by
  intro q
  by_cases e : q = a
  · subst e
    have hq' : Ob (setJ P q v) q 10 := hq
    rw [cellE_j hq']
    have : vp_updL (sJ P q) 0 v = sJ (setJ P q v) q := by funext i; simp [vp_updL, setJ, sJ]
    simp only [va_up, if_pos]
    rw [this]
    rfl
  · have e3 : sJ (setJ P a v) q = sJ P q := by funext i; simp [setJ, e, sJ]
    have e2 : ∀ k, flds (setJ P a v) f q k = flds P f q k := fun k => rfl
    simp only [va_up, if_neg e, cellE, e2, e3]
    rfl
section VW
variable {p : Program} {l : Launch} {e : Env} {R : Room} {s : State} {m : MethodId} {args : Array Value} {below : List Frame} {meth : Method} {c : Code} {cc : ByteArray} {own : String} {nL : Nat} {G : Gl} {A : Nat → Prop} {Q : State → Prop} {cells slots : Nat} {P : Sk} {lv : List (Nat × Value)} {stk : List Value} {pc : Nat} {f : St}
theorem v_last (o : Okk p s m args meth c cc own nL G A) {q n : Nat} {x : Int64} (hq : Ob P q 10) (hn : sN P q = n) (hi : vp_in 0 n) (d : decode cc pc = .ok (.lastore, 1)) (kk : V p l e R s m args below meth c nL G A Q cells slots (setJ P q x) lv stk (pc + 1) f) : V p l e R s m args below meth c nL G A Q cells slots P lv (.long x :: .int 0 :: .ref q :: stk) pc f := by
  intro H locs ls hP hD hS hl
  obtain ⟨j, hj⟩ := wld_get (G := G) (f := f) hq.1
  have hj' := hj
  rw [cellE_j hq] at hj'
  subst hn
  refine va_last (D := G.1) (cl := vwCl) o.1.1 o.1.2.1 o.2.1 hP hD hS j 1 hj' rfl hi d (fun H1 locs1 hP1 hD1 hS1 => ?_)
  rw [show (0 : Int32).toNatClampNeg = 0 from rfl, wld_set hD hq.1 hj, va_pl_congr (cellE_last hq x)] at hP1 hD1
  exact kk H1 locs1 ls hP1 hD1 hS1 hl
theorem v_ald (o : Okk p s m args meth c cc own nL G A) {i x : Nat} (j : Nat) (d : decode cc pc = .ok (.aload i, 2)) (hj : lv[j]? = some (i, .ref x)) (k : V p l e R s m args below meth c nL G A Q cells slots P lv (.ref x :: stk) (pc + 2) f) : V p l e R s m args below meth c nL G A Q cells slots P lv stk pc f := v_aload o j d hj k
/-- an exception stands at pc: its class, the world -/
def VXc (p : Program) (l : Launch) (e : Env) (R : Room) (s : State) (m : MethodId) (args : Array Value) (below : List Frame) (meth : Method) (c : Code) (nL : Nat) (G : Gl) (A : Nat → Prop) (Q : State → Prop) (cells slots : Nat) (P : Sk) (lv : List (Nat × Value)) (stk : List Value) (pc : Nat) (f : St) (E : String) : Prop :=
  ∀ (H : Heap) (locs : List Loc) (ls : Array Slot) (q : Nat) (ce : Cell), va_P G.1 vwCl (wld G P f) H → va_D A (wld G P f) → va_S A s.heap H locs → lv_has ls nL lv → H[q]? = some ce → ce.vm = .none → s.vm.findClass E = some ce.cls → vx_W p l e R s m args below meth c H locs cells slots Q (F0 m pc ls stk) q
theorem v_catch (o : Okk p s m args meth c cc RL nL G A) {E name : String} {rest : List Value} {cells slots : Nat} (pre : List ExceptionTableEntry) (x : ExceptionTableEntry) (suf : List ExceptionTableEntry) (hsplit : c.exceptionTable.toList = pre ++ x :: suf)
    (hpass : ∀ z ∈ pre, z.catchType ≠ 0 ∧ ∃ nm : String, Cond.classLink RL z.catchType nm ∈ lw_U ∧ va_Nc E nm s) (hx : covers x pc = true) (h0 : x.catchType ≠ 0) (hlink : Cond.classLink RL x.catchType name ∈ lw_U) (hcast : va_Nw (.castable E name) s)
    (kk : ∀ q : Nat, V p l e R s m args below meth c nL G A Q cells slots P lv [.ref q] x.handlerPc f) : VXc p l e R s m args below meth c nL G A Q cells slots P lv rest pc f E := by
  intro H locs ls q ce hP hD hS hl hce hcv hcl
  exact vx_catch (own := RL) o.1.2.2.2.1 pre x suf hsplit (fun z hz => Or.inr ⟨(hpass z hz).1, (hpass z hz).2.choose, o.1.2.2.2.2 _ (hpass z hz).2.choose_spec.1, (hpass z hz).2.choose_spec.2⟩) hx h0 (o.1.2.2.2.2 _ hlink) (va_any rfl hcast) hce hcv hcl (kk q H locs ls hP hD hS hl)
theorem v_iretW (o : Okk p s m args meth c cc own nL G A) {sz : Nat} {b : Nat} {K : Int32 → Option Int64 → St → Prop} {P0 : Sk} {v : Int32} (j : Option Int64) (hP0 : P = setJO P0 b j) (hA : A = frA P0 sz) (hr : meth.sig.returnType = some .int) (d : decode cc pc = .ok (.ireturn, 1)) (hK : K v j f) : V p l e R s m args below meth c nL G A (MQ below (QcW G P0 b sz K) args s cells slots (frA P0 sz)) cells slots P lv [.int v] pc f := by
  subst hA
  subst hP0
  intro H locs ls hP hD hS hl
  exact W.iret o.1.1 o.1.2.1 hr (fun t ht hW => ⟨⟨v, (j, f), rfl, hK, by rw [ht]; exact hP, va_K.moved hW.alike o.2.1, hD⟩, hS.F ht⟩) hS.2.2 d (hlocks := o.2.2.1)
theorem v_cw (o : Okk p s m args meth c cc own nL G A) (hT : TH A s s.heap) {y : MethodName} {bytes : ByteArray} {maxL n idx ci b mc1 ms1 : Nat} {ret : Option FieldType} {rm : Room} {C : String} {K : Int32 → St → Prop} {X : String → St → Prop} (As rest : List Value) (hM : ∀ sz, vx_Met l y (wU y bytes maxL ret) rm (PcX G P f sz (.ref b :: As)) (QcI G P sz K) (XX G P sz X) mc1 ms1 (frA P sz)) (cw : CallW R s args own C idx y bytes maxL ret (wU y bytes maxL ret) rm mc1 ms1 n) (hc : ∃ T N, vwCl[ci]? = some (C, T, N)) (hk : ci < 9) (hq : Ob P b ci) (hn : As.length = n) (hW : (rest.map fun v => v.category).sum ≤ 8) (hf : cells + mc1 ≤ R.cells ∧ slots + ms1 ≤ R.slots) (d : decode cc pc = .ok (.invokevirtual idx, 3)) (hst : stk = As.reverse ++ .ref b :: rest)
    (kx : ∀ (E : String) (u : St), X E u → VXc p l e R s m args below meth c nL G A Q (cells + mc1) (slots + ms1) P lv rest pc u E)
    (kk : ∀ (r : Int32) (u : St), K r u → V p l e R s m args below meth c nL G A Q (cells + mc1) (slots + ms1) P lv (.int r :: rest) (pc + 3) u) : V p l e R s m args below meth c nL G A Q cells slots P lv stk pc f := by
  subst hst
  intro H locs ls hP hD hS hl
  obtain ⟨T, N, hc⟩ := hc
  obtain ⟨i, hi⟩ := wld_get (G := G) (f := f) hq.1
  rw [cellE_o hq hk] at hi
  have hA2 : ∀ q, frA P H.size q → A q := fun q h => h.elim (fun h => wld_in hD h) (fun h => o.2.2.2 q (Nat.le_trans hS.1 h))
  refine vx_calli (SX := St) (px := fun _ => True) (BX := fun E u t => X E u ∧ WB G P H.size u t) (AX := frA P H.size) (vx_runV (As := As) (rest := rest) o.1 (hM H.size) cw ⟨pcx_blind, va_recv o.2.1 hP hc hi, fun U hU hW => ⟨rfl, by rw [hU], by rw [hU]; exact hP, va_K.moved hW.alike o.2.1, wld_D hD (fun _ _ => trivial), by rw [hU]; exact ((hT.kept hS.2.1).narrow hA2).warm hW⟩⟩ rfl hn hl.1 rfl (lv_room hW) d hf) hS (fun q _ h => hA2 q h) hA2 (fun q _ h => hA2 q h) (fun E ce q9 u t H1 locs1 ht hvm _ hB hz1 hk1 hS1 hce hcv hcl => ?_) (fun r u t H1 locs1 ht hvm hw hB hz1 hk1 hS1 => ?_)
  · obtain ⟨hX, hP1, hK1, hD1⟩ := hB
    rw [ht] at hP1
    exact kx E u hX H1 locs1 ls q9 ce hP1 (wld_D hD1 (fun q hq => wld_in hD hq)) hS1 hl hce hcv hcl
  · obtain ⟨hP1, hK1, hD1⟩ := hB
    rw [ht] at hP1
    exact kk r u hw H1 locs1 ls hP1 (wld_D hD1 (fun q hq => wld_in hD hq)) hS1 hl
end VW
abbrev wW (y : MethodName) (cc : ByteArray) (n : Nat) (r : Option FieldType) (hh : List (Nat × Nat × Nat × Nat)) : List Cond := Cond.codeWith y cc n r hh :: lw_U
theorem gWS {own : String} {idx : Nat} {y : MethodName} {cc : ByteArray} {n : Nat} {r : Option FieldType} {hh : List (Nat × Nat × Nat × Nat)} (h1 : Cond.methodLink own idx y ∈ lw_U) (h2 : Cond.static y ∈ lw_U) (h4 : Cond.initialized y.cls ∈ lw_U) (h5 : Cond.codeWith y cc n r hh ∈ lw_U) : GoodIn lw_U (va_wsS own idx y (wW y cc n r hh)) := by
  intro w hw
  unfold va_wsS at hw
  rcases List.mem_append.mp hw with h | h
  · simp only [List.mem_cons, List.not_mem_nil, or_false] at h
    rcases h with rfl | rfl | rfl
    · exact gU1 h1
    · exact gU1 h2
    · exact gU1 h4
  · exact (List.mem_cons.mp h).elim (fun e => e ▸ gU1 h5) (fun h2 => gU1 h2)
theorem v_metw {l : Launch} {y : MethodName} {cc : ByteArray} {maxL : Nat} {ret : Option FieldType} {hh : List (Nat × Nat × Nat × Nat)} {rm : Room} {G : Gl} {P : Sk} {f : St} {sz mc ms : Nat} {Qc : Array Value → State → Outcome → State → Prop} {own : String} (As : List Value) (hy : plainName y.cls = true) (ho : y.cls = own) (hlen : (lg_sl As).length ≤ maxL)
    (body : ∀ (p : Program) (e : Env) (s : State) (m : MethodId) (args : Array Value) (below : List Frame) (meth : Method) (c : Code), s.heap.size = sz → Okk p s m args meth c cc own maxL G (frA P sz) → meth.sig.returnType = ret → TH (frA P sz) s s.heap → c.exceptionTable.toList = tableOf hh → V p l e rm s m args below meth c maxL G (frA P sz) (MQ below Qc args s mc ms (frA P sz)) 0 0 P (lv_args 0 As) [] 0 f) :
    Met l y (wW y cc maxL ret hh) rm (PcX G P f sz As) Qc mc ms (frA P sz) := by
  refine va_MetW (cc := cc) (maxL := maxL) (ret := ret) (hh := hh) hy rfl ?_
  intro p e s m args below meth c s₁ Bd hml hv
  obtain ⟨rfl, hsz, hP, hK, hD0, hT⟩ := hv
  have hts := atoms_spec (ws := wW y cc maxL ret hh) Bd.pre
  have htab := vx_table (x := y) Bd (hts _ List.mem_cons_self)
  have hts : ∀ w ∈ lw_U, w.before _ s = true := fun w h => hts w (List.mem_cons_of_mem _ h)
  have hown : s.vm.findClass y.cls = some m.cls := findClass_of_methodNamed Bd.named
  have hl := lv_entry As (n := maxL) hlen
  rw [ho] at hown
  rw [lg_entry_eq]
  exact body p e s m _ below meth c hsz ⟨⟨Bd.exec, Bd.bytes, hml, hown, hts⟩, hK, Bd.notSynchronized, fun q h => Or.inr (by rw [← hsz]; exact h)⟩ Bd.returns hT htab s.heap [] _ hP (wld_D hD0 (fun q h => Or.inl h)) va_S.rf hl
