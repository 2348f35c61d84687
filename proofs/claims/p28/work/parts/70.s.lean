/-! the script, and the law's look into it -/
abbrev PcS (G : Gl) (P : Sk) (f : St) (b L : Nat) (xs : Nat → Int32) (sz : Nat) (av : List Value) : Array Value → State → Prop := va_Pc av (fun U => U.heap.size = sz ∧ va_P G.1 vwCl (wld G P f) U.heap ∧ va_K G.1 vwCl (tysG G) U ∧ va_D (fun _ => True) (wld G P f) ∧ va_X b L xs U U.heap ∧ b < U.heap.size ∧ b ∉ sL P)
theorem pcs_blind {G : Gl} {P : Sk} {f : St} {b L : Nat} {xs : Nat → Int32} {sz : Nat} {av : List Value} : FrameBlind (PcS G P f b L xs sz av) := fun a U g mk q => by
  obtain ⟨q0, q1, qP, qK, qD, qX, qb, qn⟩ := q
  exact ⟨q0, q1, qP, va_K.moved (u := U) (U := U.calling g mk a) (Vm.Alike.refl U.vm) qK, qD, va_X.moved (u := U) (U := U.calling g mk a) (Vm.Alike.refl U.vm) qX, qb, qn⟩
section VL
variable {p : Program} {l : Launch} {e : Env} {R : Room} {s : State} {m : MethodId} {args : Array Value} {below : List Frame} {meth : Method} {c : Code} {cc : ByteArray} {own : String} {nL : Nat} {G : Gl} {A : Nat → Prop} {Q : State → Prop} {cells slots : Nat} {P : Sk} {lv : List (Nat × Value)} {stk : List Value} {pc : Nat} {f : St}
theorem v_sld (o : Okk p s m args meth c cc own nL G A) {b L : Nat} {xs : Nat → Int32} (hX : va_X b L xs s s.heap) (hbl : b < s.heap.size) (hbA : ¬ A b) {i : Int32} (hi : vp_in i L) (d : decode cc pc = .ok (.iaload, 1)) (kk : V p l e R s m args below meth c nL G A Q cells slots P lv (.int (xs i.toNatClampNeg) :: stk) (pc + 1) f) : V p l e R s m args below meth c nL G A Q cells slots P lv (.int i :: .ref b :: stk) pc f :=
  fun H locs ls hP hD hS hl => va_sld o.1.1 o.1.2.1 hX hbl hbA hS hi d (kk H locs ls hP hD hS hl)
theorem v_slen (o : Okk p s m args meth c cc own nL G A) {b L : Nat} {xs : Nat → Int32} (hX : va_X b L xs s s.heap) (hbl : b < s.heap.size) (hbA : ¬ A b) (d : decode cc pc = .ok (.arraylength, 1)) (kk : V p l e R s m args below meth c nL G A Q cells slots P lv (.int (nI L) :: stk) (pc + 1) f) : V p l e R s m args below meth c nL G A Q cells slots P lv (.ref b :: stk) pc f :=
  fun H locs ls hP hD hS hl => va_slen o.1.1 o.1.2.1 hX hbl hbA hS d (kk H locs ls hP hD hS hl)
theorem v_cSs (o : Okk p s m args meth c cc own nL G A) {b L : Nat} {xs : Nat → Int32} (hX : va_X b L xs s s.heap) (hbl : b < s.heap.size) (hbA : ¬ A b) {y : MethodName} {bytes : ByteArray} {maxL n idx : Nat} {ret : Option FieldType} {rm : Room} {K : Int32 → St → Prop} (As rest : List Value) (hM : ∀ sz, Met l y (wU y bytes maxL ret) rm (PcS G P f b L xs sz As) (QcI G P sz K) 0 0 (frA P sz)) (cw : CallB R s args own idx y bytes maxL ret (wU y bytes maxL ret) rm 0 0 n ∧ (Cond.static y).before args s = true) (hn : As.length = n) (hW : (rest.map fun v => v.category).sum ≤ 8) (hf : cells ≤ R.cells ∧ slots ≤ R.slots) (d : decode cc pc = .ok (.invokestatic idx, 3)) (hst : stk = As.reverse ++ rest) (kk : ∀ (r : Int32) (u : St), K r u → V p l e R s m args below meth c nL G A Q cells slots P lv (.int r :: rest) (pc + 3) u) : V p l e R s m args below meth c nL G A Q cells slots P lv stk pc f := by
  subst hst
  intro H locs ls hP hD hS hl
  have hA : ∀ q, frA P H.size q → A q := fun q h => h.elim (fun h => wld_in hD h) (fun h => o.2.2.2 q (Nat.le_trans hS.1 h))
  refine va_calli (va_runS (As := As) (rest := rest) o.1 (hM H.size) cw ⟨pcs_blind, fun U hU hW => ⟨rfl, by rw [hU], by rw [hU]; exact hP, va_K.moved hW.alike o.2.1, wld_D hD (fun _ _ => trivial), by rw [hU]; exact va_X.moved hW.alike (hX.kept (hS.2.1 b hbl hbA)), by rw [hU]; exact Nat.lt_of_lt_of_le hbl hS.1, fun hb => hbA (wld_in hD hb)⟩⟩ rfl hn hl.1 rfl (lv_room hW) d hf) hS (fun q _ h => hA q h) hA (fun r u t H1 locs1 ht hvm hw hB hz1 hk1 hS1 => ?_)
  obtain ⟨hP1, hK1, hD1⟩ := hB
  rw [ht] at hP1
  exact kk r u hw H1 locs1 ls hP1 (wld_D hD1 (fun q hq => wld_in hD hq)) hS1 hl
end VL
theorem v_metS {l : Launch} {y : MethodName} {cc : ByteArray} {maxL : Nat} {ret : Option FieldType} {rm : Room} {G : Gl} {P : Sk} {f : St} {b L : Nat} {xs : Nat → Int32} {sz mc ms : Nat} {Qc : Array Value → State → Outcome → State → Prop} {own : String} (As : List Value) (hy : plainFor y = true) (ho : y.cls = own) (hlen : (lg_sl As).length ≤ maxL)
    (body : ∀ (p : Program) (e : Env) (s : State) (m : MethodId) (args : Array Value) (below : List Frame) (meth : Method) (c : Code), s.heap.size = sz → Okk p s m args meth c cc own maxL G (frA P sz) → meth.sig.returnType = ret → va_X b L xs s s.heap → b < s.heap.size → ¬ frA P sz b → V p l e rm s m args below meth c maxL G (frA P sz) (MQ below Qc args s mc ms (frA P sz)) 0 0 P (lv_args 0 As) [] 0 f) :
    Met l y (wU y cc maxL ret) rm (PcS G P f b L xs sz As) Qc mc ms (frA P sz) := by
  refine met_ofWF (cc := cc) (maxL := maxL) (ret := ret) hy rfl ?_
  intro p e s m args below meth c s₁ Bd hml hv
  obtain ⟨rfl, hsz, hP, hK, hD0, hX, hb, hn⟩ := hv
  have hts := atoms_spec (ws := wU y cc maxL ret) Bd.pre
  have hts : ∀ w ∈ lw_U, w.before _ s = true := fun w h => hts w (List.mem_cons_of_mem _ h)
  have hown : s.vm.findClass y.cls = some m.cls := findClass_of_methodNamed Bd.named
  have hl := lv_entry As (n := maxL) hlen
  rw [ho] at hown
  rw [lg_entry_eq]
  refine body p e s m _ below meth c hsz ⟨⟨Bd.exec, Bd.bytes, hml, hown, hts⟩, hK, Bd.notSynchronized, fun q h => Or.inr (by rw [← hsz]; exact h)⟩ Bd.returns hX hb (fun h => h.elim hn (fun q => by rw [← hsz] at q; omega)) s.heap [] _ hP (wld_D hD0 (fun q h => Or.inl h)) va_S.rf hl
/-- what the law reads at a place of the script: behind its end, a number made of the place -/
def cellV (L : Nat) (xs : Nat → Int32) (k : Int32) : Int32 := if nI L ≤ k then (7919 * (k + 3)) * (k + 11) else xs k.toNatClampNeg
def kL_cell (L : Nat) (xs : Nat → Int32) (k : Int32) (f : St) (K : Int32 → St → Prop) : Prop := (L < 2 ^ 31 ∧ ¬ k < 0) ∧ K (cellV L xs k) f
set_option maxRecDepth 20000 in
set_option maxHeartbeats 4000000 in
theorem metL_cell (l : Launch) (G : Gl) (P : Sk) (f : St) (b L : Nat) (xs : Nat → Int32) (sz : Nat) (k : Int32) (K : Int32 → St → Prop) (h : kL_cell L xs k f K) : Met l yL_cell (wU yL_cell cL_cell 2 (some .int)) rmL_cell (PcS G P f b L xs sz [.ref b, .int k]) (QcI G P sz K) 0 0 (frA P sz) := by
  obtain ⟨⟨hL, hk⟩, h⟩ := h
  refine v_metS (own := RL) [.ref b, .int k] (by decide +kernel) rfl (Nat.le_of_ble_eq_true rfl) (fun p e s m args below meth c hsz o hr hX hbl hbA => ?_)
  refine v_lv (lv2 := [(0, .ref b), (1, .int k)]) rfl ?_
  unfold cellV at h
  refine v_iload_n o 1 dL_cell_0 rfl ?_
  refine v_aload_n o 0 dL_cell_1 rfl ?_
  refine v_slen o hX hbl hbA dL_cell_2 ?_
  refine v_icmp_ge o (tgt := 12) dL_cell_3 (by decide) (fun c3 => ?_) (fun c3 => ?_)
  · rw [if_pos c3] at h
    refine v_sipush o (v := 7919) dL_cell_12 (by decide) ?_
    refine v_iload_n o 1 dL_cell_15 rfl ?_
    refine v_iconst o (v := 3) dL_cell_16 (by decide) ?_
    refine v_iadd o dL_cell_17 ?_
    refine v_imul o dL_cell_18 ?_
    refine v_iload_n o 1 dL_cell_19 rfl ?_
    refine v_bipush o (v := 11) dL_cell_20 (by decide) ?_
    refine v_iadd o dL_cell_22 ?_
    refine v_imul o dL_cell_23 ?_
    exact v_iret o rfl hr dL_cell_24 h
  · rw [if_neg c3] at h
    have hi : vp_in k L := by
      obtain ⟨j, hj, rfl⟩ := nI_of hk
      rw [nI_leI hL hj] at c3
      exact vp_nI (by omega) hL
    refine v_aload_n o 0 dL_cell_6 rfl ?_
    refine v_iload_n o 1 dL_cell_7 rfl ?_
    refine v_sld o hX hbl hbA hi dL_cell_8 ?_
    refine v_goto o (tgt := 24) dL_cell_9 (by decide) ?_
    exact v_iret o rfl hr dL_cell_24 h
