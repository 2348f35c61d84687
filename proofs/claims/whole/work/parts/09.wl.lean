section VE
variable {p : Program} {l : Launch} {e : Env} {R : Room} {s : State} {m : MethodId} {args : Array Value} {below : List Frame} {meth : Method} {c : Code} {nL : Nat} {G : Gl} {A : Nat → Prop} {Q : State → Prop} {cells slots : Nat} {P : Sk} {lv : List (Nat × Value)} {stk : List Value} {pc : Nat} {f : St}
theorem v_eqc {c2 s2 : Nat} (h1 : cells = c2) (h2 : slots = s2) (k : V p l e R s m args below meth c nL G A Q c2 s2 P lv stk pc f) : V p l e R s m args below meth c nL G A Q cells slots P lv stk pc f := h1 ▸ h2 ▸ k
end VE
/-! the law's own rows -/
theorem isComp_J {P : Sk} {b x : Nat} {v : Option Int64} (h : IsComp P x) : IsComp (setJO P b v) x := h
theorem isModel_J {P : Sk} {b x : Nat} {v : Option Int64} (h : IsModel P x) : IsModel (setJO P b v) x := h
section VL
variable {p : Program} {l : Launch} {e : Env} {R : Room} {s : State} {m : MethodId} {args : Array Value} {below : List Frame} {meth : Method} {c : Code} {cc : ByteArray} {own : String} {nL : Nat} {G : Gl} {A : Nat → Prop} {Q : State → Prop} {cells slots : Nat} {P P0 : Sk} {lv : List (Nat × Value)} {stk : List Value} {pc sz : Nat} {f : St}
theorem v_sld (o : Okk p s m args meth c cc own nL G A) {b L : Nat} {xs : Nat → Int32} (hX : va_X b L xs s s.heap) (hbl : b < s.heap.size) (hbA : ¬ A b) {i : Int32} (hi : vp_in i L) (d : decode cc pc = .ok (.iaload, 1)) (kk : V p l e R s m args below meth c nL G A Q cells slots P lv (.int (xs i.toNatClampNeg) :: stk) (pc + 1) f) : V p l e R s m args below meth c nL G A Q cells slots P lv (.int i :: .ref b :: stk) pc f :=
  fun H locs ls hP hD hS hl => va_sld o.1.1 o.1.2.1 hX hbl hbA hS hi d (kk H locs ls hP hD hS hl)
theorem v_slen (o : Okk p s m args meth c cc own nL G A) {b L : Nat} {xs : Nat → Int32} (hX : va_X b L xs s s.heap) (hbl : b < s.heap.size) (hbA : ¬ A b) (d : decode cc pc = .ok (.arraylength, 1)) (kk : V p l e R s m args below meth c nL G A Q cells slots P lv (.int (nI L) :: stk) (pc + 1) f) : V p l e R s m args below meth c nL G A Q cells slots P lv (.ref b :: stk) pc f :=
  fun H locs ls hP hD hS hl => va_slen o.1.1 o.1.2.1 hX hbl hbA hS d (kk H locs ls hP hD hS hl)
theorem v_newarrJ (o : Okk p s m args meth c cc own nL G A) (hsz : s.heap.size = sz) (hA : A = frA P0 sz) (h0 : ∀ x ∈ sL P0, x ∈ sL P) (hall : AllIn P sz cells) (harr : Cond.arrayClass .long ∈ lw_U) (hf : cells + 1 ≤ R.cells ∧ slots + 1 ≤ R.slots) (hJ : ∀ q, q ∉ sL P → sJ P q = fun _ => 0) (d : decode cc pc = .ok (.newarray .long, 2)) (kk : V p l e R s m args below meth c nL G A Q (cells + 1) (slots + 1) (pNew P (sz + cells) 10 1) lv (.ref (sz + cells) :: stk) (pc + 2) (va_up f (sz + cells) z0)) : V p l e R s m args below meth c nL G A Q cells slots P lv (.int 1 :: stk) pc f := by
  intro H locs ls hP hD hS hl
  refine va_newa (D := G.1) (cl := vwCl) (atype := .long) (ty := .long) (a0 := (1, .inr (.inl (fun _ => 0)))) o.1.1 o.1.2.1 (o.1.2.2.2.2 _ harr) rfl o.2.1 hP hD hS o.2.2.2 (fun cA => rfl) (by decide) (N' := 1) (by decide) (by decide) hf.1 hf.2 d (fun q cA H1 hK1 hP1 hD1 hS1 => ?_)
  intro T1 hT1 X1
  obtain ⟨rfl, hni⟩ := new_at hsz hA h0 hall hT1 X1 hP1 hD1
  have hcA : cA = G.2.2.1 := by
    have e1 := (hK1.2 4 (cA, .long) rfl).2
    have e2 := (o.2.1.2 1 (G.2.2.1, .long) rfl).2
    exact Option.some.inj (e1.symm.trans e2)
  subst hcA
  have he : wld G P f ++ [(sz + cells, .inl (G.2.2.1, 1, .inr (.inl (fun _ => 0))))] = wld G (pNew P (sz + cells) 10 1) (va_up f (sz + cells) z0) := by
    refine (va_pl_push hni).trans (va_pl_congr (cellE_new ?_))
    rw [cellE_j ⟨by simp [pNew, sL], by simp [pNew, va_up, sK]⟩]
    have := hJ _ hni
    simp only [sJ] at this
    simp [pNew, va_up, sL, sK, sN, sR, sJ, this]
  rw [he] at hP1 hD1
  exact kk H1 locs ls hP1 hD1 hS1 hl T1 hT1 X1
theorem v_cSw (o : Okk p s m args meth c cc own nL G A) (hT : TH A s s.heap) {y : MethodName} {bytes : ByteArray} {maxL n idx b mc1 ms1 : Nat} {ret : Option FieldType} {hh : List (Nat × Nat × Nat × Nat)} {rm : Room} {K : Int32 → Option Int64 → St → Prop} (As rest : List Value) (hM : ∀ sz, Met l y (wW y bytes maxL ret hh) rm (PcX G P f sz As) (QcW G P b sz K) mc1 ms1 (frA P sz)) (cw : vx_CSW R s args own idx y bytes maxL ret hh (wW y bytes maxL ret hh) rm mc1 ms1 n) (hn : As.length = n) (hW : (rest.map fun v => v.category).sum ≤ 8) (hf : cells + mc1 ≤ R.cells ∧ slots + ms1 ≤ R.slots) (d : decode cc pc = .ok (.invokestatic idx, 3)) (hst : stk = As.reverse ++ rest) (kk : ∀ (r : Int32) (j : Option Int64) (u : St), K r j u → V p l e R s m args below meth c nL G A Q (cells + mc1) (slots + ms1) (setJO P b j) lv (.int r :: rest) (pc + 3) u) : V p l e R s m args below meth c nL G A Q cells slots P lv stk pc f := by
  subst hst
  intro H locs ls hP hD hS hl
  have hA : ∀ q, frA P H.size q → A q := fun q h => h.elim (fun h => wld_in hD h) (fun h => o.2.2.2 q (Nat.le_trans hS.1 h))
  refine va_calli (vx_runSW (As := As) (rest := rest) o.1 (hM H.size) cw ⟨pcx_blind, fun U hU hW => ⟨rfl, by rw [hU], by rw [hU]; exact hP, va_K.moved hW.alike o.2.1, wld_D hD (fun _ _ => trivial), by rw [hU]; exact ((hT.kept hS.2.1).narrow hA).warm hW⟩⟩ rfl hn hl.1 rfl (lv_room hW) d hf) hS (fun q _ h => hA q h) hA (fun r u t H1 locs1 ht hvm hw hB hz1 hk1 hS1 => ?_)
  obtain ⟨hP1, hK1, hD1⟩ := hB
  rw [ht] at hP1
  exact kk r u.1 u.2 hw H1 locs1 ls hP1 (wld_D hD1 (fun q hq => wld_in hD hq)) hS1 hl
end VL
