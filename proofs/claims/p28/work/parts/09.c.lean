/-! constructors, over the V layer: the skeleton grows -/
def pNew (P : Sk) (q k n : Nat) : Sk := (sL P ++ [q], va_up (sK P) q k, va_up (sN P) q n, va_up (sR P) q (fun _ => none), sJ P)
def pRef (P : Sk) (a j b : Nat) : Sk := (sL P, sK P, sN P, fun q i => if q = a ∧ i = j then some b else sR P q i, sJ P)
abbrev z0 : Nat → Int32 := fun _ => 0
abbrev QcC (G : Gl) (P : Sk) (sz : Nat) (K : Sk → St → Prop) : Array Value → State → Outcome → State → Prop := va_Qv (S := Sk × St) (fun u => K u.1 u.2) (fun u t => va_P G.1 vwCl (wld G u.1 u.2) t.heap ∧ va_K G.1 vwCl (tysG G) t ∧ va_D (frA P sz) (wld G u.1 u.2)) (frA P sz)
/-- the arrays of objects that are made -/
def isN : Cond → Bool
  | .methodLinkNest _ _ _ _ => true
  | _ => false
def lw_N : List Cond := lw_tbl.filter isN
theorem mN {w : Cond} (i : Nat) (h : lw_tbl[i]? = some w) (hg : isN w = true) : w ∈ lw_N := List.mem_filter.mpr ⟨List.mem_of_getElem? h, hg⟩
def AO (U : State) : Prop := va_AO "StrandLoaves$Loaf" U ∧ va_AO "StrandLoaves$Board" U ∧ ∀ w ∈ lw_N, va_Nw w U
theorem AO.moved {u U : State} (hW : u.WarmedH U.vm) (h : AO u) : AO U := ⟨va_AO.moved hW.alike h.1, va_AO.moved hW.alike h.2.1, fun w hw => by
  have hb : isN w = true := (List.mem_filter.mp hw).2
  have h2 := h.2.2 w hw
  cases w with
  | methodLinkNest a i x z => exact va_Nw.warmM hW h2
  | _ => cases hb⟩
abbrev PcC (G : Gl) (P : Sk) (f : St) (sz : Nat) (av : List Value) : Array Value → State → Prop := va_Pc av (fun U => U.heap.size = sz ∧ va_P G.1 vwCl (wld G P f) U.heap ∧ va_K G.1 vwCl (tysG G) U ∧ va_D (fun _ => True) (wld G P f) ∧ AO U)
theorem pcc_blind {G : Gl} {P : Sk} {f : St} {sz : Nat} {av : List Value} : FrameBlind (PcC G P f sz av) := fun a U g mk q => by
  obtain ⟨q0, q1, qP, qK, qD, qO⟩ := q
  exact ⟨q0, q1, qP, va_K.moved (u := U) (U := U.calling g mk a) (Vm.Alike.refl U.vm) qK, qD, AO.moved (u := U) (U := U.calling g mk a) (State.WarmedH.refl U) qO⟩
/-- a field of references, written once -/
def LkG (own : String) (idx k j : Nat) : Prop := ∃ (C : String) (T : u_T) (N : Nat) (tt : Nat → FieldType) (ty : FieldType), vwCl[k]? = some (C, T, N) ∧ (∀ w ∈ u_ws C T N, w ∈ lw_U) ∧ (∀ k, k < N → parseFieldDescriptor (T k).2.2.1 = some (tt k)) ∧ (∀ a, a < N → ∀ b, b < N → a ≠ b → (T a).2.1 ≠ (T b).2.1) ∧ j < N ∧ Cond.fieldLink own idx C (T j).2.1 (T j).2.2.1 ∈ lw_U ∧ (T j).1 = C ∧ C = own ∧ (T j).2.2.2 = true ∧ parseFieldDescriptor (T j).2.2.1 = some ty ∧ (∀ b : Nat, narrow ty (.ref b) = .ref b ∧ fits ty (.ref b) = true) ∧ (isR k j = true ∧ j < nF k) ∧ k < 9
/-- a class that is made -/
def LkN (own : String) (idx k : Nat) : Prop := ∃ (C : String) (T : u_T) (N : Nat) (tt : Nat → FieldType), vwCl[k]? = some (C, T, N) ∧ (∀ w ∈ u_ws C T N, w ∈ lw_U) ∧ (∀ k, k < N → parseFieldDescriptor (T k).2.2.1 = some (tt k)) ∧ Cond.classLink own idx C ∈ lw_U ∧ Cond.instantiable C N ∈ lw_U ∧ Cond.initialized C ∈ lw_U ∧ (∀ j, j < N → defaultValue (tt j) = vp_V ((List.range (nF k)).map (fun j => if isR k j then Value.null else .int 0)) j) ∧ N = nF k ∧ k < 9
theorem flds_new (P : Sk) (f : St) (q k n : Nat) : flds (pNew P q k n) (va_up f q z0) q k = (List.range (nF k)).map (fun j => if isR k j then Value.null else .int 0) := by
  simp [flds, pNew, va_up, va_rf, sL, sK, sN, sR, sJ, z0]
theorem cellE_new {G : Gl} {P : Sk} {f : St} {q k n : Nat} {e : va_E} (he : e = cellE G (pNew P q k n) (va_up f q z0) q) : ∀ x, va_up (cellE G P f) q e x = cellE G (pNew P q k n) (va_up f q z0) x := by
  intro x
  by_cases h : x = q
  · subst h
    simp [va_up, he]
  · have e1 : va_up f q z0 x = f x := by simp [va_up, h]
    have e2 : flds (pNew P q k n) (va_up f q z0) x (sK P x) = flds P f x (sK P x) := by simp [flds, pNew, va_up, h, sL, sK, sN, sR, sJ]
    have k1 : sK (pNew P q k n) x = sK P x := by simp [pNew, va_up, h, sL, sK, sN, sR, sJ]
    have k2 : sN (pNew P q k n) x = sN P x := by simp [pNew, va_up, h, sL, sK, sN, sR, sJ]
    have k3 : sR (pNew P q k n) x = sR P x := by simp [pNew, va_up, h, sL, sK, sN, sR, sJ]
    have k4 : sJ (pNew P q k n) x = sJ P x := by simp [pNew, sJ]
    have e0 : va_up (cellE G P f) q e x = cellE G P f x := by simp [va_up, h]
    rw [e0]
    simp only [cellE, k1, k2, k3, k4, e1, e2]
theorem cellE_putR {G : Gl} {P : Sk} {f : St} {a k j b : Nat} (hq : Ob P a k) (h : isR k j = true ∧ j < nF k) (hk : k < 9) : ∀ q, va_up (cellE G P f) a (.inr (k, (flds P f a k).set j (.ref b))) q = cellE G (pRef P a j b) f q := by
  intro q
  by_cases e : q = a
  · subst e
    have hq' : Ob (pRef P q j b) q k := hq
    rw [cellE_o hq' hk]
    have e2 : (flds P f q k).set j (.ref b) = flds (pRef P q j b) f q k := by
      apply List.ext_getElem?
      intro i
      by_cases hi : i = j
      · subst hi
        rw [List.getElem?_set]
        simp [flds, h.1, h.2, pRef, va_rf, sL, sK, sN, sR, sJ]
      · rw [List.getElem?_set]
        simp only [flds, List.getElem?_map]
        have : ¬ j = i := fun e => hi e.symm
        by_cases hb : i < nF k
        · simp [this, pRef, hi, hb, sL, sK, sN, sR, sJ]
        · simp [this, hb]
    simp [va_up, e2]
  · have e2 : ∀ k, flds (pRef P a j b) f q k = flds P f q k := fun k => by simp [flds, pRef, e, sL, sK, sN, sR, sJ]
    have e3 : sR (pRef P a j b) q = sR P q := by funext i; simp [pRef, e, sL, sK, sN, sR, sJ]
    simp only [va_up, if_neg e, cellE, e2, e3]
    rfl
theorem cellE_ast11 {G : Gl} {P : Sk} {f : St} {a j b : Nat} (hq : Ob P a 11) : ∀ q, va_up (cellE G P f) a (.inl (G.2.2.2.1, sN P a, .inr (.inr (.inr (.inr (va_up (sR P a) j (some b))))))) q = cellE G (pRef P a j b) f q := by
  intro q
  by_cases e : q = a
  · subst e
    have hq' : Ob (pRef P q j b) q 11 := hq
    rw [cellE_11 hq']
    have : va_up (sR P q) j (some b) = sR (pRef P q j b) q := by funext i; simp [va_up, pRef, sL, sK, sN, sR, sJ]
    simp only [va_up, if_pos]
    rw [this]
    rfl
  · have e2 : ∀ k, flds (pRef P a j b) f q k = flds P f q k := fun k => by simp [flds, pRef, e, sL, sK, sN, sR, sJ]
    have e3 : sR (pRef P a j b) q = sR P q := by funext i; simp [pRef, e, sL, sK, sN, sR, sJ]
    simp only [va_up, if_neg e, cellE, e2, e3]
    rfl
theorem cellE_ast12 {G : Gl} {P : Sk} {f : St} {a j b : Nat} (hq : Ob P a 12) : ∀ q, va_up (cellE G P f) a (.inl (G.2.2.2.2, sN P a, .inr (.inr (.inr (.inr (va_up (sR P a) j (some b))))))) q = cellE G (pRef P a j b) f q := by
  intro q
  by_cases e : q = a
  · subst e
    have hq' : Ob (pRef P q j b) q 12 := hq
    rw [cellE_12 hq']
    have : va_up (sR P q) j (some b) = sR (pRef P q j b) q := by funext i; simp [va_up, pRef, sL, sK, sN, sR, sJ]
    simp only [va_up, if_pos]
    rw [this]
    rfl
  · have e2 : ∀ k, flds (pRef P a j b) f q k = flds P f q k := fun k => by simp [flds, pRef, e, sL, sK, sN, sR, sJ]
    have e3 : sR (pRef P a j b) q = sR P q := by funext i; simp [pRef, e, sL, sK, sN, sR, sJ]
    simp only [va_up, if_neg e, cellE, e2, e3]
    rfl
section VC
variable {p : Program} {l : Launch} {e : Env} {R : Room} {s : State} {m : MethodId} {args : Array Value} {below : List Frame} {meth : Method} {c : Code} {cc : ByteArray} {own : String} {nL : Nat} {G : Gl} {A : Nat → Prop} {Q : State → Prop} {cells slots : Nat} {P P0 : Sk} {lv : List (Nat × Value)} {stk : List Value} {pc sz : Nat} {f : St}
/-- what was made lies in the world: so where the next one lies is known -/
abbrev AllIn (P : Sk) (sz cells : Nat) : Prop := ∀ i, i < cells → sz + i ∈ sL P
theorem new_at {ev : Env} {H1 : Heap} {q : Nat} {e : va_E} {T : State} {locs : List Loc} {n : Nat} (hsz : s.heap.size = sz) (hA : A = frA P0 sz) (h0 : ∀ x ∈ sL P0, x ∈ sL P) (hall : AllIn P sz cells) (hT : T.heap = H1) (X : Stand p l ev R s m args below meth c T locs (cells + 1) n) (hP : va_P G.1 vwCl (wld G P f ++ [(q, e)]) H1) (hD : va_D A (wld G P f ++ [(q, e)])) : q = sz + cells ∧ q ∉ sL P := by
  have hlt : q < H1.size := (hP (wld G P f).length (q, e) (by simp)).lt
  have hup : H1.size ≤ sz + (cells + 1) := by
    have := X.heapSize
    rw [hT, hsz] at this
    exact this
  have hni : q ∉ sL P := by
    intro h
    obtain ⟨k, hk⟩ := wld_get (G := G) (f := f) h
    have hl := (List.getElem?_eq_some_iff.mp hk).1
    have := hD.1 k (wld G P f).length (q, cellE G P f q) (q, e) (by rw [List.getElem?_append_left hl]; exact hk) (by simp) rfl
    omega
  refine ⟨?_, hni⟩
  have hAq : A q := hD.2 (wld G P f).length (q, e) (by simp)
  subst hA
  rcases hAq with h | h
  · exact absurd (h0 q h) hni
  · rcases Nat.lt_or_ge q (sz + cells) with h2 | h2
    · have := hall (q - sz) (by omega)
      rw [show sz + (q - sz) = q by omega] at this
      exact absurd this hni
    · omega

theorem v_new (o : Okk p s m args meth c cc own nL G A) (hsz : s.heap.size = sz) (hA : A = frA P0 sz) (h0 : ∀ x ∈ sL P0, x ∈ sL P) (hall : AllIn P sz cells) {k idx : Nat} (hL : LkN own idx k) (hf : cells + 1 ≤ R.cells ∧ slots + nF k ≤ R.slots) (d : decode cc pc = .ok (.new idx, 3)) (kk : V p l e R s m args below meth c nL G A Q (cells + 1) (slots + nF k) (pNew P (sz + cells) k 0) lv (.ref (sz + cells) :: stk) (pc + 3) (va_up f (sz + cells) z0)) : V p l e R s m args below meth c nL G A Q cells slots P lv stk pc f := by
  intro H locs ls hP hD hS hl
  obtain ⟨C, T, N, tt, hc, hin, hty, hcl, hins, hini, hdf, hN, hk⟩ := hL
  have ht := o.1.2.2.2.2
  subst hN
  refine va_new (D := G.1) (cl := vwCl) (ci := k) o.1.1 o.1.2.1 ht hin tt hty o.1.2.2.2.1 (ht _ hcl) (ht _ hins) (ht _ hini) o.2.1 hP hD hS o.2.2.2 hc hdf hf.1 hf.2 d (fun q H1 hP1 hD1 hS1 => ?_)
  intro T1 hT1 X1
  obtain ⟨rfl, hni⟩ := new_at hsz hA h0 hall hT1 X1 hP1 hD1
  have he : wld G P f ++ [(sz + cells, .inr (k, (List.range (nF k)).map (fun j => if isR k j then Value.null else .int 0)))] = wld G (pNew P (sz + cells) k 0) (va_up f (sz + cells) z0) := by
    refine (va_pl_push hni).trans (va_pl_congr (cellE_new ?_))
    rw [cellE_o (k := k) ⟨by simp [pNew, sL], by simp [pNew, va_up, sK]⟩ hk, flds_new]
  rw [he] at hP1 hD1
  exact kk H1 locs ls hP1 hD1 hS1 hl T1 hT1 X1
theorem v_newarr (o : Okk p s m args meth c cc own nL G A) (hsz : s.heap.size = sz) (hA : A = frA P0 sz) (h0 : ∀ x ∈ sL P0, x ∈ sL P) (hall : AllIn P sz cells) (harr : Cond.arrayClass .int ∈ lw_U) {n : Int32} {N : Nat} (hn : ¬ n < 0) (hN : n.toNatClampNeg = N) (hb : N * 4 ≤ 536870912) (hf : cells + 1 ≤ R.cells ∧ slots + N ≤ R.slots) (d : decode cc pc = .ok (.newarray .int, 2)) (kk : V p l e R s m args below meth c nL G A Q (cells + 1) (slots + N) (pNew P (sz + cells) 9 N) lv (.ref (sz + cells) :: stk) (pc + 2) (va_up f (sz + cells) z0)) : V p l e R s m args below meth c nL G A Q cells slots P lv (.int n :: stk) pc f := by
  intro H locs ls hP hD hS hl
  refine va_newa (D := G.1) (cl := vwCl) (atype := .int) (ty := .int) (a0 := (N, .inl z0)) o.1.1 o.1.2.1 (o.1.2.2.2.2 _ harr) rfl o.2.1 hP hD hS o.2.2.2 (fun cA => rfl) hn hN hb hf.1 hf.2 d (fun q cA H1 hK1 hP1 hD1 hS1 => ?_)
  intro T1 hT1 X1
  obtain ⟨rfl, hni⟩ := new_at hsz hA h0 hall hT1 X1 hP1 hD1
  have hcA : cA = G.2.1 := by
    have e1 := (hK1.2 4 (cA, .int) rfl).2
    have e2 := (o.2.1.2 0 (G.2.1, .int) rfl).2
    exact Option.some.inj (e1.symm.trans e2)
  subst hcA
  have he : wld G P f ++ [(sz + cells, .inl (G.2.1, N, .inl z0))] = wld G (pNew P (sz + cells) 9 N) (va_up f (sz + cells) z0) := by
    refine (va_pl_push hni).trans (va_pl_congr (cellE_new ?_))
    rw [cellE_i ⟨by simp [pNew, sL], by simp [pNew, va_up, sK]⟩]
    simp [pNew, va_up, sL, sK, sN, sR, sJ]
  rw [he] at hP1 hD1
  exact kk H1 locs ls hP1 hD1 hS1 hl T1 hT1 X1
theorem v_anew11 (o : Okk p s m args meth c cc own nL G A) (hsz : s.heap.size = sz) (hA : A = frA P0 sz) (h0 : ∀ x ∈ sL P0, x ∈ sL P) (hall : AllIn P sz cells) {idx : Nat} (hlk : Cond.classLink own idx "StrandLoaves$Loaf" ∈ lw_U) (hov : va_AO "StrandLoaves$Loaf" s) {n : Int32} {N : Nat} (hn : ¬ n < 0) (hN : n.toNatClampNeg = N) (hb : N * 4 ≤ 536870912) (hf : cells + 1 ≤ R.cells ∧ slots + N ≤ R.slots) (d : decode cc pc = .ok (.anewarray idx, 3)) (kk : V p l e R s m args below meth c nL G A Q (cells + 1) (slots + N) (pNew P (sz + cells) 11 N) lv (.ref (sz + cells) :: stk) (pc + 3) (va_up f (sz + cells) z0)) : V p l e R s m args below meth c nL G A Q cells slots P lv (.int n :: stk) pc f := by
  intro H locs ls hP hD hS hl
  refine va_newq (D := G.1) (cl := vwCl) o.1.1 o.1.2.1 o.1.2.2.2.1 (o.1.2.2.2.2 _ hlk) hov o.2.1 hP hD hS o.2.2.2 hn hN hb hf.1 hf.2 d (fun q cA H1 hK1 hP1 hD1 hS1 => ?_)
  intro T1 hT1 X1
  obtain ⟨rfl, hni⟩ := new_at hsz hA h0 hall hT1 X1 hP1 hD1
  have hcA : cA = G.2.2.2.1 := by
    obtain ⟨kA, comp, -, -, -, e1⟩ := (hK1.2 4 (cA, .object "StrandLoaves$Loaf") rfl).2
    obtain ⟨kA', comp', -, -, -, e2⟩ := (o.2.1.2 2 (G.2.2.2.1, .object "StrandLoaves$Loaf") rfl).2
    exact Option.some.inj (e1.symm.trans e2)
  subst hcA
  have he : wld G P f ++ [(sz + cells, .inl (G.2.2.2.1, N, .inr (.inr (.inr (.inr (fun _ => none))))))] = wld G (pNew P (sz + cells) 11 N) (va_up f (sz + cells) z0) := by
    refine (va_pl_push hni).trans (va_pl_congr (cellE_new ?_))
    rw [cellE_11 ⟨by simp [pNew, sL], by simp [pNew, va_up, sK]⟩]
    simp [pNew, va_up, sL, sK, sN, sR, sJ]
  rw [he] at hP1 hD1
  exact kk H1 locs ls hP1 hD1 hS1 hl T1 hT1 X1
theorem v_aast11 (o : Okk p s m args meth c cc own nL G A) {q n b ci : Nat} {i : Int32} (hq : Ob P q 11) (hn : sN P q = n) (hi : vp_in i n) (hc : ∃ r : vw_C, vwCl[ci]? = some r ∧ r.1 = "StrandLoaves$Loaf") (hk : ci < 9) (hb : Ob P b ci) (d : decode cc pc = .ok (.aastore, 1)) (kk : V p l e R s m args below meth c nL G A Q cells slots (pRef P q i.toNatClampNeg b) lv stk (pc + 1) f) : V p l e R s m args below meth c nL G A Q cells slots P lv (.ref b :: .int i :: .ref q :: stk) pc f := by
  intro H locs ls hP hD hS hl
  obtain ⟨r, hr, hr1⟩ := hc
  obtain ⟨j, hj⟩ := wld_get (G := G) (f := f) hq.1
  obtain ⟨j2, hj2⟩ := wld_get (G := G) (f := f) hb.1
  have hj' := hj
  rw [cellE_11 hq] at hj'
  rw [cellE_o hb hk] at hj2
  subst hn
  refine va_astq (D := G.1) (cl := vwCl) (r := r) o.1.1 o.1.2.1 o.2.1 hP hD hS j 2 j2 ci hj' (by rw [hr1]; rfl) hj2 hr hi d (fun H1 locs1 hP1 hD1 hS1 => ?_)
  rw [wld_set hD hq.1 hj, va_pl_congr (cellE_ast11 hq)] at hP1 hD1
  exact kk H1 locs1 ls hP1 hD1 hS1 hl
theorem v_anew12 (o : Okk p s m args meth c cc own nL G A) (hsz : s.heap.size = sz) (hA : A = frA P0 sz) (h0 : ∀ x ∈ sL P0, x ∈ sL P) (hall : AllIn P sz cells) {idx : Nat} (hlk : Cond.classLink own idx "StrandLoaves$Board" ∈ lw_U) (hov : va_AO "StrandLoaves$Board" s) {n : Int32} {N : Nat} (hn : ¬ n < 0) (hN : n.toNatClampNeg = N) (hb : N * 4 ≤ 536870912) (hf : cells + 1 ≤ R.cells ∧ slots + N ≤ R.slots) (d : decode cc pc = .ok (.anewarray idx, 3)) (kk : V p l e R s m args below meth c nL G A Q (cells + 1) (slots + N) (pNew P (sz + cells) 12 N) lv (.ref (sz + cells) :: stk) (pc + 3) (va_up f (sz + cells) z0)) : V p l e R s m args below meth c nL G A Q cells slots P lv (.int n :: stk) pc f := by
  intro H locs ls hP hD hS hl
  refine va_newq (D := G.1) (cl := vwCl) o.1.1 o.1.2.1 o.1.2.2.2.1 (o.1.2.2.2.2 _ hlk) hov o.2.1 hP hD hS o.2.2.2 hn hN hb hf.1 hf.2 d (fun q cA H1 hK1 hP1 hD1 hS1 => ?_)
  intro T1 hT1 X1
  obtain ⟨rfl, hni⟩ := new_at hsz hA h0 hall hT1 X1 hP1 hD1
  have hcA : cA = G.2.2.2.2 := by
    obtain ⟨kA, comp, -, -, -, e1⟩ := (hK1.2 4 (cA, .object "StrandLoaves$Board") rfl).2
    obtain ⟨kA', comp', -, -, -, e2⟩ := (o.2.1.2 3 (G.2.2.2.2, .object "StrandLoaves$Board") rfl).2
    exact Option.some.inj (e1.symm.trans e2)
  subst hcA
  have he : wld G P f ++ [(sz + cells, .inl (G.2.2.2.2, N, .inr (.inr (.inr (.inr (fun _ => none))))))] = wld G (pNew P (sz + cells) 12 N) (va_up f (sz + cells) z0) := by
    refine (va_pl_push hni).trans (va_pl_congr (cellE_new ?_))
    rw [cellE_12 ⟨by simp [pNew, sL], by simp [pNew, va_up, sK]⟩]
    simp [pNew, va_up, sL, sK, sN, sR, sJ]
  rw [he] at hP1 hD1
  exact kk H1 locs ls hP1 hD1 hS1 hl T1 hT1 X1
theorem v_aast12 (o : Okk p s m args meth c cc own nL G A) {q n b ci : Nat} {i : Int32} (hq : Ob P q 12) (hn : sN P q = n) (hi : vp_in i n) (hc : ∃ r : vw_C, vwCl[ci]? = some r ∧ r.1 = "StrandLoaves$Board") (hk : ci < 9) (hb : Ob P b ci) (d : decode cc pc = .ok (.aastore, 1)) (kk : V p l e R s m args below meth c nL G A Q cells slots (pRef P q i.toNatClampNeg b) lv stk (pc + 1) f) : V p l e R s m args below meth c nL G A Q cells slots P lv (.ref b :: .int i :: .ref q :: stk) pc f := by
  intro H locs ls hP hD hS hl
  obtain ⟨r, hr, hr1⟩ := hc
  obtain ⟨j, hj⟩ := wld_get (G := G) (f := f) hq.1
  obtain ⟨j2, hj2⟩ := wld_get (G := G) (f := f) hb.1
  have hj' := hj
  rw [cellE_12 hq] at hj'
  rw [cellE_o hb hk] at hj2
  subst hn
  refine va_astq (D := G.1) (cl := vwCl) (r := r) o.1.1 o.1.2.1 o.2.1 hP hD hS j 3 j2 ci hj' (by rw [hr1]; rfl) hj2 hr hi d (fun H1 locs1 hP1 hD1 hS1 => ?_)
  rw [wld_set hD hq.1 hj, va_pl_congr (cellE_ast12 hq)] at hP1 hD1
  exact kk H1 locs1 ls hP1 hD1 hS1 hl
theorem v_pfR (o : Okk p s m args meth c cc own nL G A) {q k j idx b : Nat} (hL : LkG own idx k j) (hin2 : meth.name = "<init>") (hq : Ob P q k) (d : decode cc pc = .ok (.putfield idx, 3)) (kk : V p l e R s m args below meth c nL G A Q cells slots (pRef P q j b) lv stk (pc + 3) f) : V p l e R s m args below meth c nL G A Q cells slots P lv (.ref b :: .ref q :: stk) pc f := by
  intro H locs ls hP hD hS hl
  obtain ⟨C, T, N, tt, ty, hc, hin, hty, hnm, hj, hlink, hs, hown, hfin, hd, hnr, hr, h2⟩ := hL
  obtain ⟨i, hi⟩ := wld_get (G := G) (f := f) hq.1
  have hi' := hi
  rw [cellE_o hq h2] at hi'
  refine va_putF (D := G.1) (cl := vwCl) o.1.1 o.1.2.1 o.1.2.2.2.2 hin tt hty hnm o.1.2.2.2.1 o.2.1 hP hD hS i hi' hc j hj (o.1.2.2.2.2 _ hlink) (fun x hx => by rw [hs] at hx; exact hx) hfin hin2 (hs.trans hown) hd (hnr b).1 (hnr b).2 (by rw [flds_len]; exact hr.2) d (fun H1 locs1 hP1 hD1 hS1 => ?_)
  rw [wld_set hD hq.1 hi, va_pl_congr (cellE_putR hq hr h2)] at hP1 hD1
  exact kk H1 locs1 ls hP1 hD1 hS1 hl
theorem v_obj (o : Okk p s m args meth c cc own nL G A) {idx q : Nat} (hl1 : Cond.methodLink own idx Lib.objectInit ∈ lw_U) (h2 : Cond.instanceMethod Lib.objectInit ∈ lw_U) (h3 : Cond.code Lib.objectInit ⟨#[0xb1]⟩ 1 none ∈ lw_U) (hR : 1 ≤ R.frames ∧ (stk.map fun v => v.category).sum + 12 ≤ R.locals) (d : decode cc pc = .ok (.invokespecial idx, 3)) (kk : V p l e R s m args below meth c nL G A Q cells slots P lv stk (pc + 3) f) : V p l e R s m args below meth c nL G A Q cells slots P lv (.ref q :: stk) pc f := by
  intro H locs ls hP hD hS hl
  have ht := o.1.2.2.2.2
  exact W.objInit o.1.1 o.1.2.1 o.1.2.2.2.1 (ht _ hl1) (ht _ h2) (ht _ h3) rfl (by rw [o.1.2.2.1]; exact hl.1) rfl d hR.1 (by show 2 * 0 + _ + 12 ≤ _; omega) (kk H locs ls hP hD hS hl)
theorem v_vretC (o : Okk p s m args meth c cc own nL G A) {sz : Nat} {K : Sk → St → Prop} (hA : A = frA P0 sz) (hr : meth.sig.returnType = none) (d : decode cc pc = .ok (.return_, 1)) (hK : K P f) : V p l e R s m args below meth c nL G A (MQ below (QcC G P0 sz K) args s cells slots (frA P0 sz)) cells slots P lv [] pc f := by
  subst hA
  intro H locs ls hP hD hS hl
  exact W.vret o.1.1 o.1.2.1 hr (fun t ht hW => ⟨⟨(P, f), rfl, hK, by rw [ht]; exact hP, va_K.moved hW.alike o.2.1, hD⟩, hS.F ht⟩) hS.2.2 d (hlocks := o.2.2.1)
theorem v_cI (o : Okk p s m args meth c cc own nL G A) (hsz : s.heap.size = sz) (hA : A = frA P0 sz) (h0 : ∀ x ∈ sL P0, x ∈ sL P) (hall : AllIn P sz cells) {y : MethodName} {bytes : ByteArray} {maxL n idx b mc ms : Nat} {rm : Room} {K : Sk → St → Prop} (hAO : AO s) (As rest : List Value) (hM : Met l y (wU y bytes maxL none) rm (PcC G P f (sz + cells) (.ref b :: As)) (QcC G P (sz + cells) K) mc ms (frA P (sz + cells))) (cw : CallB R s args own idx y bytes maxL none (wU y bytes maxL none) rm mc ms n ∧ y.name = "<init>" ∧ (Cond.instanceMethod y).before args s = true) (hn : As.length = n) (hW : (rest.map fun v => v.category).sum ≤ 8) (hf : cells + mc ≤ R.cells ∧ slots + ms ≤ R.slots) (d : decode cc pc = .ok (.invokespecial idx, 3)) (hst : stk = As.reverse ++ .ref b :: rest) (kk : ∀ (P2 : Sk) (u : St), K P2 u → V p l e R s m args below meth c nL G A Q (cells + mc) (slots + ms) P2 lv rest (pc + 3) u) : V p l e R s m args below meth c nL G A Q cells slots P lv stk pc f := by
  subst hst
  intro H locs ls hP hD hS hl T hT X
  have hz : H.size = sz + cells := by
    have hup : H.size ≤ sz + cells := by
      have := X.heapSize
      rw [hT, hsz] at this
      exact this
    have hlo : sz + cells ≤ H.size := by
      rcases Nat.eq_zero_or_pos cells with h | h
      · have := hS.1
        omega
      · have := wld_lt hP (hall (cells - 1) (by omega))
        omega
    omega
  have hA2 : ∀ q, frA P (sz + cells) q → A q := fun q h => h.elim (fun h => wld_in hD h) (fun h => o.2.2.2 q (by omega))
  refine va_callv (va_runI (As := As) (rest := rest) o.1 hM cw ⟨pcc_blind, fun U hU hW => ⟨rfl, by rw [hU]; exact hz, by rw [hU]; exact hP, va_K.moved hW.alike o.2.1, wld_D hD (fun _ _ => trivial), AO.moved hW hAO⟩⟩ rfl hn hl.1 rfl (lv_room hW) d hf) hS (fun q _ h => hA2 q h) hA2 (fun u t H1 locs1 ht hvm hw hB hz1 hk1 hS1 => ?_) T hT X
  obtain ⟨hP1, hK1, hD1⟩ := hB
  rw [ht] at hP1
  exact kk u.1 u.2 hw H1 locs1 ls hP1 (wld_D hD1 (fun q hq => hA2 q (wld_in hD1 hq))) hS1 hl
theorem v_cIN (o : Okk p s m args meth c cc own nL G A) {host : String} (hsz : s.heap.size = sz) (hA : A = frA P0 sz) (h0 : ∀ x ∈ sL P0, x ∈ sL P) (hall : AllIn P sz cells) {y : MethodName} {bytes : ByteArray} {maxL n idx b mc ms : Nat} {rm : Room} {K : Sk → St → Prop} (hAO : AO s) (As rest : List Value) (hM : Met l y (wU y bytes maxL none) rm (PcC G P f (sz + cells) (.ref b :: As)) (QcC G P (sz + cells) K) mc ms (frA P (sz + cells))) (cw : va_CN R s args own idx y host bytes maxL none (wU y bytes maxL none) rm mc ms n ∧ (y.name = "<init>" ∧ (Cond.instanceMethod y).before args s = true)) (hn : As.length = n) (hW : (rest.map fun v => v.category).sum ≤ 8) (hf : cells + mc ≤ R.cells ∧ slots + ms ≤ R.slots) (d : decode cc pc = .ok (.invokespecial idx, 3)) (hst : stk = As.reverse ++ .ref b :: rest) (kk : ∀ (P2 : Sk) (u : St), K P2 u → V p l e R s m args below meth c nL G A Q (cells + mc) (slots + ms) P2 lv rest (pc + 3) u) : V p l e R s m args below meth c nL G A Q cells slots P lv stk pc f := by
  subst hst
  intro H locs ls hP hD hS hl T hT X
  have hz : H.size = sz + cells := by
    have hup : H.size ≤ sz + cells := by
      have := X.heapSize
      rw [hT, hsz] at this
      exact this
    have hlo : sz + cells ≤ H.size := by
      rcases Nat.eq_zero_or_pos cells with h | h
      · have := hS.1
        omega
      · have := wld_lt hP (hall (cells - 1) (by omega))
        omega
    omega
  have hA2 : ∀ q, frA P (sz + cells) q → A q := fun q h => h.elim (fun h => wld_in hD h) (fun h => o.2.2.2 q (by omega))
  refine va_callv (va_runIN (As := As) (rest := rest) o.1 hM cw ⟨pcc_blind, fun U hU hW => ⟨rfl, by rw [hU]; exact hz, by rw [hU]; exact hP, va_K.moved hW.alike o.2.1, wld_D hD (fun _ _ => trivial), AO.moved hW hAO⟩⟩ rfl hn hl.1 rfl (lv_room hW) d hf) hS (fun q _ h => hA2 q h) hA2 (fun u t H1 locs1 ht hvm hw hB hz1 hk1 hS1 => ?_) T hT X
  obtain ⟨hP1, hK1, hD1⟩ := hB
  rw [ht] at hP1
  exact kk u.1 u.2 hw H1 locs1 ls hP1 (wld_D hD1 (fun q hq => hA2 q (wld_in hD1 hq))) hS1 hl
end VC
abbrev COk (P0 P : Sk) (sz cells : Nat) : Prop := (∀ x ∈ sL P0, x ∈ sL P) ∧ AllIn P sz cells
theorem v_metc {l : Launch} {y : MethodName} {cc : ByteArray} {maxL : Nat} {rm : Room} {G : Gl} {P : Sk} {f : St} {sz mc ms : Nat} {Qc : Array Value → State → Outcome → State → Prop} {own : String} (As : List Value) (hy : plainFor y = true) (ho : y.cls = own) (hn : y.name = "<init>") (hlen : (lg_sl As).length ≤ maxL)
    (body : ∀ (p : Program) (e : Env) (s : State) (m : MethodId) (args : Array Value) (below : List Frame) (meth : Method) (c : Code), s.heap.size = sz → Okk p s m args meth c cc own maxL G (frA P sz) → meth.sig.returnType = none → meth.name = "<init>" → AO s → V p l e rm s m args below meth c maxL G (frA P sz) (MQ below Qc args s mc ms (frA P sz)) 0 0 P (lv_args 0 As) [] 0 f) :
    Met l y (wU y cc maxL none) rm (PcC G P f sz As) Qc mc ms (frA P sz) := by
  refine met_ofWF (cc := cc) (maxL := maxL) (ret := none) hy rfl ?_
  intro p e s m args below meth c s₁ Bd hml hv
  obtain ⟨rfl, hsz, hP, hK, hD0, hO⟩ := hv
  have hts := atoms_spec (ws := wU y cc maxL none) Bd.pre
  have hts : ∀ w ∈ lw_U, w.before _ s = true := fun w h => hts w (List.mem_cons_of_mem _ h)
  have hown : s.vm.findClass y.cls = some m.cls := findClass_of_methodNamed Bd.named
  have hnm : meth.name = y.name := (name_of_methodNamed Bd.named Bd.method).1
  have hl := lv_entry As (n := maxL) hlen
  rw [ho] at hown
  rw [hn] at hnm
  rw [lg_entry_eq]
  exact body p e s m _ below meth c hsz ⟨⟨Bd.exec, Bd.bytes, hml, hown, hts⟩, hK, Bd.notSynchronized, fun q h => Or.inr (by rw [← hsz]; exact h)⟩ Bd.returns hnm hO s.heap [] _ hP (wld_D hD0 (fun q h => Or.inl h)) va_S.rf hl
theorem lgX7_10 : LkG RX7 10 7 0 := ⟨RX7, TX7, 8, tyX7, _, rfl, inU7, tyX7_ok, nmX7, by decide, mU 193 (by decide +kernel) rfl, rfl, rfl, rfl, rfl, fun b => ⟨rfl, rfl⟩, by decide, by decide⟩
theorem lgX7_19 : LkG RX7 19 7 1 := ⟨RX7, TX7, 8, tyX7, _, rfl, inU7, tyX7_ok, nmX7, by decide, mU 194 (by decide +kernel) rfl, rfl, rfl, rfl, rfl, fun b => ⟨rfl, rfl⟩, by decide, by decide⟩
theorem lgX7_26 : LkG RX7 26 7 2 := ⟨RX7, TX7, 8, tyX7, _, rfl, inU7, tyX7_ok, nmX7, by decide, mU 195 (by decide +kernel) rfl, rfl, rfl, rfl, rfl, fun b => ⟨rfl, rfl⟩, by decide, by decide⟩
theorem lgX7_30 : LkG RX7 30 7 3 := ⟨RX7, TX7, 8, tyX7, _, rfl, inU7, tyX7_ok, nmX7, by decide, mU 196 (by decide +kernel) rfl, rfl, rfl, rfl, rfl, fun b => ⟨rfl, rfl⟩, by decide, by decide⟩
theorem lgX7_40 : LkG RX7 40 7 5 := ⟨RX7, TX7, 8, tyX7, _, rfl, inU7, tyX7_ok, nmX7, by decide, mU 198 (by decide +kernel) rfl, rfl, rfl, rfl, rfl, fun b => ⟨rfl, rfl⟩, by decide, by decide⟩
theorem lgX7_47 : LkG RX7 47 7 6 := ⟨RX7, TX7, 8, tyX7, _, rfl, inU7, tyX7_ok, nmX7, by decide, mU 199 (by decide +kernel) rfl, rfl, rfl, rfl, rfl, fun b => ⟨rfl, rfl⟩, by decide, by decide⟩
theorem lgX7_51 : LkG RX7 51 7 7 := ⟨RX7, TX7, 8, tyX7, _, rfl, inU7, tyX7_ok, nmX7, by decide, mU 200 (by decide +kernel) rfl, rfl, rfl, rfl, rfl, fun b => ⟨rfl, rfl⟩, by decide, by decide⟩
theorem lgX0_11 : LkG RX0 11 0 0 := ⟨RX0, TX0, 6, tyX0, _, rfl, inU0, tyX0_ok, nmX0, by decide, mU 148 (by decide +kernel) rfl, rfl, rfl, rfl, rfl, fun b => ⟨rfl, rfl⟩, by decide, by decide⟩
theorem lgX0_18 : LkG RX0 18 0 1 := ⟨RX0, TX0, 6, tyX0, _, rfl, inU0, tyX0_ok, nmX0, by decide, mU 149 (by decide +kernel) rfl, rfl, rfl, rfl, rfl, fun b => ⟨rfl, rfl⟩, by decide, by decide⟩
theorem lgX1_11 : LkG RX1 11 1 0 := ⟨RX1, TX1, 4, tyX1, _, rfl, inU1, tyX1_ok, nmX1, by decide, mU 176 (by decide +kernel) rfl, rfl, rfl, rfl, rfl, fun b => ⟨rfl, rfl⟩, by decide, by decide⟩
theorem lgX1_18 : LkG RX1 18 1 1 := ⟨RX1, TX1, 4, tyX1, _, rfl, inU1, tyX1_ok, nmX1, by decide, mU 177 (by decide +kernel) rfl, rfl, rfl, rfl, rfl, fun b => ⟨rfl, rfl⟩, by decide, by decide⟩
theorem lgX2_12 : LkG RX2 12 2 0 := ⟨RX2, TX2, 3, tyX2, _, rfl, inU2, tyX2_ok, nmX2, by decide, mU 138 (by decide +kernel) rfl, rfl, rfl, rfl, rfl, fun b => ⟨rfl, rfl⟩, by decide, by decide⟩
theorem lgX2_18 : LkG RX2 18 2 1 := ⟨RX2, TX2, 3, tyX2, _, rfl, inU2, tyX2_ok, nmX2, by decide, mU 139 (by decide +kernel) rfl, rfl, rfl, rfl, rfl, fun b => ⟨rfl, rfl⟩, by decide, by decide⟩
theorem lgX2_24 : LkG RX2 24 2 2 := ⟨RX2, TX2, 3, tyX2, _, rfl, inU2, tyX2_ok, nmX2, by decide, mU 140 (by decide +kernel) rfl, rfl, rfl, rfl, rfl, fun b => ⟨rfl, rfl⟩, by decide, by decide⟩
theorem lgX3_7 : LkG RX3 7 3 0 := ⟨RX3, TX3, 1, tyX3, _, rfl, inU3, tyX3_ok, nmX3, by decide, mU 62 (by decide +kernel) rfl, rfl, rfl, rfl, rfl, fun b => ⟨rfl, rfl⟩, by decide, by decide⟩
theorem lgX4_14 : LkG RX4 14 4 0 := ⟨RX4, TX4, 2, tyX4, _, rfl, inU4, tyX4_ok, nmX4, by decide, mU 67 (by decide +kernel) rfl, rfl, rfl, rfl, rfl, fun b => ⟨rfl, rfl⟩, by decide, by decide⟩
theorem lgX5_14 : LkG RX5 14 5 0 := ⟨RX5, TX5, 8, tyX5, _, rfl, inU5, tyX5_ok, nmX5, by decide, mU 113 (by decide +kernel) rfl, rfl, rfl, rfl, rfl, fun b => ⟨rfl, rfl⟩, by decide, by decide⟩
theorem lgX5_20 : LkG RX5 20 5 1 := ⟨RX5, TX5, 8, tyX5, _, rfl, inU5, tyX5_ok, nmX5, by decide, mU 114 (by decide +kernel) rfl, rfl, rfl, rfl, rfl, fun b => ⟨rfl, rfl⟩, by decide, by decide⟩
theorem lgX5_23 : LkG RX5 23 5 2 := ⟨RX5, TX5, 8, tyX5, _, rfl, inU5, tyX5_ok, nmX5, by decide, mU 115 (by decide +kernel) rfl, rfl, rfl, rfl, rfl, fun b => ⟨rfl, rfl⟩, by decide, by decide⟩
theorem lgX5_26 : LkG RX5 26 5 3 := ⟨RX5, TX5, 8, tyX5, _, rfl, inU5, tyX5_ok, nmX5, by decide, mU 116 (by decide +kernel) rfl, rfl, rfl, rfl, rfl, fun b => ⟨rfl, rfl⟩, by decide, by decide⟩
theorem lgX5_29 : LkG RX5 29 5 4 := ⟨RX5, TX5, 8, tyX5, _, rfl, inU5, tyX5_ok, nmX5, by decide, mU 117 (by decide +kernel) rfl, rfl, rfl, rfl, rfl, fun b => ⟨rfl, rfl⟩, by decide, by decide⟩
theorem lgX5_32 : LkG RX5 32 5 5 := ⟨RX5, TX5, 8, tyX5, _, rfl, inU5, tyX5_ok, nmX5, by decide, mU 118 (by decide +kernel) rfl, rfl, rfl, rfl, rfl, fun b => ⟨rfl, rfl⟩, by decide, by decide⟩
theorem lgX5_35 : LkG RX5 35 5 6 := ⟨RX5, TX5, 8, tyX5, _, rfl, inU5, tyX5_ok, nmX5, by decide, mU 119 (by decide +kernel) rfl, rfl, rfl, rfl, rfl, fun b => ⟨rfl, rfl⟩, by decide, by decide⟩
theorem lgX6_14 : LkG RX6 14 6 0 := ⟨RX6, TX6, 3, tyX6, _, rfl, inU6, tyX6_ok, nmX6, by decide, mU 95 (by decide +kernel) rfl, rfl, rfl, rfl, rfl, fun b => ⟨rfl, rfl⟩, by decide, by decide⟩
theorem lnX0_9 : LkN RX0 9 2 := ⟨RX2, TX2, 3, tyX2, rfl, inU2, tyX2_ok, mU 80 (by decide +kernel) rfl, mU 82 (by decide +kernel) rfl, mU 30 (by decide +kernel) rfl, by decide +kernel, by decide, by decide⟩
theorem lnX1_9 : LkN RX1 9 0 := ⟨RX0, TX0, 6, tyX0, rfl, inU0, tyX0_ok, mU 173 (by decide +kernel) rfl, mU 75 (by decide +kernel) rfl, mU 29 (by decide +kernel) rfl, by decide +kernel, by decide, by decide⟩
theorem lnX2_9 : LkN RX2 9 6 := ⟨RX6, TX6, 3, tyX6, rfl, inU6, tyX6_ok, mU 87 (by decide +kernel) rfl, mU 88 (by decide +kernel) rfl, mU 31 (by decide +kernel) rfl, by decide +kernel, by decide, by decide⟩
theorem lnX2_21 : LkN RX2 21 5 := ⟨RX5, TX5, 8, tyX5, rfl, inU5, tyX5_ok, mU 105 (by decide +kernel) rfl, mU 106 (by decide +kernel) rfl, mU 32 (by decide +kernel) rfl, by decide +kernel, by decide, by decide⟩
theorem lnX4_9 : LkN RX4 9 3 := ⟨RX3, TX3, 1, tyX3, rfl, inU3, tyX3_ok, mU 56 (by decide +kernel) rfl, mU 57 (by decide +kernel) rfl, mU 28 (by decide +kernel) rfl, by decide +kernel, by decide, by decide⟩
theorem lnX5_9 : LkN RX5 9 3 := ⟨RX3, TX3, 1, tyX3, rfl, inU3, tyX3_ok, mU 111 (by decide +kernel) rfl, mU 57 (by decide +kernel) rfl, mU 28 (by decide +kernel) rfl, by decide +kernel, by decide, by decide⟩
theorem lnX6_9 : LkN RX6 9 3 := ⟨RX3, TX3, 1, tyX3, rfl, inU3, tyX3_ok, mU 93 (by decide +kernel) rfl, mU 57 (by decide +kernel) rfl, mU 28 (by decide +kernel) rfl, by decide +kernel, by decide, by decide⟩
theorem lnX7_7 : LkN RX7 7 4 := ⟨RX4, TX4, 2, tyX4, rfl, inU4, tyX4_ok, mU 50 (by decide +kernel) rfl, mU 51 (by decide +kernel) rfl, mU 27 (by decide +kernel) rfl, by decide +kernel, by decide, by decide⟩
theorem lnX7_16 : LkN RX7 16 0 := ⟨RX0, TX0, 6, tyX0, rfl, inU0, tyX0_ok, mU 74 (by decide +kernel) rfl, mU 75 (by decide +kernel) rfl, mU 29 (by decide +kernel) rfl, by decide +kernel, by decide, by decide⟩
theorem lnX7_23 : LkN RX7 23 1 := ⟨RX1, TX1, 4, tyX1, rfl, inU1, tyX1_ok, mU 167 (by decide +kernel) rfl, mU 168 (by decide +kernel) rfl, mU 33 (by decide +kernel) rfl, by decide +kernel, by decide, by decide⟩
theorem lnX7_37 : LkN RX7 37 2 := ⟨RX2, TX2, 3, tyX2, rfl, inU2, tyX2_ok, mU 189 (by decide +kernel) rfl, mU 82 (by decide +kernel) rfl, mU 30 (by decide +kernel) rfl, by decide +kernel, by decide, by decide⟩
theorem lnX7_44 : LkN RX7 44 6 := ⟨RX6, TX6, 3, tyX6, rfl, inU6, tyX6_ok, mU 191 (by decide +kernel) rfl, mU 88 (by decide +kernel) rfl, mU 31 (by decide +kernel) rfl, by decide +kernel, by decide, by decide⟩
theorem lnL_13 : LkN RL 13 7 := ⟨RX7, TX7, 8, tyX7, rfl, inU7, tyX7_ok, mU 42 (by decide +kernel) rfl, mU 43 (by decide +kernel) rfl, mU 26 (by decide +kernel) rfl, by decide +kernel, by decide, by decide⟩
