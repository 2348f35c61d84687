/-! THE V LAYER: one world for all methods. P: the skeleton (addresses, kinds, lengths, references, longs), f: the ints; V: the walk at a pc over any heap that holds them. -/
def lw_U : List Cond := lw_tbl.filter goodWord
theorem mU {w : Cond} (i : Nat) (h : lw_tbl[i]? = some w) (hg : goodWord w = true) : w ∈ lw_U := List.mem_filter.mpr ⟨List.mem_of_getElem? h, hg⟩
abbrev wU (y : MethodName) (cc : ByteArray) (n : Nat) (r : Option FieldType) : List Cond := Cond.code y cc n r :: lw_U
theorem gU1 {w : Cond} (h : w ∈ lw_U) : w ∈ lw_U ∧ ((w.onTables && w.keeps) = true ∨ ∃ ty, w = .arrayClass ty) := ⟨h, good_of_word (List.mem_filter.mp h).2⟩
theorem gU : GoodIn lw_U lw_U := fun _ h => gU1 h
theorem gUc {y : MethodName} {cc : ByteArray} {n : Nat} {r : Option FieldType} (h : Cond.code y cc n r ∈ lw_U) : GoodIn lw_U (wU y cc n r) := fun w hw => (List.mem_cons.mp hw).elim (fun e => e ▸ gU1 h) (fun h2 => gU1 h2)
theorem gUV {own C : String} {idx : Nat} {y : MethodName} {cc : ByteArray} {n : Nat} {r : Option FieldType} (h1 : Cond.methodLink own idx y ∈ lw_U) (h2 : Cond.instanceMethod y ∈ lw_U) (h3 : Cond.selects C y y ∈ lw_U) (h4 : Cond.initialized C ∈ lw_U) (h5 : Cond.code y cc n r ∈ lw_U) : GoodIn lw_U (wsV own idx C y (wU y cc n r)) := by
  intro w hw
  unfold wsV at hw
  rcases List.mem_append.mp hw with h | h
  · simp only [List.mem_cons, List.not_mem_nil, or_false] at h
    rcases h with rfl | rfl | rfl | rfl
    · exact gU1 h1
    · exact gU1 h2
    · exact gU1 h3
    · exact gU1 h4
  · exact gUc h5 w h
/-- the ints of the world: by address and slot (a field's place, or an array's index) -/
abbrev St : Type := Nat → Nat → Int32
/-- the skeleton: addresses, kinds, lengths, references, longs -/
abbrev Sk : Type := List Nat × (Nat → Nat) × (Nat → Nat) × (Nat → Nat → Option Nat) × (Nat → Nat → Int64)
abbrev sL (P : Sk) : List Nat := P.1
abbrev sK (P : Sk) : Nat → Nat := P.2.1
abbrev sN (P : Sk) : Nat → Nat := P.2.2.1
abbrev sR (P : Sk) : Nat → Nat → Option Nat := P.2.2.2.1
abbrev sJ (P : Sk) : Nat → Nat → Int64 := P.2.2.2.2
/-- what the launch fixes: the classes' numbers and slots; the array classes of int, long, Loaf, Board -/
abbrev Gl : Type := va_G × ClassId × ClassId × ClassId × ClassId
abbrev tysG (G : Gl) : List (ClassId × FieldType) := [(G.2.1, .int), (G.2.1, .int), (G.2.2.2.1, .object "StrandLoaves$Loaf"), (G.2.2.2.2, .object "StrandLoaves$Board")]
def rfT : List (List Bool) := [[true, true, false, false, false, false], [true, true, false, false], [true, true, true], [true], [true, false], [true, true, true, true, true, true, true, false], [true, false, false], [true, true, true, true, false, true, true, true], [false, true, true, false, true, false, true, false, true, false, false, true, true, true, false, false, true, false, false, false, true, false]]
def nF (k : Nat) : Nat := (rfT.getD k []).length
def isR (k j : Nat) : Bool := (rfT.getD k []).getD j false
def flds (P : Sk) (f : St) (a k : Nat) : List Value := (List.range (nF k)).map (fun j => if isR k j then va_rf (sR P a j) else .int (f a j))
def cellE (G : Gl) (P : Sk) (f : St) (q : Nat) : va_E :=
  if sK P q < 9 then .inr (sK P q, flds P f q (sK P q))
  else if sK P q = 9 then .inl (G.2.1, sN P q, .inl (f q))
  else if sK P q = 10 then .inl (G.2.2.1, sN P q, .inr (.inl (sJ P q)))
  else if sK P q = 11 then .inl (G.2.2.2.1, sN P q, .inr (.inr (.inr (.inr (sR P q)))))
  else .inl (G.2.2.2.2, sN P q, .inr (.inr (.inr (.inr (sR P q)))))
abbrev Ob (P : Sk) (q k : Nat) : Prop := q ∈ sL P ∧ sK P q = k
theorem cellE_o {G : Gl} {P : Sk} {f : St} {q k : Nat} (h : Ob P q k) (hk : k < 9) : cellE G P f q = .inr (k, flds P f q k) := by
  obtain ⟨-, rfl⟩ := h
  simp only [cellE, if_pos hk]
theorem cellE_i {G : Gl} {P : Sk} {f : St} {q : Nat} (h : Ob P q 9) : cellE G P f q = .inl (G.2.1, sN P q, .inl (f q)) := by
  simp [cellE, h.2]
theorem cellE_j {G : Gl} {P : Sk} {f : St} {q : Nat} (h : Ob P q 10) : cellE G P f q = .inl (G.2.2.1, sN P q, .inr (.inl (sJ P q))) := by
  simp [cellE, h.2]
theorem cellE_11 {G : Gl} {P : Sk} {f : St} {q : Nat} (h : Ob P q 11) : cellE G P f q = .inl (G.2.2.2.1, sN P q, .inr (.inr (.inr (.inr (sR P q))))) := by
  simp [cellE, h.2]
theorem cellE_12 {G : Gl} {P : Sk} {f : St} {q : Nat} (h : Ob P q 12) : cellE G P f q = .inl (G.2.2.2.2, sN P q, .inr (.inr (.inr (.inr (sR P q))))) := by
  simp [cellE, h.2]
/-- one int is written -/
def setf (f : St) (a j : Nat) (v : Int32) : St := fun q i => if q = a ∧ i = j then v else f q i
theorem setf_same (f : St) (a j : Nat) (v : Int32) : setf f a j v a j = v := by simp [setf]
theorem setf_off {f : St} {a j q i : Nat} {v : Int32} (h : q ≠ a ∨ i ≠ j) : setf f a j v q i = f q i := by
  have : ¬ (q = a ∧ i = j) := by omega
  simp only [setf, if_neg this]
theorem flds_get {P : Sk} {f : St} {a k j : Nat} (h : isR k j = false ∧ j < nF k) : (flds P f a k)[j]? = some (.int (f a j)) := by
  simp [flds, h.1, h.2]
theorem flds_getR {P : Sk} {f : St} {a k j : Nat} (h : isR k j = true ∧ j < nF k) : (flds P f a k)[j]? = some (va_rf (sR P a j)) := by
  simp [flds, h.1, h.2]
theorem flds_set {P : Sk} {f : St} {a k j : Nat} (h : isR k j = false ∧ j < nF k) (v : Int32) : (flds P f a k).set j (.int v) = flds P (setf f a j v) a k := by
  apply List.ext_getElem?
  intro i
  by_cases hi : i = j
  · subst hi
    rw [flds_get h, List.getElem?_set]
    simp [flds, h.2, setf]
  · rw [List.getElem?_set]
    simp only [flds, List.getElem?_map]
    have : ¬ j = i := fun e => hi e.symm
    by_cases hb : i < nF k
    · simp [this, setf, hi, hb]
    · simp [this, hb]
theorem flds_len (P : Sk) (f : St) (a k : Nat) : (flds P f a k).length = nF k := by simp [flds]
theorem flds_off {P : Sk} {f : St} {a q k j : Nat} {v : Int32} (h : q ≠ a) : flds P (setf f a j v) q k = flds P f q k := by
  simp [flds, setf, h]
theorem cellE_off {G : Gl} {P : Sk} {f : St} {a q j : Nat} {v : Int32} (h : q ≠ a) : cellE G P (setf f a j v) q = cellE G P f q := by
  have e : setf f a j v q = f q := by funext i; simp [setf, h]
  simp only [cellE, flds_off h, e]
theorem cellE_putI {G : Gl} {P : Sk} {f : St} {a k j : Nat} (hq : Ob P a k) (h : isR k j = false ∧ j < nF k) (hk : k < 9) (v : Int32) : ∀ q, va_up (cellE G P f) a (.inr (k, (flds P f a k).set j (.int v))) q = cellE G P (setf f a j v) q := by
  intro q
  by_cases e : q = a
  · subst e
    rw [cellE_o hq hk, flds_set h]
    simp [va_up]
  · rw [cellE_off e]
    simp [va_up, e]
theorem cellE_ast {G : Gl} {P : Sk} {f : St} {a j : Nat} (hq : Ob P a 9) (v : Int32) : ∀ q, va_up (cellE G P f) a (.inl (G.2.1, sN P a, .inl (upd (f a) j v))) q = cellE G P (setf f a j v) q := by
  intro q
  by_cases e : q = a
  · subst e
    rw [cellE_i hq]
    have : upd (f q) j v = setf f q j v q := by
      funext i
      simp [upd, setf]
    simp [va_up, this]
  · rw [cellE_off e]
    simp [va_up, e]
/-- what a method may write: its world, and what it makes -/
abbrev frA (P : Sk) (sz : Nat) : Nat → Prop := fun q => q ∈ sL P ∨ sz ≤ q
abbrev wld (G : Gl) (P : Sk) (f : St) : va_W := va_pl (sL P) (cellE G P f)
abbrev PcW (G : Gl) (P : Sk) (f : St) (sz : Nat) (av : List Value) : Array Value → State → Prop := va_Pc av (fun U => U.heap.size = sz ∧ va_P G.1 vwCl (wld G P f) U.heap ∧ va_K G.1 vwCl (tysG G) U ∧ va_D (fun _ => True) (wld G P f))
abbrev WB (G : Gl) (P : Sk) (sz : Nat) (f : St) (t : State) : Prop := va_P G.1 vwCl (wld G P f) t.heap ∧ va_K G.1 vwCl (tysG G) t ∧ va_D (frA P sz) (wld G P f)
abbrev QcI (G : Gl) (P : Sk) (sz : Nat) (K : Int32 → St → Prop) : Array Value → State → Outcome → State → Prop := va_Qi (S := St) K (WB G P sz) (frA P sz)
abbrev QcL (G : Gl) (P : Sk) (sz : Nat) (K : Int64 → St → Prop) : Array Value → State → Outcome → State → Prop := va_Ql (S := St) K (WB G P sz) (frA P sz)
abbrev QcD (G : Gl) (P : Sk) (sz : Nat) (K : UInt64 → St → Prop) : Array Value → State → Outcome → State → Prop := va_Qd (S := St) K (WB G P sz) (frA P sz)
abbrev QcV (G : Gl) (P : Sk) (sz : Nat) (K : St → Prop) : Array Value → State → Outcome → State → Prop := va_Qv (S := St) K (WB G P sz) (frA P sz)
abbrev QcR (G : Gl) (P : Sk) (sz : Nat) (K : Nat → St → Prop) : Array Value → State → Outcome → State → Prop := va_Qr (S := St) (fun _ => True) (fun u a t => K a u ∧ WB G P sz u t) (frA P sz)
theorem pcw_blind {G : Gl} {P : Sk} {f : St} {sz : Nat} {av : List Value} : FrameBlind (PcW G P f sz av) := fun a U g mk q => by
  obtain ⟨q0, q1, qP, qK, qD⟩ := q
  exact ⟨q0, q1, qP, va_K.moved (u := U) (U := U.calling g mk a) (Vm.Alike.refl U.vm) qK, qD⟩
theorem wld_get {G : Gl} {P : Sk} {f : St} {q : Nat} (h : q ∈ sL P) : ∃ k : Nat, (wld G P f)[k]? = some (q, cellE G P f q) := va_pl_get (X := []) h
theorem wld_set {A : Nat → Prop} {G : Gl} {P : Sk} {f : St} {a k : Nat} {e : va_E} (hD : va_D A (wld G P f)) (h : a ∈ sL P) (hk : (wld G P f)[k]? = some (a, cellE G P f a)) : (wld G P f).set k (a, e) = va_pl (sL P) (va_up (cellE G P f) a e) := va_pl_set (X := []) hD h hk
theorem wld_in {A : Nat → Prop} {G : Gl} {P : Sk} {f : St} (hD : va_D A (wld G P f)) {q : Nat} (h : q ∈ sL P) : A q := by
  obtain ⟨k, hk⟩ := wld_get (G := G) (f := f) h
  exact hD.2 k _ hk
theorem wld_lt {G : Gl} {P : Sk} {f : St} {H : Heap} (hP : va_P G.1 vwCl (wld G P f) H) {q : Nat} (h : q ∈ sL P) : q < H.size := by
  obtain ⟨k, hk⟩ := wld_get (G := G) (f := f) h
  exact (hP k _ hk).lt
/-- a world's cells are apart: any kind of address may stand for where they lie -/
theorem wld_D {A B : Nat → Prop} {G : Gl} {P : Sk} {f g : St} (hD : va_D A (wld G P f)) (h : ∀ q ∈ sL P, B q) : va_D B (wld G P g) := by
  constructor
  · intro i j x y hx hy hxy
    simp only [wld, va_pl, List.getElem?_map, Option.map_eq_some_iff] at hx hy
    obtain ⟨a, ha, rfl⟩ := hx
    obtain ⟨b, hb, rfl⟩ := hy
    refine hD.1 i j (a, cellE G P f a) (b, cellE G P f b) ?_ ?_ hxy
    · simp [wld, va_pl, ha]
    · simp [wld, va_pl, hb]
  · intro k x hx
    simp only [wld, va_pl, List.getElem?_map, Option.map_eq_some_iff] at hx
    obtain ⟨a, ha, rfl⟩ := hx
    exact h a (List.mem_of_getElem? ha)
section VV
variable {p : Program} {l : Launch} {e : Env} {R : Room} {s : State} {m : MethodId} {args : Array Value} {below : List Frame} {meth : Method} {c : Code} {cc : ByteArray} {own : String} {nL : Nat} {G : Gl} {A : Nat → Prop} {Q : State → Prop}
def V (p : Program) (l : Launch) (e : Env) (R : Room) (s : State) (m : MethodId) (args : Array Value) (below : List Frame) (meth : Method) (c : Code) (nL : Nat) (G : Gl) (A : Nat → Prop) (Q : State → Prop) (cells slots : Nat) (P : Sk) (lv : List (Nat × Value)) (stk : List Value) (pc : Nat) (f : St) : Prop :=
  ∀ (H : Heap) (locs : List Loc) (ls : Array Slot), va_P G.1 vwCl (wld G P f) H → va_D A (wld G P f) → va_S A s.heap H locs → lv_has ls nL lv → W p l e R s m args below meth c H locs cells slots Q (F0 m pc ls stk)
/-- what a method's walk stands on -/
abbrev Okk (p : Program) (s : State) (m : MethodId) (args : Array Value) (meth : Method) (c : Code) (cc : ByteArray) (own : String) (nL : Nat) (G : Gl) (A : Nat → Prop) : Prop :=
  CallFix p m c cc nL s args lw_U own ∧ va_K G.1 vwCl (tysG G) s ∧ meth.locks = false ∧ ∀ q, s.heap.size ≤ q → A q
variable {cells slots : Nat} {P : Sk} {lv lv' : List (Nat × Value)} {stk : List Value} {pc : Nat} {f : St}
theorem v_w (h : ∀ (H : Heap) (locs : List Loc) (ls : Array Slot), lv_has ls nL lv → (∀ (lv2 : List (Nat × Value)) (stk2 : List Value) (pc2 : Nat) (ls2 : Array Slot), V p l e R s m args below meth c nL G A Q cells slots P lv2 stk2 pc2 f → lv_has ls2 nL lv2 → W p l e R s m args below meth c H locs cells slots Q (F0 m pc2 ls2 stk2)) → W p l e R s m args below meth c H locs cells slots Q (F0 m pc ls stk)) : V p l e R s m args below meth c nL G A Q cells slots P lv stk pc f :=
  fun H locs ls hP hD hS hl => h H locs ls hl (fun _ _ _ ls2 k hl2 => k H locs ls2 hP hD hS hl2)
/-- a number on top gets a name -/
theorem v_topi {x : Int32} (k : ∀ y : Int32, y = x → V p l e R s m args below meth c nL G A Q cells slots P lv (.int y :: stk) pc f) : V p l e R s m args below meth c nL G A Q cells slots P lv (.int x :: stk) pc f := k x rfl
theorem v_topl {x : Int64} (k : ∀ y : Int64, y = x → V p l e R s m args below meth c nL G A Q cells slots P lv (.long y :: stk) pc f) : V p l e R s m args below meth c nL G A Q cells slots P lv (.long x :: stk) pc f := k x rfl
theorem v_topd {x : UInt64} (k : ∀ y : UInt64, y = x → V p l e R s m args below meth c nL G A Q cells slots P lv (.double y :: stk) pc f) : V p l e R s m args below meth c nL G A Q cells slots P lv (.double x :: stk) pc f := k x rfl
theorem v_nmf (k : ∀ g : St, g = f → V p l e R s m args below meth c nL G A Q cells slots P lv stk pc g) : V p l e R s m args below meth c nL G A Q cells slots P lv stk pc f := k f rfl
theorem v_iconst (o : Okk p s m args meth c cc own nL G A) {n : Int} {v : Int32} (d : decode cc pc = .ok (.iconst n, 1)) (hv : Int32.ofInt n = v) (k : V p l e R s m args below meth c nL G A Q cells slots P lv (.int v :: stk) (pc + 1) f) : V p l e R s m args below meth c nL G A Q cells slots P lv (stk) pc f :=
  v_w fun _ _ _ hl g => lv_iconst o.1.1 o.1.2.1 d hv (g _ _ _ _ k hl)
theorem v_bipush (o : Okk p s m args meth c cc own nL G A) {n : Int} {v : Int32} (d : decode cc pc = .ok (.bipush n, 2)) (hv : (Int8.ofInt n).toInt32 = v) (k : V p l e R s m args below meth c nL G A Q cells slots P lv (.int v :: stk) (pc + 2) f) : V p l e R s m args below meth c nL G A Q cells slots P lv (stk) pc f :=
  v_w fun _ _ _ hl g => lv_bipush o.1.1 o.1.2.1 d hv (g _ _ _ _ k hl)
theorem v_sipush (o : Okk p s m args meth c cc own nL G A) {n : Int} {v : Int32} (d : decode cc pc = .ok (.sipush n, 3)) (hv : (Int16.ofInt n).toInt32 = v) (k : V p l e R s m args below meth c nL G A Q cells slots P lv (.int v :: stk) (pc + 3) f) : V p l e R s m args below meth c nL G A Q cells slots P lv (stk) pc f :=
  v_w fun _ _ _ hl g => lv_sipush o.1.1 o.1.2.1 d hv (g _ _ _ _ k hl)
theorem v_lconst (o : Okk p s m args meth c cc own nL G A) {n : Fin 2} {v : Int64} (d : decode cc pc = .ok (.lconst n, 1)) (hv : Int64.ofNat (n : Nat) = v) (k : V p l e R s m args below meth c nL G A Q cells slots P lv (.long v :: stk) (pc + 1) f) : V p l e R s m args below meth c nL G A Q cells slots P lv (stk) pc f :=
  v_w fun _ _ _ hl g => lv_lconst o.1.1 o.1.2.1 d hv (g _ _ _ _ k hl)
theorem v_ldc (o : Okk p s m args meth c cc own nL G A) {i : Nat} {v : Int32} (d : decode cc pc = .ok (.ldc i, 2)) (hc : Cond.constant own i v ∈ lw_U) (k : V p l e R s m args below meth c nL G A Q cells slots P lv (.int v :: stk) (pc + 2) f) : V p l e R s m args below meth c nL G A Q cells slots P lv (stk) pc f :=
  v_w fun _ _ _ hl g => lv_ldc o.1.1 o.1.2.1 o.1.2.2.2.1 (o.1.2.2.2.2 _ hc) d (g _ _ _ _ k hl)
theorem v_ldc2 (o : Okk p s m args meth c cc own nL G A) {i : Nat} {v : Int64} (d : decode cc pc = .ok (.ldc2_w i, 3)) (hc : Cond.constantLong own i v ∈ lw_U) (k : V p l e R s m args below meth c nL G A Q cells slots P lv (.long v :: stk) (pc + 3) f) : V p l e R s m args below meth c nL G A Q cells slots P lv (stk) pc f :=
  v_w fun _ _ _ hl g => lv_ldc2 o.1.1 o.1.2.1 o.1.2.2.2.1 (o.1.2.2.2.2 _ hc) d (g _ _ _ _ k hl)
theorem v_ldc2d (o : Okk p s m args meth c cc own nL G A) {i : Nat} {v : UInt64} (d : decode cc pc = .ok (.ldc2_w i, 3)) (hc : Cond.constantDouble own i v ∈ lw_U) (k : V p l e R s m args below meth c nL G A Q cells slots P lv (.double v :: stk) (pc + 3) f) : V p l e R s m args below meth c nL G A Q cells slots P lv (stk) pc f :=
  v_w fun _ _ _ hl g => lv_ldc2d o.1.1 o.1.2.1 o.1.2.2.2.1 (o.1.2.2.2.2 _ hc) d (g _ _ _ _ k hl)
theorem v_iload_n (o : Okk p s m args meth c cc own nL G A) {k9 : Fin 4} {x : Int32} (j : Nat) (d : decode cc pc = .ok (.iload_n k9, 1)) (hj : lv[j]? = some ((k9 : Nat), .int x)) (k : V p l e R s m args below meth c nL G A Q cells slots P lv (.int x :: stk) (pc + 1) f) : V p l e R s m args below meth c nL G A Q cells slots P lv (stk) pc f :=
  v_w fun _ _ _ hl g => lv_iload_n o.1.1 o.1.2.1 d rfl (lv_at hl j hj) (g _ _ _ _ k hl)
theorem v_iload (o : Okk p s m args meth c cc own nL G A) {i : Nat} {x : Int32} (j : Nat) (d : decode cc pc = .ok (.iload i, 2)) (hj : lv[j]? = some (i, .int x)) (k : V p l e R s m args below meth c nL G A Q cells slots P lv (.int x :: stk) (pc + 2) f) : V p l e R s m args below meth c nL G A Q cells slots P lv (stk) pc f :=
  v_w fun _ _ _ hl g => lv_iload o.1.1 o.1.2.1 d (lv_at hl j hj) (g _ _ _ _ k hl)
theorem v_istore_n (o : Okk p s m args meth c cc own nL G A) {k9 : Fin 4} {x : Int32} {i : Nat} (d : decode cc pc = .ok (.istore_n k9, 1)) (hi : (k9 : Nat) = i) (hn : i < nL) (hl' : (i, Value.int x) :: lv.filter (fun q => !(q.1 == i) && !(q.1 + 1 == i && q.2.category == 2)) = lv') (k : V p l e R s m args below meth c nL G A Q cells slots P lv' stk (pc + 1) f) : V p l e R s m args below meth c nL G A Q cells slots P lv (.int x :: stk) pc f :=
  v_w fun _ _ _ hl g => lv_istore_n o.1.1 o.1.2.1 d hi hl hn hl' (fun _ hl2 => g _ _ _ _ k hl2)
theorem v_istore (o : Okk p s m args meth c cc own nL G A) {x : Int32} {i : Nat} (d : decode cc pc = .ok (.istore i, 2)) (hn : i < nL) (hl' : (i, Value.int x) :: lv.filter (fun q => !(q.1 == i) && !(q.1 + 1 == i && q.2.category == 2)) = lv') (k : V p l e R s m args below meth c nL G A Q cells slots P lv' stk (pc + 2) f) : V p l e R s m args below meth c nL G A Q cells slots P lv (.int x :: stk) pc f :=
  v_w fun _ _ _ hl g => lv_istore o.1.1 o.1.2.1 d hl hn hl' (fun _ hl2 => g _ _ _ _ k hl2)
theorem v_lload_n (o : Okk p s m args meth c cc own nL G A) {k9 : Fin 4} {x : Int64} (j : Nat) (d : decode cc pc = .ok (.lload_n k9, 1)) (hj : lv[j]? = some ((k9 : Nat), .long x)) (k : V p l e R s m args below meth c nL G A Q cells slots P lv (.long x :: stk) (pc + 1) f) : V p l e R s m args below meth c nL G A Q cells slots P lv (stk) pc f :=
  v_w fun _ _ _ hl g => lv_lload_n o.1.1 o.1.2.1 d rfl (lv_at hl j hj) (g _ _ _ _ k hl)
theorem v_lload (o : Okk p s m args meth c cc own nL G A) {i : Nat} {x : Int64} (j : Nat) (d : decode cc pc = .ok (.lload i, 2)) (hj : lv[j]? = some (i, .long x)) (k : V p l e R s m args below meth c nL G A Q cells slots P lv (.long x :: stk) (pc + 2) f) : V p l e R s m args below meth c nL G A Q cells slots P lv (stk) pc f :=
  v_w fun _ _ _ hl g => lv_lload o.1.1 o.1.2.1 d (lv_at hl j hj) (g _ _ _ _ k hl)
theorem v_lstore_n (o : Okk p s m args meth c cc own nL G A) {k9 : Fin 4} {x : Int64} {i : Nat} (d : decode cc pc = .ok (.lstore_n k9, 1)) (hi : (k9 : Nat) = i) (hn : i + 1 < nL) (hl' : (i, Value.long x) :: lv.filter (fun q => !(q.1 == i) && (!(q.1 == i + 1) && !(q.1 + 1 == i && q.2.category == 2))) = lv') (k : V p l e R s m args below meth c nL G A Q cells slots P lv' stk (pc + 1) f) : V p l e R s m args below meth c nL G A Q cells slots P lv (.long x :: stk) pc f :=
  v_w fun _ _ _ hl g => lv_lstore_n o.1.1 o.1.2.1 d hi hl hn hl' (fun _ hl2 => g _ _ _ _ k hl2)
theorem v_lstore (o : Okk p s m args meth c cc own nL G A) {x : Int64} {i : Nat} (d : decode cc pc = .ok (.lstore i, 2)) (hn : i + 1 < nL) (hl' : (i, Value.long x) :: lv.filter (fun q => !(q.1 == i) && (!(q.1 == i + 1) && !(q.1 + 1 == i && q.2.category == 2))) = lv') (k : V p l e R s m args below meth c nL G A Q cells slots P lv' stk (pc + 2) f) : V p l e R s m args below meth c nL G A Q cells slots P lv (.long x :: stk) pc f :=
  v_w fun _ _ _ hl g => lv_lstore o.1.1 o.1.2.1 d hl hn hl' (fun _ hl2 => g _ _ _ _ k hl2)
theorem v_dload_n (o : Okk p s m args meth c cc own nL G A) {k9 : Fin 4} {x : UInt64} (j : Nat) (d : decode cc pc = .ok (.dload_n k9, 1)) (hj : lv[j]? = some ((k9 : Nat), .double x)) (k : V p l e R s m args below meth c nL G A Q cells slots P lv (.double x :: stk) (pc + 1) f) : V p l e R s m args below meth c nL G A Q cells slots P lv (stk) pc f :=
  v_w fun _ _ _ hl g => lv_dload_n o.1.1 o.1.2.1 d rfl (lv_at hl j hj) (g _ _ _ _ k hl)
theorem v_dload (o : Okk p s m args meth c cc own nL G A) {i : Nat} {x : UInt64} (j : Nat) (d : decode cc pc = .ok (.dload i, 2)) (hj : lv[j]? = some (i, .double x)) (k : V p l e R s m args below meth c nL G A Q cells slots P lv (.double x :: stk) (pc + 2) f) : V p l e R s m args below meth c nL G A Q cells slots P lv (stk) pc f :=
  v_w fun _ _ _ hl g => lv_dload o.1.1 o.1.2.1 d (lv_at hl j hj) (g _ _ _ _ k hl)
theorem v_dstore_n (o : Okk p s m args meth c cc own nL G A) {k9 : Fin 4} {x : UInt64} {i : Nat} (d : decode cc pc = .ok (.dstore_n k9, 1)) (hi : (k9 : Nat) = i) (hn : i + 1 < nL) (hl' : (i, Value.double x) :: lv.filter (fun q => !(q.1 == i) && (!(q.1 == i + 1) && !(q.1 + 1 == i && q.2.category == 2))) = lv') (k : V p l e R s m args below meth c nL G A Q cells slots P lv' stk (pc + 1) f) : V p l e R s m args below meth c nL G A Q cells slots P lv (.double x :: stk) pc f :=
  v_w fun _ _ _ hl g => lv_dstore_n o.1.1 o.1.2.1 d hi hl hn hl' (fun _ hl2 => g _ _ _ _ k hl2)
theorem v_dstore (o : Okk p s m args meth c cc own nL G A) {x : UInt64} {i : Nat} (d : decode cc pc = .ok (.dstore i, 2)) (hn : i + 1 < nL) (hl' : (i, Value.double x) :: lv.filter (fun q => !(q.1 == i) && (!(q.1 == i + 1) && !(q.1 + 1 == i && q.2.category == 2))) = lv') (k : V p l e R s m args below meth c nL G A Q cells slots P lv' stk (pc + 2) f) : V p l e R s m args below meth c nL G A Q cells slots P lv (.double x :: stk) pc f :=
  v_w fun _ _ _ hl g => lv_dstore o.1.1 o.1.2.1 d hl hn hl' (fun _ hl2 => g _ _ _ _ k hl2)
theorem v_aload_n (o : Okk p s m args meth c cc own nL G A) {k9 : Fin 4} {x : Nat} (j : Nat) (d : decode cc pc = .ok (.aload_n k9, 1)) (hj : lv[j]? = some ((k9 : Nat), .ref x)) (k : V p l e R s m args below meth c nL G A Q cells slots P lv (.ref x :: stk) (pc + 1) f) : V p l e R s m args below meth c nL G A Q cells slots P lv (stk) pc f :=
  v_w fun _ _ _ hl g => lv_aload_n o.1.1 o.1.2.1 d rfl (lv_at hl j hj) (g _ _ _ _ k hl)
theorem v_aload (o : Okk p s m args meth c cc own nL G A) {i : Nat} {x : Nat} (j : Nat) (d : decode cc pc = .ok (.aload i, 2)) (hj : lv[j]? = some (i, .ref x)) (k : V p l e R s m args below meth c nL G A Q cells slots P lv (.ref x :: stk) (pc + 2) f) : V p l e R s m args below meth c nL G A Q cells slots P lv (stk) pc f :=
  v_w fun _ _ _ hl g => lv_aload o.1.1 o.1.2.1 d (lv_at hl j hj) (g _ _ _ _ k hl)
theorem v_astore_n (o : Okk p s m args meth c cc own nL G A) {k9 : Fin 4} {x : Nat} {i : Nat} (d : decode cc pc = .ok (.astore_n k9, 1)) (hi : (k9 : Nat) = i) (hn : i < nL) (hl' : (i, Value.ref x) :: lv.filter (fun q => !(q.1 == i) && !(q.1 + 1 == i && q.2.category == 2)) = lv') (k : V p l e R s m args below meth c nL G A Q cells slots P lv' stk (pc + 1) f) : V p l e R s m args below meth c nL G A Q cells slots P lv (.ref x :: stk) pc f :=
  v_w fun _ _ _ hl g => lv_astore_n o.1.1 o.1.2.1 d hi hl hn hl' (fun _ hl2 => g _ _ _ _ k hl2)
theorem v_astore (o : Okk p s m args meth c cc own nL G A) {x : Nat} {i : Nat} (d : decode cc pc = .ok (.astore i, 2)) (hn : i < nL) (hl' : (i, Value.ref x) :: lv.filter (fun q => !(q.1 == i) && !(q.1 + 1 == i && q.2.category == 2)) = lv') (k : V p l e R s m args below meth c nL G A Q cells slots P lv' stk (pc + 2) f) : V p l e R s m args below meth c nL G A Q cells slots P lv (.ref x :: stk) pc f :=
  v_w fun _ _ _ hl g => lv_astore o.1.1 o.1.2.1 d hl hn hl' (fun _ hl2 => g _ _ _ _ k hl2)
theorem v_iinc (o : Okk p s m args meth c cc own nL G A) {x v : Int32} {i : Nat} {n : Int} (j : Nat) (d : decode cc pc = .ok (.iinc i n, 3)) (hj : lv[j]? = some (i, .int x)) (hv : x + Int32.ofInt n = v) (hn : i < nL) (hl' : (i, Value.int v) :: lv.filter (fun q => !(q.1 == i) && !(q.1 + 1 == i && q.2.category == 2)) = lv') (k : V p l e R s m args below meth c nL G A Q cells slots P lv' stk (pc + 3) f) : V p l e R s m args below meth c nL G A Q cells slots P lv stk pc f :=
  v_w fun _ _ _ hl g => lv_iinc o.1.1 o.1.2.1 d hl hj hv hn hl' (fun _ hl2 => g _ _ _ _ k hl2)
theorem v_iadd (o : Okk p s m args meth c cc own nL G A) {x y : Int32} (d : decode cc pc = .ok (.iadd, 1)) (k : V p l e R s m args below meth c nL G A Q cells slots P lv (.int (x + y) :: stk) (pc + 1) f) : V p l e R s m args below meth c nL G A Q cells slots P lv (.int y :: .int x :: stk) pc f :=
  v_w fun _ _ _ hl g => lv_iadd o.1.1 o.1.2.1 d (g _ _ _ _ k hl)
theorem v_isub (o : Okk p s m args meth c cc own nL G A) {x y : Int32} (d : decode cc pc = .ok (.isub, 1)) (k : V p l e R s m args below meth c nL G A Q cells slots P lv (.int (x - y) :: stk) (pc + 1) f) : V p l e R s m args below meth c nL G A Q cells slots P lv (.int y :: .int x :: stk) pc f :=
  v_w fun _ _ _ hl g => lv_isub o.1.1 o.1.2.1 d (g _ _ _ _ k hl)
theorem v_imul (o : Okk p s m args meth c cc own nL G A) {x y : Int32} (d : decode cc pc = .ok (.imul, 1)) (k : V p l e R s m args below meth c nL G A Q cells slots P lv (.int (x * y) :: stk) (pc + 1) f) : V p l e R s m args below meth c nL G A Q cells slots P lv (.int y :: .int x :: stk) pc f :=
  v_w fun _ _ _ hl g => lv_imul o.1.1 o.1.2.1 d (g _ _ _ _ k hl)
theorem v_iand (o : Okk p s m args meth c cc own nL G A) {x y : Int32} (d : decode cc pc = .ok (.iand, 1)) (k : V p l e R s m args below meth c nL G A Q cells slots P lv (.int (x &&& y) :: stk) (pc + 1) f) : V p l e R s m args below meth c nL G A Q cells slots P lv (.int y :: .int x :: stk) pc f :=
  v_w fun _ _ _ hl g => lv_iand o.1.1 o.1.2.1 d (g _ _ _ _ k hl)
theorem v_ior (o : Okk p s m args meth c cc own nL G A) {x y : Int32} (d : decode cc pc = .ok (.ior, 1)) (k : V p l e R s m args below meth c nL G A Q cells slots P lv (.int (x ||| y) :: stk) (pc + 1) f) : V p l e R s m args below meth c nL G A Q cells slots P lv (.int y :: .int x :: stk) pc f :=
  v_w fun _ _ _ hl g => lv_ior o.1.1 o.1.2.1 d (g _ _ _ _ k hl)
theorem v_ixor (o : Okk p s m args meth c cc own nL G A) {x y : Int32} (d : decode cc pc = .ok (.ixor, 1)) (k : V p l e R s m args below meth c nL G A Q cells slots P lv (.int (x ^^^ y) :: stk) (pc + 1) f) : V p l e R s m args below meth c nL G A Q cells slots P lv (.int y :: .int x :: stk) pc f :=
  v_w fun _ _ _ hl g => lv_ixor o.1.1 o.1.2.1 d (g _ _ _ _ k hl)
theorem v_ishl (o : Okk p s m args meth c cc own nL G A) {x y : Int32} (d : decode cc pc = .ok (.ishl, 1)) (k : V p l e R s m args below meth c nL G A Q cells slots P lv (.int (x <<< (y &&& 31)) :: stk) (pc + 1) f) : V p l e R s m args below meth c nL G A Q cells slots P lv (.int y :: .int x :: stk) pc f :=
  v_w fun _ _ _ hl g => lv_ishl o.1.1 o.1.2.1 d (g _ _ _ _ k hl)
theorem v_ishr (o : Okk p s m args meth c cc own nL G A) {x y : Int32} (d : decode cc pc = .ok (.ishr, 1)) (k : V p l e R s m args below meth c nL G A Q cells slots P lv (.int (x >>> (y &&& 31)) :: stk) (pc + 1) f) : V p l e R s m args below meth c nL G A Q cells slots P lv (.int y :: .int x :: stk) pc f :=
  v_w fun _ _ _ hl g => lv_ishr o.1.1 o.1.2.1 d (g _ _ _ _ k hl)
theorem v_idiv (o : Okk p s m args meth c cc own nL G A) {x y : Int32} (d : decode cc pc = .ok (.idiv, 1)) (hne : ¬ y = 0) (k : V p l e R s m args below meth c nL G A Q cells slots P lv (.int (x / y) :: stk) (pc + 1) f) : V p l e R s m args below meth c nL G A Q cells slots P lv (.int y :: .int x :: stk) pc f :=
  v_w fun _ _ _ hl g => lv_idiv o.1.1 o.1.2.1 d hne (g _ _ _ _ k hl)
theorem v_irem (o : Okk p s m args meth c cc own nL G A) {x y : Int32} (d : decode cc pc = .ok (.irem, 1)) (hne : ¬ y = 0) (k : V p l e R s m args below meth c nL G A Q cells slots P lv (.int (x - x / y * y) :: stk) (pc + 1) f) : V p l e R s m args below meth c nL G A Q cells slots P lv (.int y :: .int x :: stk) pc f :=
  v_w fun _ _ _ hl g => lv_irem o.1.1 o.1.2.1 d hne (g _ _ _ _ k hl)
theorem v_ladd (o : Okk p s m args meth c cc own nL G A) {x y : Int64} (d : decode cc pc = .ok (.ladd, 1)) (k : V p l e R s m args below meth c nL G A Q cells slots P lv (.long (x + y) :: stk) (pc + 1) f) : V p l e R s m args below meth c nL G A Q cells slots P lv (.long y :: .long x :: stk) pc f :=
  v_w fun _ _ _ hl g => lv_ladd o.1.1 o.1.2.1 d (g _ _ _ _ k hl)
theorem v_lsub (o : Okk p s m args meth c cc own nL G A) {x y : Int64} (d : decode cc pc = .ok (.lsub, 1)) (k : V p l e R s m args below meth c nL G A Q cells slots P lv (.long (x - y) :: stk) (pc + 1) f) : V p l e R s m args below meth c nL G A Q cells slots P lv (.long y :: .long x :: stk) pc f :=
  v_w fun _ _ _ hl g => lv_lsub o.1.1 o.1.2.1 d (g _ _ _ _ k hl)
theorem v_lmul (o : Okk p s m args meth c cc own nL G A) {x y : Int64} (d : decode cc pc = .ok (.lmul, 1)) (k : V p l e R s m args below meth c nL G A Q cells slots P lv (.long (x * y) :: stk) (pc + 1) f) : V p l e R s m args below meth c nL G A Q cells slots P lv (.long y :: .long x :: stk) pc f :=
  v_w fun _ _ _ hl g => lv_lmul o.1.1 o.1.2.1 d (g _ _ _ _ k hl)
theorem v_lshl (o : Okk p s m args meth c cc own nL G A) {x : Int64} {y : Int32} (d : decode cc pc = .ok (.lshl, 1)) (k : V p l e R s m args below meth c nL G A Q cells slots P lv (.long (x <<< (y.toInt64 &&& 63)) :: stk) (pc + 1) f) : V p l e R s m args below meth c nL G A Q cells slots P lv (.int y :: .long x :: stk) pc f :=
  v_w fun _ _ _ hl g => lv_lshl o.1.1 o.1.2.1 d rfl (g _ _ _ _ k hl)
theorem v_i2l (o : Okk p s m args meth c cc own nL G A) {x : Int32} (d : decode cc pc = .ok (.i2l, 1)) (k : V p l e R s m args below meth c nL G A Q cells slots P lv (.long x.toInt64 :: stk) (pc + 1) f) : V p l e R s m args below meth c nL G A Q cells slots P lv (.int x :: stk) pc f :=
  v_w fun _ _ _ hl g => lv_i2l o.1.1 o.1.2.1 d rfl (g _ _ _ _ k hl)
theorem v_i2d (o : Okk p s m args meth c cc own nL G A) {x : Int32} (d : decode cc pc = .ok (.i2d, 1)) (k : V p l e R s m args below meth c nL G A Q cells slots P lv (.double (FP.i2d x) :: stk) (pc + 1) f) : V p l e R s m args below meth c nL G A Q cells slots P lv (.int x :: stk) pc f :=
  v_w fun _ _ _ hl g => lv_i2d o.1.1 o.1.2.1 d (g _ _ _ _ k hl)
theorem v_d2l (o : Okk p s m args meth c cc own nL G A) {x : UInt64} (d : decode cc pc = .ok (.d2l, 1)) (k : V p l e R s m args below meth c nL G A Q cells slots P lv (.long (FP.d2l x) :: stk) (pc + 1) f) : V p l e R s m args below meth c nL G A Q cells slots P lv (.double x :: stk) pc f :=
  v_w fun _ _ _ hl g => lv_d2l o.1.1 o.1.2.1 d (g _ _ _ _ k hl)
theorem v_dmul (o : Okk p s m args meth c cc own nL G A) {x y : UInt64} (d : decode cc pc = .ok (.dmul, 1)) (hne : vf_n64 (FP.dmul x y)) (k : V p l e R s m args below meth c nL G A Q cells slots P lv (.double (FP.dmul x y) :: stk) (pc + 1) f) : V p l e R s m args below meth c nL G A Q cells slots P lv (.double y :: .double x :: stk) pc f :=
  v_w fun _ _ _ hl g => lv_dmul o.1.1 o.1.2.1 d hne (g _ _ _ _ k hl)
theorem v_ddiv (o : Okk p s m args meth c cc own nL G A) {x y : UInt64} (d : decode cc pc = .ok (.ddiv, 1)) (hne : vf_n64 (FP.ddiv x y)) (k : V p l e R s m args below meth c nL G A Q cells slots P lv (.double (FP.ddiv x y) :: stk) (pc + 1) f) : V p l e R s m args below meth c nL G A Q cells slots P lv (.double y :: .double x :: stk) pc f :=
  v_w fun _ _ _ hl g => lv_ddiv o.1.1 o.1.2.1 d hne (g _ _ _ _ k hl)
theorem v_dsub (o : Okk p s m args meth c cc own nL G A) {x y : UInt64} (d : decode cc pc = .ok (.dsub, 1)) (hne : vf_n64 (FP.dsub x y)) (k : V p l e R s m args below meth c nL G A Q cells slots P lv (.double (FP.dsub x y) :: stk) (pc + 1) f) : V p l e R s m args below meth c nL G A Q cells slots P lv (.double y :: .double x :: stk) pc f :=
  v_w fun _ _ _ hl g => lv_dsub o.1.1 o.1.2.1 d hne (g _ _ _ _ k hl)
theorem v_lcmp (o : Okk p s m args meth c cc own nL G A) {x y : Int64} (d : decode cc pc = .ok (.lcmp, 1)) (k : V p l e R s m args below meth c nL G A Q cells slots P lv (.int (lg_cmp x y) :: stk) (pc + 1) f) : V p l e R s m args below meth c nL G A Q cells slots P lv (.long y :: .long x :: stk) pc f :=
  v_w fun _ _ _ hl g => W.lcmp o.1.1 o.1.2.1 d (g _ _ _ _ k hl)
theorem v_dcmp (o : Okk p s m args meth c cc own nL G A) {x y : UInt64} {op : CmpOp} (d : decode cc pc = .ok (.dcmp op, 1)) (k : V p l e R s m args below meth c nL G A Q cells slots P lv (.int (Op.cmpValue (FP.dcmp x y) op) :: stk) (pc + 1) f) : V p l e R s m args below meth c nL G A Q cells slots P lv (.double y :: .double x :: stk) pc f :=
  v_w fun _ _ _ hl g => lv_dcmp o.1.1 o.1.2.1 d (g _ _ _ _ k hl)
theorem v_dconst0 (o : Okk p s m args meth c cc own nL G A)  (d : decode cc pc = .ok (.dconst 0, 1)) (k : V p l e R s m args below meth c nL G A Q cells slots P lv (.double FP.dconst0 :: stk) (pc + 1) f) : V p l e R s m args below meth c nL G A Q cells slots P lv (stk) pc f :=
  v_w fun _ _ _ hl g => lv_dconst0 o.1.1 o.1.2.1 d (g _ _ _ _ k hl)
theorem v_dconst1 (o : Okk p s m args meth c cc own nL G A)  (d : decode cc pc = .ok (.dconst 1, 1)) (k : V p l e R s m args below meth c nL G A Q cells slots P lv (.double FP.dconst1 :: stk) (pc + 1) f) : V p l e R s m args below meth c nL G A Q cells slots P lv (stk) pc f :=
  v_w fun _ _ _ hl g => lv_dconst1 o.1.1 o.1.2.1 d (g _ _ _ _ k hl)
theorem v_dup (o : Okk p s m args meth c cc own nL G A) {va : Value} (d : decode cc pc = .ok (.dup, 1)) (hva : va.category = 1) (k : V p l e R s m args below meth c nL G A Q cells slots P lv (va :: va :: stk) (pc + 1) f) : V p l e R s m args below meth c nL G A Q cells slots P lv (va :: stk) pc f :=
  v_w fun _ _ _ hl g => lv_dup o.1.1 o.1.2.1 d hva (g _ _ _ _ k hl)
theorem v_dup2 (o : Okk p s m args meth c cc own nL G A) {va vb : Value} (d : decode cc pc = .ok (.dup2, 1)) (hva : va.category = 1) (hvb : vb.category = 1) (k : V p l e R s m args below meth c nL G A Q cells slots P lv (va :: vb :: va :: vb :: stk) (pc + 1) f) : V p l e R s m args below meth c nL G A Q cells slots P lv (va :: vb :: stk) pc f :=
  v_w fun _ _ _ hl g => lv_dup2_11 o.1.1 o.1.2.1 d hva hvb (g _ _ _ _ k hl)
theorem v_dup2l (o : Okk p s m args meth c cc own nL G A) {va : Value} (d : decode cc pc = .ok (.dup2, 1)) (hva : va.category = 2) (k : V p l e R s m args below meth c nL G A Q cells slots P lv (va :: va :: stk) (pc + 1) f) : V p l e R s m args below meth c nL G A Q cells slots P lv (va :: stk) pc f :=
  v_w fun _ _ _ hl g => lv_dup2_2 o.1.1 o.1.2.1 d hva (g _ _ _ _ k hl)
theorem v_pop (o : Okk p s m args meth c cc own nL G A) {va : Value} (d : decode cc pc = .ok (.pop, 1)) (hva : va.category = 1) (k : V p l e R s m args below meth c nL G A Q cells slots P lv (stk) (pc + 1) f) : V p l e R s m args below meth c nL G A Q cells slots P lv (va :: stk) pc f :=
  v_w fun _ _ _ hl g => lv_pop o.1.1 o.1.2.1 d hva (g _ _ _ _ k hl)
theorem v_goto (o : Okk p s m args meth c cc own nL G A) {off : Int} {tgt : Nat} (d : decode cc pc = .ok (.goto off, 3)) (ht : (pc : Int) + off = (tgt : Int)) (k : V p l e R s m args below meth c nL G A Q cells slots P lv stk tgt f) : V p l e R s m args below meth c nL G A Q cells slots P lv stk pc f :=
  v_w fun _ _ _ hl g => lv_goto o.1.1 o.1.2.1 d ht (g _ _ _ _ k hl)
theorem v_ifnonnull (o : Okk p s m args meth c cc own nL G A) {x : Nat} {off : Int} {tgt : Nat} (d : decode cc pc = .ok (.ifnonnull off, 3)) (ht : (pc : Int) + off = (tgt : Int)) (k : V p l e R s m args below meth c nL G A Q cells slots P lv stk tgt f) : V p l e R s m args below meth c nL G A Q cells slots P lv (.ref x :: stk) pc f :=
  v_w fun _ _ _ hl g => lv_ifnonnull o.1.1 o.1.2.1 d ht (g _ _ _ _ k hl)
theorem v_icmp_eq (o : Okk p s m args meth c cc own nL G A) {x y : Int32} {off : Int} {tgt : Nat} (d : decode cc pc = .ok (.if_icmp .eq off, 3)) (ht : (pc : Int) + off = (tgt : Int)) (kt : x = y → V p l e R s m args below meth c nL G A Q cells slots P lv stk tgt f) (kf : ¬ x = y → V p l e R s m args below meth c nL G A Q cells slots P lv stk (pc + 3) f) : V p l e R s m args below meth c nL G A Q cells slots P lv (.int y :: .int x :: stk) pc f :=
  v_w fun _ _ _ hl g => lv_icmp_eq o.1.1 o.1.2.1 d ht (fun h => g _ _ _ _ (kt h) hl) (fun h => g _ _ _ _ (kf h) hl)
theorem v_if_eq (o : Okk p s m args meth c cc own nL G A) {x : Int32} {off : Int} {tgt : Nat} (d : decode cc pc = .ok (.ifCond .eq off, 3)) (ht : (pc : Int) + off = (tgt : Int)) (kt : x = 0 → V p l e R s m args below meth c nL G A Q cells slots P lv stk tgt f) (kf : ¬ x = 0 → V p l e R s m args below meth c nL G A Q cells slots P lv stk (pc + 3) f) : V p l e R s m args below meth c nL G A Q cells slots P lv (.int x :: stk) pc f :=
  v_w fun _ _ _ hl g => lv_if_eq o.1.1 o.1.2.1 d ht (fun h => g _ _ _ _ (kt h) hl) (fun h => g _ _ _ _ (kf h) hl)
theorem v_icmp_ne (o : Okk p s m args meth c cc own nL G A) {x y : Int32} {off : Int} {tgt : Nat} (d : decode cc pc = .ok (.if_icmp .ne off, 3)) (ht : (pc : Int) + off = (tgt : Int)) (kt : ¬ x = y → V p l e R s m args below meth c nL G A Q cells slots P lv stk tgt f) (kf : x = y → V p l e R s m args below meth c nL G A Q cells slots P lv stk (pc + 3) f) : V p l e R s m args below meth c nL G A Q cells slots P lv (.int y :: .int x :: stk) pc f :=
  v_w fun _ _ _ hl g => lv_icmp_ne o.1.1 o.1.2.1 d ht (fun h => g _ _ _ _ (kt h) hl) (fun h => g _ _ _ _ (kf h) hl)
theorem v_if_ne (o : Okk p s m args meth c cc own nL G A) {x : Int32} {off : Int} {tgt : Nat} (d : decode cc pc = .ok (.ifCond .ne off, 3)) (ht : (pc : Int) + off = (tgt : Int)) (kt : ¬ x = 0 → V p l e R s m args below meth c nL G A Q cells slots P lv stk tgt f) (kf : x = 0 → V p l e R s m args below meth c nL G A Q cells slots P lv stk (pc + 3) f) : V p l e R s m args below meth c nL G A Q cells slots P lv (.int x :: stk) pc f :=
  v_w fun _ _ _ hl g => lv_if_ne o.1.1 o.1.2.1 d ht (fun h => g _ _ _ _ (kt h) hl) (fun h => g _ _ _ _ (kf h) hl)
theorem v_icmp_lt (o : Okk p s m args meth c cc own nL G A) {x y : Int32} {off : Int} {tgt : Nat} (d : decode cc pc = .ok (.if_icmp .lt off, 3)) (ht : (pc : Int) + off = (tgt : Int)) (kt : x < y → V p l e R s m args below meth c nL G A Q cells slots P lv stk tgt f) (kf : ¬ x < y → V p l e R s m args below meth c nL G A Q cells slots P lv stk (pc + 3) f) : V p l e R s m args below meth c nL G A Q cells slots P lv (.int y :: .int x :: stk) pc f :=
  v_w fun _ _ _ hl g => lv_icmp_lt o.1.1 o.1.2.1 d ht (fun h => g _ _ _ _ (kt h) hl) (fun h => g _ _ _ _ (kf h) hl)
theorem v_if_lt (o : Okk p s m args meth c cc own nL G A) {x : Int32} {off : Int} {tgt : Nat} (d : decode cc pc = .ok (.ifCond .lt off, 3)) (ht : (pc : Int) + off = (tgt : Int)) (kt : x < 0 → V p l e R s m args below meth c nL G A Q cells slots P lv stk tgt f) (kf : ¬ x < 0 → V p l e R s m args below meth c nL G A Q cells slots P lv stk (pc + 3) f) : V p l e R s m args below meth c nL G A Q cells slots P lv (.int x :: stk) pc f :=
  v_w fun _ _ _ hl g => lv_if_lt o.1.1 o.1.2.1 d ht (fun h => g _ _ _ _ (kt h) hl) (fun h => g _ _ _ _ (kf h) hl)
theorem v_icmp_ge (o : Okk p s m args meth c cc own nL G A) {x y : Int32} {off : Int} {tgt : Nat} (d : decode cc pc = .ok (.if_icmp .ge off, 3)) (ht : (pc : Int) + off = (tgt : Int)) (kt : y ≤ x → V p l e R s m args below meth c nL G A Q cells slots P lv stk tgt f) (kf : ¬ y ≤ x → V p l e R s m args below meth c nL G A Q cells slots P lv stk (pc + 3) f) : V p l e R s m args below meth c nL G A Q cells slots P lv (.int y :: .int x :: stk) pc f :=
  v_w fun _ _ _ hl g => lv_icmp_ge o.1.1 o.1.2.1 d ht (fun h => g _ _ _ _ (kt h) hl) (fun h => g _ _ _ _ (kf h) hl)
theorem v_if_ge (o : Okk p s m args meth c cc own nL G A) {x : Int32} {off : Int} {tgt : Nat} (d : decode cc pc = .ok (.ifCond .ge off, 3)) (ht : (pc : Int) + off = (tgt : Int)) (kt : 0 ≤ x → V p l e R s m args below meth c nL G A Q cells slots P lv stk tgt f) (kf : ¬ 0 ≤ x → V p l e R s m args below meth c nL G A Q cells slots P lv stk (pc + 3) f) : V p l e R s m args below meth c nL G A Q cells slots P lv (.int x :: stk) pc f :=
  v_w fun _ _ _ hl g => lv_if_ge o.1.1 o.1.2.1 d ht (fun h => g _ _ _ _ (kt h) hl) (fun h => g _ _ _ _ (kf h) hl)
theorem v_icmp_gt (o : Okk p s m args meth c cc own nL G A) {x y : Int32} {off : Int} {tgt : Nat} (d : decode cc pc = .ok (.if_icmp .gt off, 3)) (ht : (pc : Int) + off = (tgt : Int)) (kt : y < x → V p l e R s m args below meth c nL G A Q cells slots P lv stk tgt f) (kf : ¬ y < x → V p l e R s m args below meth c nL G A Q cells slots P lv stk (pc + 3) f) : V p l e R s m args below meth c nL G A Q cells slots P lv (.int y :: .int x :: stk) pc f :=
  v_w fun _ _ _ hl g => lv_icmp_gt o.1.1 o.1.2.1 d ht (fun h => g _ _ _ _ (kt h) hl) (fun h => g _ _ _ _ (kf h) hl)
theorem v_if_gt (o : Okk p s m args meth c cc own nL G A) {x : Int32} {off : Int} {tgt : Nat} (d : decode cc pc = .ok (.ifCond .gt off, 3)) (ht : (pc : Int) + off = (tgt : Int)) (kt : 0 < x → V p l e R s m args below meth c nL G A Q cells slots P lv stk tgt f) (kf : ¬ 0 < x → V p l e R s m args below meth c nL G A Q cells slots P lv stk (pc + 3) f) : V p l e R s m args below meth c nL G A Q cells slots P lv (.int x :: stk) pc f :=
  v_w fun _ _ _ hl g => lv_if_gt o.1.1 o.1.2.1 d ht (fun h => g _ _ _ _ (kt h) hl) (fun h => g _ _ _ _ (kf h) hl)
theorem v_icmp_le (o : Okk p s m args meth c cc own nL G A) {x y : Int32} {off : Int} {tgt : Nat} (d : decode cc pc = .ok (.if_icmp .le off, 3)) (ht : (pc : Int) + off = (tgt : Int)) (kt : x ≤ y → V p l e R s m args below meth c nL G A Q cells slots P lv stk tgt f) (kf : ¬ x ≤ y → V p l e R s m args below meth c nL G A Q cells slots P lv stk (pc + 3) f) : V p l e R s m args below meth c nL G A Q cells slots P lv (.int y :: .int x :: stk) pc f :=
  v_w fun _ _ _ hl g => lv_icmp_le o.1.1 o.1.2.1 d ht (fun h => g _ _ _ _ (kt h) hl) (fun h => g _ _ _ _ (kf h) hl)
theorem v_if_le (o : Okk p s m args meth c cc own nL G A) {x : Int32} {off : Int} {tgt : Nat} (d : decode cc pc = .ok (.ifCond .le off, 3)) (ht : (pc : Int) + off = (tgt : Int)) (kt : x ≤ 0 → V p l e R s m args below meth c nL G A Q cells slots P lv stk tgt f) (kf : ¬ x ≤ 0 → V p l e R s m args below meth c nL G A Q cells slots P lv stk (pc + 3) f) : V p l e R s m args below meth c nL G A Q cells slots P lv (.int x :: stk) pc f :=
  v_w fun _ _ _ hl g => lv_if_le o.1.1 o.1.2.1 d ht (fun h => g _ _ _ _ (kt h) hl) (fun h => g _ _ _ _ (kf h) hl)
theorem v_tableIn (o : Okk p s m args meth c cc own nL G A) {dflt lo hi : Int} {offs : Array Int} {len : Nat} {x : Int32} {off : Int} {tgt : Nat} (d : decode cc pc = .ok (.tableswitch dflt lo hi offs, len)) (h1 : ¬ x.toInt < lo) (h2 : ¬ hi < x.toInt) (ho : offs[(x.toInt - lo).toNat]? = some off) (ht : (pc : Int) + off = (tgt : Int)) (k : V p l e R s m args below meth c nL G A Q cells slots P lv stk tgt f) : V p l e R s m args below meth c nL G A Q cells slots P lv (.int x :: stk) pc f :=
  v_w fun _ _ _ hl g => lv_tableIn o.1.1 o.1.2.1 d h1 h2 ho ht (g _ _ _ _ k hl)
theorem v_tableOut (o : Okk p s m args meth c cc own nL G A) {dflt lo hi : Int} {offs : Array Int} {len : Nat} {x : Int32} {tgt : Nat} (d : decode cc pc = .ok (.tableswitch dflt lo hi offs, len)) (h : x.toInt < lo ∨ hi < x.toInt) (ht : (pc : Int) + dflt = (tgt : Int)) (k : V p l e R s m args below meth c nL G A Q cells slots P lv stk tgt f) : V p l e R s m args below meth c nL G A Q cells slots P lv (.int x :: stk) pc f :=
  v_w fun _ _ _ hl g => lv_tableOut o.1.1 o.1.2.1 d h ht (g _ _ _ _ k hl)
theorem v_lookup (o : Okk p s m args meth c cc own nL G A) {dflt : Int} {ps : Array (Int × Int)} {len : Nat} {x : Int32} {off : Int} {tgt : Nat} (d : decode cc pc = .ok (.lookupswitch dflt ps, len)) (hp : (ps.toList.zip (ps.toList.drop 1)).all (fun (a, next) => a.1 < next.1) = true) (ho : Op.lookupswitch.offset ps.toList dflt x.toInt = off) (ht : (pc : Int) + off = (tgt : Int)) (k : V p l e R s m args below meth c nL G A Q cells slots P lv stk tgt f) : V p l e R s m args below meth c nL G A Q cells slots P lv (.int x :: stk) pc f :=
  v_w fun _ _ _ hl g => lv_lookup o.1.1 o.1.2.1 d hp ho ht (g _ _ _ _ k hl)
/-- a field's link: class number k, field j -/
def LkF (own : String) (idx k j : Nat) : Prop := ∃ (C : String) (T : u_T) (N : Nat), vwCl[k]? = some (C, T, N) ∧ (∀ w ∈ u_ws C T N, w ∈ lw_U) ∧ j < N ∧ Cond.fieldLink own idx C (T j).2.1 (T j).2.2.1 ∈ lw_U ∧ (T j).1 = C ∧ j < nF k ∧ k < 9
theorem v_gf (o : Okk p s m args meth c cc own nL G A) {q k j idx : Nat} {v : Value} (hL : LkF own idx k j) (hq : Ob P q k) (hv : (flds P f q k)[j]? = some v) (d : decode cc pc = .ok (.getfield idx, 3)) (kk : V p l e R s m args below meth c nL G A Q cells slots P lv (v :: stk) (pc + 3) f) : V p l e R s m args below meth c nL G A Q cells slots P lv (.ref q :: stk) pc f := by
  intro H locs ls hP hD hS hl
  obtain ⟨C, T, N, hc, hin, hj, hlink, hs, h1, h2⟩ := hL
  obtain ⟨i, hi⟩ := wld_get (G := G) (f := f) hq.1
  rw [cellE_o hq h2] at hi
  exact va_get (D := G.1) (cl := vwCl) o.1.1 o.1.2.1 o.1.2.2.2.2 hin o.1.2.2.2.1 o.2.1 hP i hi hc j hj (o.1.2.2.2.2 _ hlink) (fun x hx => by rw [hs] at hx; exact hx) hv d (kk H locs ls hP hD hS hl)
theorem v_gfI (o : Okk p s m args meth c cc own nL G A) {q k j idx : Nat} (hL : LkF own idx k j) (hr : isR k j = false ∧ j < nF k) (hq : Ob P q k) (d : decode cc pc = .ok (.getfield idx, 3)) (kk : V p l e R s m args below meth c nL G A Q cells slots P lv (.int (f q j) :: stk) (pc + 3) f) : V p l e R s m args below meth c nL G A Q cells slots P lv (.ref q :: stk) pc f := v_gf o hL hq (flds_get hr) d kk
theorem v_gfR (o : Okk p s m args meth c cc own nL G A) {q k j idx b : Nat} (hL : LkF own idx k j) (hr : isR k j = true ∧ j < nF k) (hq : Ob P q k) (hb : sR P q j = some b) (d : decode cc pc = .ok (.getfield idx, 3)) (kk : V p l e R s m args below meth c nL G A Q cells slots P lv (.ref b :: stk) (pc + 3) f) : V p l e R s m args below meth c nL G A Q cells slots P lv (.ref q :: stk) pc f := v_gf o hL hq (by rw [flds_getR hr, hb]; rfl) d kk
/-- a field that may be written: its type -/
def LkP (own : String) (idx k j : Nat) (ty : FieldType) : Prop := ∃ (C : String) (T : u_T) (N : Nat) (tt : Nat → FieldType), vwCl[k]? = some (C, T, N) ∧ (∀ w ∈ u_ws C T N, w ∈ lw_U) ∧ (∀ k, k < N → parseFieldDescriptor (T k).2.2.1 = some (tt k)) ∧ (∀ a, a < N → ∀ b, b < N → a ≠ b → (T a).2.1 ≠ (T b).2.1) ∧ j < N ∧ Cond.fieldLink own idx C (T j).2.1 (T j).2.2.1 ∈ lw_U ∧ (T j).1 = C ∧ (T j).2.2.2 = false ∧ parseFieldDescriptor (T j).2.2.1 = some ty ∧ (isR k j = false ∧ j < nF k) ∧ k < 9
theorem v_pf (o : Okk p s m args meth c cc own nL G A) {q k j idx : Nat} {ty : FieldType} {x : Int32} (hL : LkP own idx k j ty) (hq : Ob P q k) (hx : narrow ty (.int x) = .int x ∧ fits ty (.int x) = true) (d : decode cc pc = .ok (.putfield idx, 3)) (kk : V p l e R s m args below meth c nL G A Q cells slots P lv stk (pc + 3) (setf f q j x)) : V p l e R s m args below meth c nL G A Q cells slots P lv (.int x :: .ref q :: stk) pc f := by
  intro H locs ls hP hD hS hl
  obtain ⟨C, T, N, tt, hc, hin, hty, hnm, hj, hlink, hs, hfin, hd, hr, h2⟩ := hL
  obtain ⟨i, hi⟩ := wld_get (G := G) (f := f) hq.1
  have hi' := hi
  rw [cellE_o hq h2] at hi'
  refine va_put (D := G.1) (cl := vwCl) o.1.1 o.1.2.1 o.1.2.2.2.2 hin tt hty hnm o.1.2.2.2.1 o.2.1 hP hD hS i hi' hc j hj (o.1.2.2.2.2 _ hlink) (fun x hx => by rw [hs] at hx; exact hx) hfin hd hx.1 hx.2 (by rw [flds_len]; exact hr.2) d (fun H1 locs1 hP1 hD1 hS1 => ?_)
  rw [wld_set hD hq.1 hi, va_pl_congr (cellE_putI hq hr h2 x)] at hP1 hD1
  exact kk H1 locs1 ls hP1 hD1 hS1 hl
theorem v_iald (o : Okk p s m args meth c cc own nL G A) {q n : Nat} {i : Int32} (hq : Ob P q 9) (hn : sN P q = n) (hi : vp_in i n) (d : decode cc pc = .ok (.iaload, 1)) (kk : V p l e R s m args below meth c nL G A Q cells slots P lv (.int (f q i.toNatClampNeg) :: stk) (pc + 1) f) : V p l e R s m args below meth c nL G A Q cells slots P lv (.int i :: .ref q :: stk) pc f := by
  intro H locs ls hP hD hS hl
  obtain ⟨j, hj⟩ := wld_get (G := G) (f := f) hq.1
  rw [cellE_i hq, hn] at hj
  exact va_iald (D := G.1) (cl := vwCl) o.1.1 o.1.2.1 o.2.1 hP j 0 hj rfl hi d (kk H locs ls hP hD hS hl)
theorem v_aald11 (o : Okk p s m args meth c cc own nL G A) {q n b : Nat} {i : Int32} (hq : Ob P q 11) (hn : sN P q = n) (hi : vp_in i n) (hb : sR P q i.toNatClampNeg = some b) (d : decode cc pc = .ok (.aaload, 1)) (kk : V p l e R s m args below meth c nL G A Q cells slots P lv (.ref b :: stk) (pc + 1) f) : V p l e R s m args below meth c nL G A Q cells slots P lv (.int i :: .ref q :: stk) pc f := by
  intro H locs ls hP hD hS hl
  obtain ⟨j, hj⟩ := wld_get (G := G) (f := f) hq.1
  rw [cellE_11 hq, hn] at hj
  refine va_aldq (D := G.1) (cl := vwCl) o.1.1 o.1.2.1 o.2.1 hP j 2 hj rfl hi d ?_
  rw [hb]
  exact kk H locs ls hP hD hS hl
theorem v_aald12 (o : Okk p s m args meth c cc own nL G A) {q n b : Nat} {i : Int32} (hq : Ob P q 12) (hn : sN P q = n) (hi : vp_in i n) (hb : sR P q i.toNatClampNeg = some b) (d : decode cc pc = .ok (.aaload, 1)) (kk : V p l e R s m args below meth c nL G A Q cells slots P lv (.ref b :: stk) (pc + 1) f) : V p l e R s m args below meth c nL G A Q cells slots P lv (.int i :: .ref q :: stk) pc f := by
  intro H locs ls hP hD hS hl
  obtain ⟨j, hj⟩ := wld_get (G := G) (f := f) hq.1
  rw [cellE_12 hq, hn] at hj
  refine va_aldq (D := G.1) (cl := vwCl) o.1.1 o.1.2.1 o.2.1 hP j 3 hj rfl hi d ?_
  rw [hb]
  exact kk H locs ls hP hD hS hl
theorem v_alen9 (o : Okk p s m args meth c cc own nL G A) {q n : Nat} (hq : Ob P q 9) (hn : sN P q = n) (d : decode cc pc = .ok (.arraylength, 1)) (kk : V p l e R s m args below meth c nL G A Q cells slots P lv (.int (nI n) :: stk) (pc + 1) f) : V p l e R s m args below meth c nL G A Q cells slots P lv (.ref q :: stk) pc f := by
  intro H locs ls hP hD hS hl
  obtain ⟨j, hj⟩ := wld_get (G := G) (f := f) hq.1
  rw [cellE_i hq, hn] at hj
  exact va_alen (D := G.1) (cl := vwCl) o.1.1 o.1.2.1 o.2.1 hP j 0 hj rfl rfl d (kk H locs ls hP hD hS hl)
theorem v_alen11 (o : Okk p s m args meth c cc own nL G A) {q n : Nat} (hq : Ob P q 11) (hn : sN P q = n) (d : decode cc pc = .ok (.arraylength, 1)) (kk : V p l e R s m args below meth c nL G A Q cells slots P lv (.int (nI n) :: stk) (pc + 1) f) : V p l e R s m args below meth c nL G A Q cells slots P lv (.ref q :: stk) pc f := by
  intro H locs ls hP hD hS hl
  obtain ⟨j, hj⟩ := wld_get (G := G) (f := f) hq.1
  rw [cellE_11 hq, hn] at hj
  exact va_alen (D := G.1) (cl := vwCl) o.1.1 o.1.2.1 o.2.1 hP j 2 hj rfl rfl d (kk H locs ls hP hD hS hl)
theorem v_alen12 (o : Okk p s m args meth c cc own nL G A) {q n : Nat} (hq : Ob P q 12) (hn : sN P q = n) (d : decode cc pc = .ok (.arraylength, 1)) (kk : V p l e R s m args below meth c nL G A Q cells slots P lv (.int (nI n) :: stk) (pc + 1) f) : V p l e R s m args below meth c nL G A Q cells slots P lv (.ref q :: stk) pc f := by
  intro H locs ls hP hD hS hl
  obtain ⟨j, hj⟩ := wld_get (G := G) (f := f) hq.1
  rw [cellE_12 hq, hn] at hj
  exact va_alen (D := G.1) (cl := vwCl) o.1.1 o.1.2.1 o.2.1 hP j 3 hj rfl rfl d (kk H locs ls hP hD hS hl)
theorem v_iast (o : Okk p s m args meth c cc own nL G A) {q n : Nat} {i x : Int32} (hq : Ob P q 9) (hn : sN P q = n) (hi : vp_in i n) (d : decode cc pc = .ok (.iastore, 1)) (kk : V p l e R s m args below meth c nL G A Q cells slots P lv stk (pc + 1) (setf f q i.toNatClampNeg x)) : V p l e R s m args below meth c nL G A Q cells slots P lv (.int x :: .int i :: .ref q :: stk) pc f := by
  intro H locs ls hP hD hS hl
  obtain ⟨j, hj⟩ := wld_get (G := G) (f := f) hq.1
  have hj' := hj
  rw [cellE_i hq] at hj'
  subst hn
  refine va_iast (D := G.1) (cl := vwCl) o.1.1 o.1.2.1 o.2.1 hP hD hS j 0 hj' rfl hi d (fun H1 locs1 hP1 hD1 hS1 => ?_)
  rw [wld_set hD hq.1 hj, va_pl_congr (cellE_ast hq x)] at hP1 hD1
  exact kk H1 locs1 ls hP1 hD1 hS1 hl
/-- a whole array's ints are written -/
def seta (f : St) (a : Nat) (g : Nat → Int32) : St := fun q i => if q = a then g i else f q i
theorem cellE_seta {G : Gl} {P : Sk} {f : St} {a : Nat} (hq : Ob P a 9) (g : Nat → Int32) : ∀ q, va_up (cellE G P f) a (.inl (G.2.1, sN P a, .inl g)) q = cellE G P (seta f a g) q := by
  intro q
  by_cases e : q = a
  · subst e
    rw [cellE_i hq]
    have : seta f q g q = g := by
      funext i
      simp [seta]
    simp [va_up, this]
  · have e1 : seta f a g q = f q := by funext i; simp [seta, e]
    have e2 : flds P (seta f a g) q (sK P q) = flds P f q (sK P q) := by simp [flds, e1]
    simp only [va_up, if_neg e, cellE, e1, e2]
theorem v_copy (o : Okk p s m args meth c cc own nL G A) {q0 q1 n0 n1 : Nat} {sp dp n : Int32} {idx : Nat} (hlink : Cond.methodLink own idx arraycopyName ∈ lw_U) (hnat : Cond.native arraycopyName ∈ lw_U) (hstat : Cond.static arraycopyName ∈ lw_U) (hini : Cond.initialized "java/lang/System" ∈ lw_U)
    (hq0 : Ob P q0 9) (hq1 : Ob P q1 9) (hn0 : sN P q0 = n0) (hn1 : sN P q1 = n1) (h1 : ¬ sp < 0) (h2 : ¬ dp < 0) (h3 : ¬ n < 0) (h4 : sp.toNatClampNeg + n.toNatClampNeg ≤ n0) (h5 : dp.toNatClampNeg + n.toNatClampNeg ≤ n1) (hR : 1 ≤ R.frames) (hRl : (stk.map fun v => v.category).sum + (nativeFrameWords "java/lang/System" "arraycopy" 5 + 11) ≤ R.locals) (d : decode cc pc = .ok (.invokestatic idx, 3))
    (kk : V p l e R s m args below meth c nL G A Q cells slots P lv stk (pc + 3) (seta f q1 (va_cpy (f q0) (f q1) sp.toNatClampNeg dp.toNatClampNeg n.toNatClampNeg))) : V p l e R s m args below meth c nL G A Q cells slots P lv (.int n :: .int dp :: .ref q1 :: .int sp :: .ref q0 :: stk) pc f := by
  intro H locs ls hP hD hS hl
  obtain ⟨j0, hj0⟩ := wld_get (G := G) (f := f) hq0.1
  obtain ⟨j1, hj1⟩ := wld_get (G := G) (f := f) hq1.1
  have hj1' := hj1
  rw [cellE_i hq0] at hj0
  rw [cellE_i hq1] at hj1'
  subst hn0
  subst hn1
  refine va_copyi (D := G.1) (cl := vwCl) o.1.1 o.1.2.1 (o.1.2.2.1.trans hl.1.symm) o.1.2.2.2.1 (o.1.2.2.2.2 _ hlink) (o.1.2.2.2.2 _ hnat) (o.1.2.2.2.2 _ hstat) (o.1.2.2.2.2 _ hini) o.2.1 hP hD hS j0 j1 0 0 hj0 hj1' rfl rfl rfl h1 h2 h3 h4 h5 (fun _ _ => rfl) hR hRl d (fun H1 locs1 hP1 hD1 hS1 => ?_)
  rw [wld_set hD hq1.1 hj1, va_pl_congr (cellE_seta hq1 _)] at hP1 hD1
  exact kk H1 locs1 ls hP1 hD1 hS1 hl
theorem v_cVi (o : Okk p s m args meth c cc own nL G A) {y : MethodName} {bytes : ByteArray} {maxL n idx ci b : Nat} {ret : Option FieldType} {rm : Room} {C : String} {K : Int32 → St → Prop} (As rest : List Value) (hM : ∀ sz, Met l y (wU y bytes maxL ret) rm (PcW G P f sz (.ref b :: As)) (QcI G P sz K) 0 0 (frA P sz)) (cw : CallW R s args own C idx y bytes maxL ret (wU y bytes maxL ret) rm 0 0 n) (hc : ∃ T N, vwCl[ci]? = some (C, T, N)) (hk : ci < 9) (hq : Ob P b ci) (hn : As.length = n) (hW : (rest.map fun v => v.category).sum ≤ 8) (hf : cells ≤ R.cells ∧ slots ≤ R.slots) (d : decode cc pc = .ok (.invokevirtual idx, 3)) (hst : stk = As.reverse ++ .ref b :: rest) (kk : ∀ (r : Int32) (u : St), K r u → V p l e R s m args below meth c nL G A Q cells slots P lv (.int r :: rest) (pc + 3) u) : V p l e R s m args below meth c nL G A Q cells slots P lv stk pc f := by
  subst hst
  intro H locs ls hP hD hS hl
  obtain ⟨T, N, hc⟩ := hc
  obtain ⟨i, hi⟩ := wld_get (G := G) (f := f) hq.1
  rw [cellE_o hq hk] at hi
  have hA : ∀ q, frA P H.size q → A q := fun q h => h.elim (fun h => wld_in hD h) (fun h => o.2.2.2 q (Nat.le_trans hS.1 h))
  refine va_calli (va_runV (As := As) (rest := rest) o.1 (hM H.size) cw ⟨pcw_blind, va_recv o.2.1 hP hc hi, fun U hU hW => ⟨rfl, by rw [hU], by rw [hU]; exact hP, va_K.moved hW.alike o.2.1, wld_D hD (fun _ _ => trivial)⟩⟩ rfl hn hl.1 rfl (lv_room hW) d hf) hS (fun q _ h => hA q h) hA (fun r u t H1 locs1 ht hvm hw hB hz1 hk1 hS1 => ?_)
  obtain ⟨hP1, hK1, hD1⟩ := hB
  rw [ht] at hP1
  exact kk r u hw H1 locs1 ls hP1 (wld_D hD1 (fun q hq => wld_in hD hq)) hS1 hl
theorem v_cSi (o : Okk p s m args meth c cc own nL G A) {y : MethodName} {bytes : ByteArray} {maxL n idx : Nat} {ret : Option FieldType} {rm : Room} {K : Int32 → St → Prop} (As rest : List Value) (hM : ∀ sz, Met l y (wU y bytes maxL ret) rm (PcW G P f sz As) (QcI G P sz K) 0 0 (frA P sz)) (cw : CallB R s args own idx y bytes maxL ret (wU y bytes maxL ret) rm 0 0 n ∧ (Cond.static y).before args s = true) (hn : As.length = n) (hW : (rest.map fun v => v.category).sum ≤ 8) (hf : cells ≤ R.cells ∧ slots ≤ R.slots) (d : decode cc pc = .ok (.invokestatic idx, 3)) (hst : stk = As.reverse ++ rest) (kk : ∀ (r : Int32) (u : St), K r u → V p l e R s m args below meth c nL G A Q cells slots P lv (.int r :: rest) (pc + 3) u) : V p l e R s m args below meth c nL G A Q cells slots P lv stk pc f := by
  subst hst
  intro H locs ls hP hD hS hl
  have hA : ∀ q, frA P H.size q → A q := fun q h => h.elim (fun h => wld_in hD h) (fun h => o.2.2.2 q (Nat.le_trans hS.1 h))
  refine va_calli (va_runS (As := As) (rest := rest) o.1 (hM H.size) cw ⟨pcw_blind, fun U hU hW => ⟨rfl, by rw [hU], by rw [hU]; exact hP, va_K.moved hW.alike o.2.1, wld_D hD (fun _ _ => trivial)⟩⟩ rfl hn hl.1 rfl (lv_room hW) d hf) hS (fun q _ h => hA q h) hA (fun r u t H1 locs1 ht hvm hw hB hz1 hk1 hS1 => ?_)
  obtain ⟨hP1, hK1, hD1⟩ := hB
  rw [ht] at hP1
  exact kk r u hw H1 locs1 ls hP1 (wld_D hD1 (fun q hq => wld_in hD hq)) hS1 hl
theorem v_cVl (o : Okk p s m args meth c cc own nL G A) {y : MethodName} {bytes : ByteArray} {maxL n idx ci b : Nat} {ret : Option FieldType} {rm : Room} {C : String} {K : Int64 → St → Prop} (As rest : List Value) (hM : ∀ sz, Met l y (wU y bytes maxL ret) rm (PcW G P f sz (.ref b :: As)) (QcL G P sz K) 0 0 (frA P sz)) (cw : CallW R s args own C idx y bytes maxL ret (wU y bytes maxL ret) rm 0 0 n) (hc : ∃ T N, vwCl[ci]? = some (C, T, N)) (hk : ci < 9) (hq : Ob P b ci) (hn : As.length = n) (hW : (rest.map fun v => v.category).sum ≤ 8) (hf : cells ≤ R.cells ∧ slots ≤ R.slots) (d : decode cc pc = .ok (.invokevirtual idx, 3)) (hst : stk = As.reverse ++ .ref b :: rest) (kk : ∀ (r : Int64) (u : St), K r u → V p l e R s m args below meth c nL G A Q cells slots P lv (.long r :: rest) (pc + 3) u) : V p l e R s m args below meth c nL G A Q cells slots P lv stk pc f := by
  subst hst
  intro H locs ls hP hD hS hl
  obtain ⟨T, N, hc⟩ := hc
  obtain ⟨i, hi⟩ := wld_get (G := G) (f := f) hq.1
  rw [cellE_o hq hk] at hi
  have hA : ∀ q, frA P H.size q → A q := fun q h => h.elim (fun h => wld_in hD h) (fun h => o.2.2.2 q (Nat.le_trans hS.1 h))
  refine va_calll (va_runV (As := As) (rest := rest) o.1 (hM H.size) cw ⟨pcw_blind, va_recv o.2.1 hP hc hi, fun U hU hW => ⟨rfl, by rw [hU], by rw [hU]; exact hP, va_K.moved hW.alike o.2.1, wld_D hD (fun _ _ => trivial)⟩⟩ rfl hn hl.1 rfl (lv_room hW) d hf) hS (fun q _ h => hA q h) hA (fun r u t H1 locs1 ht hvm hw hB hz1 hk1 hS1 => ?_)
  obtain ⟨hP1, hK1, hD1⟩ := hB
  rw [ht] at hP1
  exact kk r u hw H1 locs1 ls hP1 (wld_D hD1 (fun q hq => wld_in hD hq)) hS1 hl
theorem v_cSl (o : Okk p s m args meth c cc own nL G A) {y : MethodName} {bytes : ByteArray} {maxL n idx : Nat} {ret : Option FieldType} {rm : Room} {K : Int64 → St → Prop} (As rest : List Value) (hM : ∀ sz, Met l y (wU y bytes maxL ret) rm (PcW G P f sz As) (QcL G P sz K) 0 0 (frA P sz)) (cw : CallB R s args own idx y bytes maxL ret (wU y bytes maxL ret) rm 0 0 n ∧ (Cond.static y).before args s = true) (hn : As.length = n) (hW : (rest.map fun v => v.category).sum ≤ 8) (hf : cells ≤ R.cells ∧ slots ≤ R.slots) (d : decode cc pc = .ok (.invokestatic idx, 3)) (hst : stk = As.reverse ++ rest) (kk : ∀ (r : Int64) (u : St), K r u → V p l e R s m args below meth c nL G A Q cells slots P lv (.long r :: rest) (pc + 3) u) : V p l e R s m args below meth c nL G A Q cells slots P lv stk pc f := by
  subst hst
  intro H locs ls hP hD hS hl
  have hA : ∀ q, frA P H.size q → A q := fun q h => h.elim (fun h => wld_in hD h) (fun h => o.2.2.2 q (Nat.le_trans hS.1 h))
  refine va_calll (va_runS (As := As) (rest := rest) o.1 (hM H.size) cw ⟨pcw_blind, fun U hU hW => ⟨rfl, by rw [hU], by rw [hU]; exact hP, va_K.moved hW.alike o.2.1, wld_D hD (fun _ _ => trivial)⟩⟩ rfl hn hl.1 rfl (lv_room hW) d hf) hS (fun q _ h => hA q h) hA (fun r u t H1 locs1 ht hvm hw hB hz1 hk1 hS1 => ?_)
  obtain ⟨hP1, hK1, hD1⟩ := hB
  rw [ht] at hP1
  exact kk r u hw H1 locs1 ls hP1 (wld_D hD1 (fun q hq => wld_in hD hq)) hS1 hl
theorem v_cVd (o : Okk p s m args meth c cc own nL G A) {y : MethodName} {bytes : ByteArray} {maxL n idx ci b : Nat} {ret : Option FieldType} {rm : Room} {C : String} {K : UInt64 → St → Prop} (As rest : List Value) (hM : ∀ sz, Met l y (wU y bytes maxL ret) rm (PcW G P f sz (.ref b :: As)) (QcD G P sz K) 0 0 (frA P sz)) (cw : CallW R s args own C idx y bytes maxL ret (wU y bytes maxL ret) rm 0 0 n) (hc : ∃ T N, vwCl[ci]? = some (C, T, N)) (hk : ci < 9) (hq : Ob P b ci) (hn : As.length = n) (hW : (rest.map fun v => v.category).sum ≤ 8) (hf : cells ≤ R.cells ∧ slots ≤ R.slots) (d : decode cc pc = .ok (.invokevirtual idx, 3)) (hst : stk = As.reverse ++ .ref b :: rest) (kk : ∀ (r : UInt64) (u : St), K r u → V p l e R s m args below meth c nL G A Q cells slots P lv (.double r :: rest) (pc + 3) u) : V p l e R s m args below meth c nL G A Q cells slots P lv stk pc f := by
  subst hst
  intro H locs ls hP hD hS hl
  obtain ⟨T, N, hc⟩ := hc
  obtain ⟨i, hi⟩ := wld_get (G := G) (f := f) hq.1
  rw [cellE_o hq hk] at hi
  have hA : ∀ q, frA P H.size q → A q := fun q h => h.elim (fun h => wld_in hD h) (fun h => o.2.2.2 q (Nat.le_trans hS.1 h))
  refine va_calld (va_runV (As := As) (rest := rest) o.1 (hM H.size) cw ⟨pcw_blind, va_recv o.2.1 hP hc hi, fun U hU hW => ⟨rfl, by rw [hU], by rw [hU]; exact hP, va_K.moved hW.alike o.2.1, wld_D hD (fun _ _ => trivial)⟩⟩ rfl hn hl.1 rfl (lv_room hW) d hf) hS (fun q _ h => hA q h) hA (fun r u t H1 locs1 ht hvm hw hB hz1 hk1 hS1 => ?_)
  obtain ⟨hP1, hK1, hD1⟩ := hB
  rw [ht] at hP1
  exact kk r u hw H1 locs1 ls hP1 (wld_D hD1 (fun q hq => wld_in hD hq)) hS1 hl
theorem v_cSd (o : Okk p s m args meth c cc own nL G A) {y : MethodName} {bytes : ByteArray} {maxL n idx : Nat} {ret : Option FieldType} {rm : Room} {K : UInt64 → St → Prop} (As rest : List Value) (hM : ∀ sz, Met l y (wU y bytes maxL ret) rm (PcW G P f sz As) (QcD G P sz K) 0 0 (frA P sz)) (cw : CallB R s args own idx y bytes maxL ret (wU y bytes maxL ret) rm 0 0 n ∧ (Cond.static y).before args s = true) (hn : As.length = n) (hW : (rest.map fun v => v.category).sum ≤ 8) (hf : cells ≤ R.cells ∧ slots ≤ R.slots) (d : decode cc pc = .ok (.invokestatic idx, 3)) (hst : stk = As.reverse ++ rest) (kk : ∀ (r : UInt64) (u : St), K r u → V p l e R s m args below meth c nL G A Q cells slots P lv (.double r :: rest) (pc + 3) u) : V p l e R s m args below meth c nL G A Q cells slots P lv stk pc f := by
  subst hst
  intro H locs ls hP hD hS hl
  have hA : ∀ q, frA P H.size q → A q := fun q h => h.elim (fun h => wld_in hD h) (fun h => o.2.2.2 q (Nat.le_trans hS.1 h))
  refine va_calld (va_runS (As := As) (rest := rest) o.1 (hM H.size) cw ⟨pcw_blind, fun U hU hW => ⟨rfl, by rw [hU], by rw [hU]; exact hP, va_K.moved hW.alike o.2.1, wld_D hD (fun _ _ => trivial)⟩⟩ rfl hn hl.1 rfl (lv_room hW) d hf) hS (fun q _ h => hA q h) hA (fun r u t H1 locs1 ht hvm hw hB hz1 hk1 hS1 => ?_)
  obtain ⟨hP1, hK1, hD1⟩ := hB
  rw [ht] at hP1
  exact kk r u hw H1 locs1 ls hP1 (wld_D hD1 (fun q hq => wld_in hD hq)) hS1 hl
theorem v_cVv (o : Okk p s m args meth c cc own nL G A) {y : MethodName} {bytes : ByteArray} {maxL n idx ci b : Nat} {ret : Option FieldType} {rm : Room} {C : String} {K : St → Prop} (As rest : List Value) (hM : ∀ sz, Met l y (wU y bytes maxL ret) rm (PcW G P f sz (.ref b :: As)) (QcV G P sz K) 0 0 (frA P sz)) (cw : CallW R s args own C idx y bytes maxL ret (wU y bytes maxL ret) rm 0 0 n) (hc : ∃ T N, vwCl[ci]? = some (C, T, N)) (hk : ci < 9) (hq : Ob P b ci) (hn : As.length = n) (hW : (rest.map fun v => v.category).sum ≤ 8) (hf : cells ≤ R.cells ∧ slots ≤ R.slots) (d : decode cc pc = .ok (.invokevirtual idx, 3)) (hst : stk = As.reverse ++ .ref b :: rest) (kk : ∀ (u : St), K u → V p l e R s m args below meth c nL G A Q cells slots P lv (rest) (pc + 3) u) : V p l e R s m args below meth c nL G A Q cells slots P lv stk pc f := by
  subst hst
  intro H locs ls hP hD hS hl
  obtain ⟨T, N, hc⟩ := hc
  obtain ⟨i, hi⟩ := wld_get (G := G) (f := f) hq.1
  rw [cellE_o hq hk] at hi
  have hA : ∀ q, frA P H.size q → A q := fun q h => h.elim (fun h => wld_in hD h) (fun h => o.2.2.2 q (Nat.le_trans hS.1 h))
  refine va_callv (va_runV (As := As) (rest := rest) o.1 (hM H.size) cw ⟨pcw_blind, va_recv o.2.1 hP hc hi, fun U hU hW => ⟨rfl, by rw [hU], by rw [hU]; exact hP, va_K.moved hW.alike o.2.1, wld_D hD (fun _ _ => trivial)⟩⟩ rfl hn hl.1 rfl (lv_room hW) d hf) hS (fun q _ h => hA q h) hA (fun u t H1 locs1 ht hvm hw hB hz1 hk1 hS1 => ?_)
  obtain ⟨hP1, hK1, hD1⟩ := hB
  rw [ht] at hP1
  exact kk u hw H1 locs1 ls hP1 (wld_D hD1 (fun q hq => wld_in hD hq)) hS1 hl
theorem v_cSv (o : Okk p s m args meth c cc own nL G A) {y : MethodName} {bytes : ByteArray} {maxL n idx : Nat} {ret : Option FieldType} {rm : Room} {K : St → Prop} (As rest : List Value) (hM : ∀ sz, Met l y (wU y bytes maxL ret) rm (PcW G P f sz As) (QcV G P sz K) 0 0 (frA P sz)) (cw : CallB R s args own idx y bytes maxL ret (wU y bytes maxL ret) rm 0 0 n ∧ (Cond.static y).before args s = true) (hn : As.length = n) (hW : (rest.map fun v => v.category).sum ≤ 8) (hf : cells ≤ R.cells ∧ slots ≤ R.slots) (d : decode cc pc = .ok (.invokestatic idx, 3)) (hst : stk = As.reverse ++ rest) (kk : ∀ (u : St), K u → V p l e R s m args below meth c nL G A Q cells slots P lv (rest) (pc + 3) u) : V p l e R s m args below meth c nL G A Q cells slots P lv stk pc f := by
  subst hst
  intro H locs ls hP hD hS hl
  have hA : ∀ q, frA P H.size q → A q := fun q h => h.elim (fun h => wld_in hD h) (fun h => o.2.2.2 q (Nat.le_trans hS.1 h))
  refine va_callv (va_runS (As := As) (rest := rest) o.1 (hM H.size) cw ⟨pcw_blind, fun U hU hW => ⟨rfl, by rw [hU], by rw [hU]; exact hP, va_K.moved hW.alike o.2.1, wld_D hD (fun _ _ => trivial)⟩⟩ rfl hn hl.1 rfl (lv_room hW) d hf) hS (fun q _ h => hA q h) hA (fun u t H1 locs1 ht hvm hw hB hz1 hk1 hS1 => ?_)
  obtain ⟨hP1, hK1, hD1⟩ := hB
  rw [ht] at hP1
  exact kk u hw H1 locs1 ls hP1 (wld_D hD1 (fun q hq => wld_in hD hq)) hS1 hl
theorem v_cVr (o : Okk p s m args meth c cc own nL G A) {y : MethodName} {bytes : ByteArray} {maxL n idx ci b : Nat} {ret : Option FieldType} {rm : Room} {C : String} {K : Nat → St → Prop} (As rest : List Value) (hM : ∀ sz, Met l y (wU y bytes maxL ret) rm (PcW G P f sz (.ref b :: As)) (QcR G P sz K) 0 0 (frA P sz)) (cw : CallW R s args own C idx y bytes maxL ret (wU y bytes maxL ret) rm 0 0 n) (hc : ∃ T N, vwCl[ci]? = some (C, T, N)) (hk : ci < 9) (hq : Ob P b ci) (hn : As.length = n) (hW : (rest.map fun v => v.category).sum ≤ 8) (hf : cells ≤ R.cells ∧ slots ≤ R.slots) (d : decode cc pc = .ok (.invokevirtual idx, 3)) (hst : stk = As.reverse ++ .ref b :: rest) (kk : ∀ (r : Nat) (u : St), K r u → V p l e R s m args below meth c nL G A Q cells slots P lv (.ref r :: rest) (pc + 3) u) : V p l e R s m args below meth c nL G A Q cells slots P lv stk pc f := by
  subst hst
  intro H locs ls hP hD hS hl
  obtain ⟨T, N, hc⟩ := hc
  obtain ⟨i, hi⟩ := wld_get (G := G) (f := f) hq.1
  rw [cellE_o hq hk] at hi
  have hA : ∀ q, frA P H.size q → A q := fun q h => h.elim (fun h => wld_in hD h) (fun h => o.2.2.2 q (Nat.le_trans hS.1 h))
  refine va_callr (va_runV (As := As) (rest := rest) o.1 (hM H.size) cw ⟨pcw_blind, va_recv o.2.1 hP hc hi, fun U hU hW => ⟨rfl, by rw [hU], by rw [hU]; exact hP, va_K.moved hW.alike o.2.1, wld_D hD (fun _ _ => trivial)⟩⟩ rfl hn hl.1 rfl (lv_room hW) d hf) hS (fun q _ h => hA q h) hA (fun u r t H1 locs1 ht hvm _ hB hz1 hk1 hS1 => ?_)
  obtain ⟨hw, hP1, hK1, hD1⟩ := hB
  rw [ht] at hP1
  exact kk r u hw H1 locs1 ls hP1 (wld_D hD1 (fun q hq => wld_in hD hq)) hS1 hl
theorem v_cSr (o : Okk p s m args meth c cc own nL G A) {y : MethodName} {bytes : ByteArray} {maxL n idx : Nat} {ret : Option FieldType} {rm : Room} {K : Nat → St → Prop} (As rest : List Value) (hM : ∀ sz, Met l y (wU y bytes maxL ret) rm (PcW G P f sz As) (QcR G P sz K) 0 0 (frA P sz)) (cw : CallB R s args own idx y bytes maxL ret (wU y bytes maxL ret) rm 0 0 n ∧ (Cond.static y).before args s = true) (hn : As.length = n) (hW : (rest.map fun v => v.category).sum ≤ 8) (hf : cells ≤ R.cells ∧ slots ≤ R.slots) (d : decode cc pc = .ok (.invokestatic idx, 3)) (hst : stk = As.reverse ++ rest) (kk : ∀ (r : Nat) (u : St), K r u → V p l e R s m args below meth c nL G A Q cells slots P lv (.ref r :: rest) (pc + 3) u) : V p l e R s m args below meth c nL G A Q cells slots P lv stk pc f := by
  subst hst
  intro H locs ls hP hD hS hl
  have hA : ∀ q, frA P H.size q → A q := fun q h => h.elim (fun h => wld_in hD h) (fun h => o.2.2.2 q (Nat.le_trans hS.1 h))
  refine va_callr (va_runS (As := As) (rest := rest) o.1 (hM H.size) cw ⟨pcw_blind, fun U hU hW => ⟨rfl, by rw [hU], by rw [hU]; exact hP, va_K.moved hW.alike o.2.1, wld_D hD (fun _ _ => trivial)⟩⟩ rfl hn hl.1 rfl (lv_room hW) d hf) hS (fun q _ h => hA q h) hA (fun u r t H1 locs1 ht hvm _ hB hz1 hk1 hS1 => ?_)
  obtain ⟨hw, hP1, hK1, hD1⟩ := hB
  rw [ht] at hP1
  exact kk r u hw H1 locs1 ls hP1 (wld_D hD1 (fun q hq => wld_in hD hq)) hS1 hl
theorem v_iret (o : Okk p s m args meth c cc own nL G A) {sz : Nat} {K : Int32 → St → Prop} {v : Int32} (hA : A = frA P sz) (hr : meth.sig.returnType = some .int) (d : decode cc pc = .ok (.ireturn, 1)) (hK : K v f) : V p l e R s m args below meth c nL G A (MQ below (QcI G P sz K) args s cells slots (frA P sz)) cells slots P lv ([.int v]) pc f := by
  subst hA
  intro H locs ls hP hD hS hl
  exact W.iret o.1.1 o.1.2.1 hr (fun t ht hW => ⟨⟨v, f, rfl, hK, by rw [ht]; exact hP, va_K.moved hW.alike o.2.1, hD⟩, hS.F ht⟩) hS.2.2 d (hlocks := o.2.2.1)
theorem v_zret (o : Okk p s m args meth c cc own nL G A) {sz : Nat} {K : Int32 → St → Prop} {v : Int32} {ty : FieldType} (hA : A = frA P sz) (hr : meth.sig.returnType = some ty) (hn : narrow ty (.int v) = .int v) (d : decode cc pc = .ok (.ireturn, 1)) (hK : K v f) : V p l e R s m args below meth c nL G A (MQ below (QcI G P sz K) args s cells slots (frA P sz)) cells slots P lv ([.int v]) pc f := by
  subst hA
  intro H locs ls hP hD hS hl
  exact W.zret o.1.1 o.1.2.1 hr hn (fun t ht hW => ⟨⟨v, f, rfl, hK, by rw [ht]; exact hP, va_K.moved hW.alike o.2.1, hD⟩, hS.F ht⟩) hS.2.2 d (hlocks := o.2.2.1)
theorem v_lret (o : Okk p s m args meth c cc own nL G A) {sz : Nat} {K : Int64 → St → Prop} {v : Int64} (hA : A = frA P sz) (hr : meth.sig.returnType = some .long) (d : decode cc pc = .ok (.lreturn, 1)) (hK : K v f) : V p l e R s m args below meth c nL G A (MQ below (QcL G P sz K) args s cells slots (frA P sz)) cells slots P lv ([.long v]) pc f := by
  subst hA
  intro H locs ls hP hD hS hl
  exact W.lret o.1.1 o.1.2.1 hr (fun t ht hW => ⟨⟨v, f, rfl, hK, by rw [ht]; exact hP, va_K.moved hW.alike o.2.1, hD⟩, hS.F ht⟩) hS.2.2 d (hlocks := o.2.2.1)
theorem v_dret (o : Okk p s m args meth c cc own nL G A) {sz : Nat} {K : UInt64 → St → Prop} {v : UInt64} (hA : A = frA P sz) (hr : meth.sig.returnType = some .double) (d : decode cc pc = .ok (.dreturn, 1)) (hK : K v f) : V p l e R s m args below meth c nL G A (MQ below (QcD G P sz K) args s cells slots (frA P sz)) cells slots P lv ([.double v]) pc f := by
  subst hA
  intro H locs ls hP hD hS hl
  exact W.dret o.1.1 o.1.2.1 hr (fun t ht hW => ⟨⟨v, f, rfl, hK, by rw [ht]; exact hP, va_K.moved hW.alike o.2.1, hD⟩, hS.F ht⟩) hS.2.2 d (hlocks := o.2.2.1)
theorem v_vret (o : Okk p s m args meth c cc own nL G A) {sz : Nat} {K : St → Prop}  (hA : A = frA P sz) (hr : meth.sig.returnType = none) (d : decode cc pc = .ok (.return_, 1)) (hK : K f) : V p l e R s m args below meth c nL G A (MQ below (QcV G P sz K) args s cells slots (frA P sz)) cells slots P lv ([]) pc f := by
  subst hA
  intro H locs ls hP hD hS hl
  exact W.vret o.1.1 o.1.2.1 hr (fun t ht hW => ⟨⟨f, rfl, hK, by rw [ht]; exact hP, va_K.moved hW.alike o.2.1, hD⟩, hS.F ht⟩) hS.2.2 d (hlocks := o.2.2.1)
theorem v_aret (o : Okk p s m args meth c cc own nL G A) {sz : Nat} {K : Nat → St → Prop} {v : Nat} {rt : FieldType} (hA : A = frA P sz) (hr : meth.sig.returnType = some rt) (hrt : (∃ n, rt = .object n) ∨ ∃ t, rt = .array t) (d : decode cc pc = .ok (.areturn, 1)) (hK : K v f) : V p l e R s m args below meth c nL G A (MQ below (QcR G P sz K) args s cells slots (frA P sz)) cells slots P lv ([.ref v]) pc f := by
  subst hA
  intro H locs ls hP hD hS hl
  exact W.aret o.1.1 o.1.2.1 hr hrt (Or.inr ⟨v, rfl⟩) (fun t ht hW => ⟨⟨f, v, rfl, trivial, hK, by rw [ht]; exact hP, va_K.moved hW.alike o.2.1, hD⟩, hS.F ht⟩) hS.2.2 d (hlocks := o.2.2.1)
end VV
theorem met_ofWF {l : Launch} {y : MethodName} {ws ws' : List Cond} {rm : Room} {Pc : Array Value → State → Prop} {Qc : Array Value → State → Outcome → State → Prop} {mc ms : Nat} {free : Addr → Prop} {cc : ByteArray} {maxL : Nat} {ret : Option FieldType}
    (hy : plainFor y = true) (hw : ws = Cond.code y cc maxL ret :: ws')
    (body : ∀ p e s m args below meth c s₁, BodyLoose p l y (headSpec ws rm) cc maxL ret e s m args below meth c s₁ → c.maxLocals = maxL → Pc args s →
      W p l e (headSpec ws rm).room s m args below meth c s.heap [] 0 0 (MQ below Qc args s mc ms free) (entryFrame m args maxL)) : Met l y ws rm Pc Qc mc ms free := by
  refine MetFree.of_bodySF (code := cc) (maxLocals := maxL) (ret := ret) hy ?_ ?_
  · intro args s m h hn
    obtain ⟨meth, c, h1, h2, h3, h4, h5, h6, -, -⟩ := Cond.code_spec hn (atoms_spec (ws := ws) h _ (by rw [hw]; exact List.mem_cons_self))
    exact ⟨meth, c, h1, h2, h3, h4, h5, h6⟩
  · intro p e s m args below meth c s₁ B hml hP _
    obtain ⟨t, a1, o, b1, b2, b3⟩ := body p e s m args below meth c s₁ B hml hP s₁ (by rw [B.state]; rfl) (Stand.of_body B)
    exact ⟨t, o, a1, b1, b2, ⟨b3.1, b3.2⟩⟩
/-- a method's contract out of its walk -/
theorem v_met {l : Launch} {y : MethodName} {cc : ByteArray} {maxL : Nat} {ret : Option FieldType} {rm : Room} {G : Gl} {P : Sk} {f : St} {sz mc ms : Nat} {Qc : Array Value → State → Outcome → State → Prop} {own : String} (As : List Value) (hy : plainFor y = true) (ho : y.cls = own) (hlen : (lg_sl As).length ≤ maxL)
    (body : ∀ (p : Program) (e : Env) (s : State) (m : MethodId) (args : Array Value) (below : List Frame) (meth : Method) (c : Code), s.heap.size = sz → Okk p s m args meth c cc own maxL G (frA P sz) → meth.sig.returnType = ret → meth.name = y.name → V p l e rm s m args below meth c maxL G (frA P sz) (MQ below Qc args s mc ms (frA P sz)) 0 0 P (lv_args 0 As) [] 0 f) :
    Met l y (wU y cc maxL ret) rm (PcW G P f sz As) Qc mc ms (frA P sz) := by
  refine met_ofWF (cc := cc) (maxL := maxL) (ret := ret) hy rfl ?_
  intro p e s m args below meth c s₁ Bd hml hv
  obtain ⟨rfl, hsz, hP, hK, hD0⟩ := hv
  have hts := atoms_spec (ws := wU y cc maxL ret) Bd.pre
  have hts : ∀ w ∈ lw_U, w.before _ s = true := fun w h => hts w (List.mem_cons_of_mem _ h)
  have hown : s.vm.findClass y.cls = some m.cls := findClass_of_methodNamed Bd.named
  have hnm : meth.name = y.name := (name_of_methodNamed Bd.named Bd.method).1
  have hl := lv_entry As (n := maxL) hlen
  rw [ho] at hown
  rw [lg_entry_eq]
  refine body p e s m _ below meth c hsz ⟨⟨Bd.exec, Bd.bytes, hml, hown, hts⟩, hK, Bd.notSynchronized, fun q h => Or.inr (by rw [← hsz]; exact h)⟩ Bd.returns hnm s.heap [] _ hP (wld_D hD0 (fun q h => Or.inl h)) va_S.rf hl
