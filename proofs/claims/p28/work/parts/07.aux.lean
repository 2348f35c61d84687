/-! small rows for the walks -/
theorem vin_lt {i : Int32} {n : Nat} (h : vp_in i n) : i.toNatClampNeg < n := Nat.not_le.mp fun q => h (Or.inr q)
theorem bz0 : narrow .boolean (.int 0) = .int 0 ∧ fits .boolean (.int 0) = true := by decide +kernel
theorem bz1 : narrow .boolean (.int 1) = .int 1 ∧ fits .boolean (.int 1) = true := by decide +kernel
theorem bzz {v : Int32} (h : v = 0 ∨ v = 1) : narrow .boolean (.int v) = .int v ∧ fits .boolean (.int v) = true := by
  rcases h with rfl | rfl
  · exact bz0
  · exact bz1
section VA2
variable {p : Program} {l : Launch} {e : Env} {R : Room} {s : State} {m : MethodId} {args : Array Value} {below : List Frame} {meth : Method} {c : Code} {nL : Nat} {G : Gl} {A : Nat → Prop} {Q : State → Prop} {cells slots : Nat} {P : Sk} {lv : List (Nat × Value)} {stk : List Value} {pc : Nat} {f : St}
theorem v_lv {lv2 : List (Nat × Value)} (h : lv = lv2) (k : V p l e R s m args below meth c nL G A Q cells slots P lv2 stk pc f) : V p l e R s m args below meth c nL G A Q cells slots P lv stk pc f := h ▸ k
theorem v_sub (ks : List Nat) {lv2 : List (Nat × Value)} (h : lv_pick lv ks = lv2) (k : V p l e R s m args below meth c nL G A Q cells slots P lv2 stk pc f) : V p l e R s m args below meth c nL G A Q cells slots P lv stk pc f :=
  fun H locs ls hP hD hS hl => k H locs ls hP hD hS (lv_sub hl ks h)
end VA2
