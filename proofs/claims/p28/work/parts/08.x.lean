/-! methods that throw are walked with no throw -/
abbrev XF : String → St → Prop := fun _ _ => False
section VX
variable {p : Program} {l : Launch} {e : Env} {R : Room} {s : State} {m : MethodId} {args : Array Value} {below : List Frame} {meth : Method} {c : Code} {cc : ByteArray} {own : String} {nL : Nat} {G : Gl} {A : Nat → Prop} {Q : State → Prop} {cells slots : Nat} {P : Sk} {lv : List (Nat × Value)} {stk : List Value} {pc : Nat} {f : St}
theorem v_widen {k n : Nat} (h1 : cells ≤ k) (h2 : slots ≤ n) (kk : V p l e R s m args below meth c nL G A Q k n P lv stk pc f) : V p l e R s m args below meth c nL G A Q cells slots P lv stk pc f := fun H locs ls hP hD hS hl => W.widen h1 h2 (kk H locs ls hP hD hS hl)
end VX
