section VE
variable {p : Program} {l : Launch} {e : Env} {R : Room} {s : State} {m : MethodId} {args : Array Value} {below : List Frame} {meth : Method} {c : Code} {nL : Nat} {G : Gl} {A : Nat → Prop} {Q : State → Prop} {cells slots : Nat} {P : Sk} {lv : List (Nat × Value)} {stk : List Value} {pc : Nat} {f : St}
theorem v_eqc {c2 s2 : Nat} (h1 : cells = c2) (h2 : slots = s2) (k : V p l e R s m args below meth c nL G A Q c2 s2 P lv stk pc f) : V p l e R s m args below meth c nL G A Q cells slots P lv stk pc f := h1 ▸ h2 ▸ k
end VE
