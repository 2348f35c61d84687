section VD
variable {p : Program} {l : Launch} {e : Env} {R : Room} {s : State} {m : MethodId} {args : Array Value} {below : List Frame} {meth : Method} {c : Code} {cc : ByteArray} {own : String} {nL : Nat} {G : Gl} {A : Nat → Prop} {Q : State → Prop} {cells slots : Nat} {P : Sk} {lv : List (Nat × Value)} {stk : List Value} {pc : Nat} {f : St}
theorem v_drb (o : Okk p s m args meth c cc own nL G A) {b : UInt64} {idx : Nat} (hlink : Cond.methodLink own idx ⟨"java/lang/Double", "doubleToRawLongBits", "(D)J"⟩ ∈ lw_U) (hnat : Cond.native ⟨"java/lang/Double", "doubleToRawLongBits", "(D)J"⟩ ∈ lw_U) (hstat : Cond.static ⟨"java/lang/Double", "doubleToRawLongBits", "(D)J"⟩ ∈ lw_U) (hini : Cond.initialized "java/lang/Double" ∈ lw_U) (hR : 1 ≤ R.frames) (hRl : (stk.map fun v => v.category).sum + 15 ≤ R.locals) (d : decode cc pc = .ok (.invokestatic idx, 3))
    (k : V p l e R s m args below meth c nL G A Q cells slots P lv (.long b.toInt64 :: stk) (pc + 3) f) : V p l e R s m args below meth c nL G A Q cells slots P lv (.double b :: stk) pc f := by
  intro H locs ls hP hD hS hl
  exact vn_d2l o.1.1 o.1.2.1 (o.1.2.2.1.trans hl.1.symm) o.1.2.2.2.1 (o.1.2.2.2.2 _ hlink) (o.1.2.2.2.2 _ hnat) (o.1.2.2.2.2 _ hstat) (o.1.2.2.2.2 _ hini) hR hRl d (k H locs ls hP hD hS hl)
end VD
theorem dec_nn {r : UInt64} (h : vf_n64 r) : FP.Core.decode FP.Core.b64 r.toNat ≠ .nan := by
  unfold vf_n64 at h
  have h1 : (r &&& 0x7fffffffffffffff).toNat = r.toNat % 2 ^ 63 := by
    rw [UInt64.toNat_and, show (0x7fffffffffffffff : UInt64).toNat = 2 ^ 63 - 1 from rfl, Nat.and_two_pow_sub_one_eq_mod]
  have h2 := UInt64.le_iff_toNat_le.mp h
  rw [h1, show (0x7ff0000000000000 : UInt64).toNat = 9218868437227405312 from rfl] at h2
  have e1 : FP.Core.fieldE FP.Core.b64 r.toNat = r.toNat / 4503599627370496 % 2048 := by simp [FP.Core.fieldE, FP.Core.Fmt.tails, FP.Core.Fmt.exps, FP.Core.b64]
  have e2 : FP.Core.fieldT FP.Core.b64 r.toNat = r.toNat % 4503599627370496 := by simp [FP.Core.fieldT, FP.Core.Fmt.tails, FP.Core.b64]
  have e3 : FP.Core.b64.exps - 1 = 2047 := by simp [FP.Core.Fmt.exps, FP.Core.b64]
  unfold FP.Core.decode
  rw [e1, e2, e3]
  by_cases c : r.toNat / 4503599627370496 % 2048 = 2047
  · rw [if_pos c, if_pos (by omega)]
    exact fun q => FP.Core.Datum.noConfusion q
  · rw [if_neg c]
    split
    · exact fun q => FP.Core.Datum.noConfusion q
    · exact fun q => FP.Core.Datum.noConfusion q
theorem dc_nn {r : UInt64} (h : vf_n64 r) : FP.dcmp r r = some .eq := by
  have hd := dec_nn h
  show FP.Core.order (FP.Core.decode FP.Core.b64 r.toNat) (FP.Core.decode FP.Core.b64 r.toNat) = _
  generalize FP.Core.decode FP.Core.b64 r.toNat = d at hd
  have cr : ∀ x : Int, compare x x = .eq := fun x => by
    rw [Int.compare_eq_eq]
  cases d with
  | nan => exact absurd rfl hd
  | inf s => exact congrArg some (cr _)
  | fin s c q => exact congrArg some (cr _)
theorem shV_nn {A : Ab} (h : Bok A.1) : vf_n64 (shV A) := by
  have h144 := smL_144 h
  have hm := smL_mono (φ := lnF) (ψ := lnW) (ls := A.1.1) (fun y => NF_len y.2) A.1.1.length
  unfold shV
  split
  · unfold vf_n64
    decide +kernel
  · exact shr_ok _ _ hm (by omega) h144
