/-! shares: none is NaN, and their bits are worked out as they are; all of them looked at -/
def shr (a b : Nat) : UInt64 := FP.ddiv (FP.i2d (nI a)) (FP.i2d (nI b))
def nn (r : UInt64) : Bool := decide (r &&& 0x7fffffffffffffff ≤ 0x7ff0000000000000)
def bsF : Nat → UInt64 → Int64 → Option Int64
  | 0, _, _ => none
  | fu + 1, d, e => if 0 ≤ Op.cmpValue (FP.dcmp d (FP.dconst1)) .g then (bif nn (FP.dsub d (FP.dconst1)) && nn (FP.dmul (FP.dsub d (FP.dconst1)) (4841369599423283200 : UInt64)) then some ((e <<< ((52 : Int32).toInt64 &&& 63)) + FP.d2l (FP.dmul (FP.dsub d (FP.dconst1)) (4841369599423283200 : UInt64))) else none) else bif nn (FP.dmul d (4611686018427387904 : UInt64)) then bsF fu (FP.dmul d (4611686018427387904 : UInt64)) (e - 1) else none
def bitsC (d : UInt64) : Option Int64 := if 0 < Op.cmpValue (FP.dcmp d (FP.dconst0)) .g then bsF 20 d 1023 else some 0
def ckS (a b : Nat) : Bool := bif Nat.beq b 0 then true else nn (shr a b) && decide (bitsC (shr a b) = some (shr a b).toInt64)
theorem bits_1 : bitsC (FP.dconst1) = some (FP.dconst1).toInt64 := by decide +kernel
theorem sh_0 : alB 18 (fun b => alB (Nat.succ (Nat.add 0 b)) (fun a => ckS a (Nat.add 0 b))) = true := by decide +kernel
theorem sh_1 : alB 18 (fun b => alB (Nat.succ (Nat.add 18 b)) (fun a => ckS a (Nat.add 18 b))) = true := by decide +kernel
theorem sh_2 : alB 18 (fun b => alB (Nat.succ (Nat.add 36 b)) (fun a => ckS a (Nat.add 36 b))) = true := by decide +kernel
theorem sh_3 : alB 18 (fun b => alB (Nat.succ (Nat.add 54 b)) (fun a => ckS a (Nat.add 54 b))) = true := by decide +kernel
theorem sh_4 : alB 18 (fun b => alB (Nat.succ (Nat.add 72 b)) (fun a => ckS a (Nat.add 72 b))) = true := by decide +kernel
theorem sh_5 : alB 18 (fun b => alB (Nat.succ (Nat.add 90 b)) (fun a => ckS a (Nat.add 90 b))) = true := by decide +kernel
theorem sh_6 : alB 18 (fun b => alB (Nat.succ (Nat.add 108 b)) (fun a => ckS a (Nat.add 108 b))) = true := by decide +kernel
theorem sh_7 : alB 18 (fun b => alB (Nat.succ (Nat.add 126 b)) (fun a => ckS a (Nat.add 126 b))) = true := by decide +kernel
theorem sh_8 : alB 145 (fun a => ckS a 144) = true := by decide +kernel
