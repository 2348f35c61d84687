/-! rings and periods of the places of up to 7 strands: all of them looked at -/
def bt (s p : Nat) : Nat := s / 2 ^ p % 2
def rgI (L : List Nat) : Nat → Nat → Nat → Nat
  | 0, seen, _ => seen
  | fu + 1, seen, place => if bt seen place = 1 then seen else rgI L fu (seen + 2 ^ place) (L.getD place 0)
def rgS (L : List Nat) (fu : Nat) : Nat → Nat
  | 0 => 0
  | k + 1 => rgI L fu (rgS L fu k) k
def rgF (L : List Nat) (fu : Nat) : Nat → Nat
  | 0 => 0
  | k + 1 => if bt (rgS L fu k) k = 0 then rgF L fu k + 1 else rgF L fu k
def rjR (L : List Nat) : Nat → List Nat
  | 0 => List.range L.length
  | k + 1 => if (rjR L k).getD k 0 = (rjR L k).getD (L.getD k 0) 0 then rjR L k else (rjR L k).map (fun x => if x = (rjR L k).getD (L.getD k 0) 0 then (rjR L k).getD k 0 else x)
def rjL (L : List Nat) : Nat → Nat
  | 0 => L.length
  | k + 1 => if (rjR L k).getD k 0 = (rjR L k).getD (L.getD k 0) 0 then rjL L k else rjL L k - 1
def roF (L : List Nat) (start : Nat) : Nat → Nat → Nat → Nat
  | 0, _, steps => steps
  | fu + 1, place, steps => if place = start then steps else roF L start fu (L.getD place 0) (steps + 1)
def rt (L : List Nat) (start : Nat) : Nat → Nat → Bool
  | 0, place => place == start
  | fu + 1, place => place == start || rt L start fu (L.getD place 0)
def lcF (one other : Nat) : Nat → Nat → Nat → Nat
  | 0, m, _ => m
  | fu + 1, m, i => if i < other ∧ m % other ≠ 0 then lcF one other fu (m + one) (i + 1) else m
def perC (L : List Nat) : Nat → Nat
  | 0 => 1
  | k + 1 => lcF (perC L k) (roF L k L.length (L.getD k 0) 1) 8 (perC L k) 1
def perM (L : List Nat) : Nat → Nat
  | 0 => 1
  | k + 1 => perM L k / Nat.gcd (perM L k) (roF L k L.length (L.getD k 0) 1) * roF L k L.length (L.getD k 0) 1
def fnd : List Nat → Nat → Nat → Nat
  | [], _, i => i
  | x :: r, p, i => if x = p then i else fnd r p (i + 1)
def invL (L : List Nat) : List Nat := (List.range L.length).map (fun p => fnd L p 0)
def homeL (L : List Nat) : Bool := (List.range L.length).all (fun s => L.getD s 0 == s)
def chk2 (L H : List Nat) : Bool := (rgF L L.length L.length == rgF H 128 L.length) && (rjL L L.length == rgF H 128 L.length) && (homeL L == (rgF H 128 L.length == L.length)) && (perC L L.length == perM H L.length) && (List.range L.length).all (fun k => rt H k L.length (H.getD k 0))
def chkP (L : List Nat) : Bool := chk2 L (invL L)
def en (n : Nat) (chk : List Nat → Bool) : Nat → List Nat → Bool
  | 0, acc => chk acc
  | k + 1, acc => (List.range n).all (fun x => acc.contains x || en n chk k (x :: acc))
theorem en_2 : en 2 chkP 2 [] = true := by decide +kernel
theorem en_3 : en 3 chkP 3 [] = true := by decide +kernel
theorem en_4 : en 4 chkP 4 [] = true := by decide +kernel
theorem en_5 : en 5 chkP 5 [] = true := by decide +kernel
