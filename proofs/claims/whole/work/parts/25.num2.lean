def pjb (r : Bool) : Int32 := if r then 1 else 0
theorem pjb_n {r : Bool} : narrow .boolean (.int (pjb r)) = .int (pjb r) := by cases r <;> decide
def pmOkb (t : Nat → Int64) (a b : Int32) (v : Int64) : Bool := if a < 0 then !decide (t b.toNatClampNeg + v < 0) else !decide (t a.toNatClampNeg - v < 0)
def pmRb (fr to : Nat → Int32) (va : Nat → Int64) : Nat → Nat → Bool → (Nat → Int64) → Bool × (Nat → Int64)
  | 0, _, r, t => (r, t)
  | k + 1, i, r, t => pmRb fr to va k (i + 1) (r && pmOkb t (fr i) (to i) (va i)) (pmT t (fr i) (to i) (va i))
