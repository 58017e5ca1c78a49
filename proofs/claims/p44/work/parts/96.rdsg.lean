/-- which command stands here -/
def cmR (f v : Int → Int) : Int := if isWR f v 7 = true then 0 else if isWR f v 8 = true then 1 else if isWR f v 9 = true then 2 else if isWR f v 11 = true then 3 else if isWR f v 12 = true then 4 else if isWR f v 13 = true then 5 else -1
theorem cmR_r (f v : Int → Int) : -1 ≤ cmR f v ∧ cmR f v ≤ 5 := by
  unfold cmR
  (repeat' split) <;> decide
def laS (sc : Int → Int) (n a b x y : Int) : Int → Int := up (up (up (up sc (4 * n) a) (4 * n + 1) b) (4 * n + 2) x) (4 * n + 3) y
