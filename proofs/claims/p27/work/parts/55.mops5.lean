/-- what a slot keeps, and what it gives back -/
def takV (w : mv) (q : Nat) : mv := fun j => if j = 687 + 688 * q then 1 else if 688 + 688 * q ≤ j ∧ j < 1375 + 688 * q then w (j - (688 + 688 * q)) else w j
def resV (w : mv) (q : Nat) : mv := fun j => if j < 687 then w (688 + 688 * q + j) else w j
section M5
variable {I : mj_I}
theorem mn_cg {n : Nat} {I1 : mj_I} {w w' : mv} (h : MN n I I1 w) (e : w = w') : MN n I I1 w' := e ▸ h
end M5
