/-! the factors of a table: what the model interpolates is what the class sums -/
def lgC (p i j : Nat) : Nat := basF p i p j * (dwF p i p ^ (p - 2) % p) % p
def lgD (p i j : Nat) : Nat := if j = 0 then (if i = 0 then 1 else 0) else (p - i ^ (p - 1 - j) % p) % p
theorem lg2 : ∀ i, i < 2 → ∀ j, j < 2 → lgC 2 i j = lgD 2 i j := by decide +kernel
theorem lg3 : ∀ i, i < 3 → ∀ j, j < 3 → lgC 3 i j = lgD 3 i j := by decide +kernel
theorem lg5 : ∀ i, i < 5 → ∀ j, j < 5 → lgC 5 i j = lgD 5 i j := by decide +kernel
theorem lg7 : ∀ i, i < 7 → ∀ j, j < 7 → lgC 7 i j = lgD 7 i j := by decide +kernel
theorem lg11 : ∀ i, i < 11 → ∀ j, j < 11 → lgC 11 i j = lgD 11 i j := by decide +kernel
theorem lg13 : ∀ i, i < 13 → ∀ j, j < 13 → lgC 13 i j = lgD 13 i j := by decide +kernel
