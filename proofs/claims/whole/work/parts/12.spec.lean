/-! ===== the mathematical picture: A is the row of all that is told ===== -/
/-- an order that counts -/
abbrev okO (A : Int → Int) (kind whose dd k i : Int) : Prop := A (430 + 5 * i + 0) = kind ∧ A (430 + 5 * i + (1 + kind)) = whose ∧ A (430 + 5 * i + 3) ≤ dd ∧ A (430 + 5 * i + 4) ≤ k
/-- the latest of the first n orders that count -/
def latF (A : Int → Int) (kind whose dd k : Int) : Nat → Int
  | 0 => -1
  | n + 1 => if okO A kind whose dd k (n : Int) ∧ (latF A kind whose dd k n < 0 ∨ A (430 + 5 * latF A kind whose dd k n + 3) ≤ A (430 + 5 * (n : Int) + 3)) then (n : Int) else latF A kind whose dd k n
theorem latF_rng (A : Int → Int) (kind whose dd k : Int) : ∀ n : Nat, -1 ≤ latF A kind whose dd k n ∧ latF A kind whose dd k n < n
  | 0 => by simp [latF]
  | n + 1 => by
    have h := latF_rng A kind whose dd k n
    unfold latF
    split <;> omega

