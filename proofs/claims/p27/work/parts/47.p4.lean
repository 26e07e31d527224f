/-! ===== the reference's plan ===== -/
/-- c is the best of those below i who are not done -/
def NxI (f : Nat → Int32) (dn : Nat → Int32) (i : Nat) (c : Option Nat) : Prop :=
  match c with
  | none => ∀ r, r < i → ¬ dn r = 0
  | some b => b < i ∧ dn b = 0 ∧ ∀ r, r < i → dn r = 0 → (f b).toInt < (f r).toInt ∨ ((f b).toInt = (f r).toInt ∧ b ≤ r)
theorem z_10 : ¬ (1 : Int32) = 0 := by decide
