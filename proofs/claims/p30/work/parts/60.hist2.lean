/-! the saved rows: the class's drafts and rows against the model's record -/
/-- a saved row of the model -/
def rowR (d : tX1) (hh : Nat → Int32) (i : Nat) : Prop := ∃ b : Nat → Int, aI 0 b ∧ b 0 ≤ 99999 ∧ dR d b ∧ ∀ k, k < 104 → hh (104 * i + k) = zI (b k)
def hR (w : tX2) (hh : Nat → Int32) (rec : Int32) : Prop := ∃ n : Nat, n ≤ 6 ∧ rec = zI n ∧ w.2.2 = zI n ∧ ∀ i, i < n → rowR (w.2.1 i) hh i
section PH
variable {a : Nat → Int} {kept hh : Nat → Int32} {rec : Int32} {r : (Nat → Int32) × Int32 × Int32 × Int32 × Int32 × Int32 × Int32}
end PH
