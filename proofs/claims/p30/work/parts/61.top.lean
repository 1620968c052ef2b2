/-! class and model side by side: the relation between calls; the calls that only read -/
def tR (p : tX4) (t : Nat → Int32) (len : Int32) : Prop := ∃ m : Nat, m ≤ 80 ∧ p.2.1 = zI m ∧ len = zI m ∧ ∀ k, k < m → ∃ c : Int, (32 ≤ c ∧ c ≤ 126) ∧ p.1 k = zI c ∧ t k = zI c
def jR (g : tJ4) : Prop := g.2.1 = 0 ∧ ∃ m : Nat, m ≤ 16 ∧ g.2.2.2 = zI m
theorem zI_ex (x : Int32) : ∃ p : Int, zr p ∧ x = zI p := ⟨x.toInt, zr_of x, (zI_of x).symm⟩
section PT
variable {u : tX6} {x y : Int32}
end PT
