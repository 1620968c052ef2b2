/-! class and model side by side: quiet, giveUp -/
section PQ
variable {u : tX6} {x y : Int32}
theorem zm2 : (-2 : Int32) = zI (-2) := by decide +kernel
theorem zm3 : (-3 : Int32) = zI (-3) := by decide +kernel
theorem zm4 : (-4 : Int32) = zI (-4) := by decide +kernel
theorem zm1 : (-1 : Int32) = zI (-1) := by decide +kernel
theorem aEnds_b (a : Nat → Int) (n : Nat) : 0 ≤ zsum (aEnds a) n ∧ zsum (aEnds a) n ≤ 1 * n := zsum_le (fun k _ => by unfold aEnds; split <;> omega)
end PQ
