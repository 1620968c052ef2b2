/-! class and model side by side: unask -/
section PU
variable {u : tX6} {x y : Int32}
end PU
