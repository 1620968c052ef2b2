/-! class and model side by side: spot -/
section PB
variable {u : tX6} {x y : Int32}
end PB
