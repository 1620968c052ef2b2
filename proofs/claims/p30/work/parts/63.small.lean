/-! class and model side by side: giveUp, setWay, addSpares -/
theorem dR_num {d d' : tX1} {a b : Nat → Int} (h : dR d a) (h2 : 0 ≤ a 2 ∧ a 2 ≤ 20) (h8 : a 8 ≤ 6) (e2 : b 2 = a 2) (e8 : b 8 = a 8) (e14 : b 14 = a 14) (e : ∀ i, 15 ≤ i → i < 104 → b i = a i) (hd : d'.1 = d.1 ∧ d'.2.1 = d.2.1 ∧ d'.2.2.1 = d.2.2.1 ∧ d'.2.2.2.1 = d.2.2.2.1) (hl : d'.2.2.2.2.1 = d.2.2.2.2.1) (hn : nR d' b) : dR d' b := by
  obtain ⟨hk, hg⟩ := dR_k.mp h
  exact dR_k.mpr ⟨kR_num hk h2 h8 e2 e8 (fun i w1 w2 => e i w1 (by omega)) hd hn, by rw [hl]; exact lR_of hg e14 (fun i w1 w2 => e i (by omega) w2)⟩
section PS
variable {u : tX6} {x y : Int32}
end PS
