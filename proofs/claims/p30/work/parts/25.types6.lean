abbrev tX6 : Type := tX1 × tX1 × tX2 × tX4 × tJ4
def wX6 (G : zG) (ad : Nat → Nat) (b : Nat) (u : tX6) : va_W := [(ad b, .inr (7, [.ref (ad (b + 1)), .ref (ad (b + 13)), .ref (ad (b + 25)), .ref (ad (b + 111)), .ref (ad (b + 116))]))] ++ (wX1 G ad (b + 1) u.1 ++ (wX1 G ad (b + 13) u.2.1 ++ (wX2 G ad (b + 25) u.2.2.1 ++ (wX4 G ad (b + 111) u.2.2.2.1 ++ (wJ4 G ad (b + 116) u.2.2.2.2)))))
def rX6_disk (G : zG) (ad : Nat → Nat) (b : Nat) (u : tX6) : va_W := ([(ad b, .inr (7, [.ref (ad (b + 1)), .ref (ad (b + 13)), .ref (ad (b + 25)), .ref (ad (b + 111)), .ref (ad (b + 116))]))]) ++ (wX1 G ad (b + 13) u.2.1 ++ (wX2 G ad (b + 25) u.2.2.1 ++ (wX4 G ad (b + 111) u.2.2.2.1 ++ (wJ4 G ad (b + 116) u.2.2.2.2))))
theorem pmX6_disk (G : zG) (ad : Nat → Nat) (b : Nat) (u : tX6) : (wX6 G ad b u).Perm (wX1 G ad (b + 1) u.1 ++ rX6_disk G ad b u) := z_pmid (X := [(ad b, .inr (7, [.ref (ad (b + 1)), .ref (ad (b + 13)), .ref (ad (b + 25)), .ref (ad (b + 111)), .ref (ad (b + 116))]))]) (Y := wX1 G ad (b + 13) u.2.1 ++ (wX2 G ad (b + 25) u.2.2.1 ++ (wX4 G ad (b + 111) u.2.2.2.1 ++ (wJ4 G ad (b + 116) u.2.2.2.2))))
theorem pnX6_disk (G : zG) (ad : Nat → Nat) (b : Nat) (u : tX6) (v : tX1) : (wX1 G ad (b + 1) v ++ rX6_disk G ad b u).Perm (wX6 G ad b (v, u.2.1, u.2.2.1, u.2.2.2.1, u.2.2.2.2)) := (pmX6_disk G ad b (v, u.2.1, u.2.2.1, u.2.2.2.1, u.2.2.2.2)).symm
def rX6_trial (G : zG) (ad : Nat → Nat) (b : Nat) (u : tX6) : va_W := ([(ad b, .inr (7, [.ref (ad (b + 1)), .ref (ad (b + 13)), .ref (ad (b + 25)), .ref (ad (b + 111)), .ref (ad (b + 116))]))] ++ (wX1 G ad (b + 1) u.1)) ++ (wX2 G ad (b + 25) u.2.2.1 ++ (wX4 G ad (b + 111) u.2.2.2.1 ++ (wJ4 G ad (b + 116) u.2.2.2.2)))
theorem pmX6_trial (G : zG) (ad : Nat → Nat) (b : Nat) (u : tX6) : (wX6 G ad b u).Perm (wX1 G ad (b + 13) u.2.1 ++ rX6_trial G ad b u) := by
  have h := z_pmid (X := [(ad b, .inr (7, [.ref (ad (b + 1)), .ref (ad (b + 13)), .ref (ad (b + 25)), .ref (ad (b + 111)), .ref (ad (b + 116))]))] ++ (wX1 G ad (b + 1) u.1)) (wc := wX1 G ad (b + 13) u.2.1) (Y := wX2 G ad (b + 25) u.2.2.1 ++ (wX4 G ad (b + 111) u.2.2.2.1 ++ (wJ4 G ad (b + 116) u.2.2.2.2)))
  rw [List.append_assoc] at h
  exact h
theorem pnX6_trial (G : zG) (ad : Nat → Nat) (b : Nat) (u : tX6) (v : tX1) : (wX1 G ad (b + 13) v ++ rX6_trial G ad b u).Perm (wX6 G ad b (u.1, v, u.2.2.1, u.2.2.2.1, u.2.2.2.2)) := (pmX6_trial G ad b (u.1, v, u.2.2.1, u.2.2.2.1, u.2.2.2.2)).symm
def rX6_history (G : zG) (ad : Nat → Nat) (b : Nat) (u : tX6) : va_W := ([(ad b, .inr (7, [.ref (ad (b + 1)), .ref (ad (b + 13)), .ref (ad (b + 25)), .ref (ad (b + 111)), .ref (ad (b + 116))]))] ++ (wX1 G ad (b + 1) u.1 ++ (wX1 G ad (b + 13) u.2.1))) ++ (wX4 G ad (b + 111) u.2.2.2.1 ++ (wJ4 G ad (b + 116) u.2.2.2.2))
theorem pmX6_history (G : zG) (ad : Nat → Nat) (b : Nat) (u : tX6) : (wX6 G ad b u).Perm (wX2 G ad (b + 25) u.2.2.1 ++ rX6_history G ad b u) := by
  have h := z_pmid (X := [(ad b, .inr (7, [.ref (ad (b + 1)), .ref (ad (b + 13)), .ref (ad (b + 25)), .ref (ad (b + 111)), .ref (ad (b + 116))]))] ++ (wX1 G ad (b + 1) u.1 ++ (wX1 G ad (b + 13) u.2.1))) (wc := wX2 G ad (b + 25) u.2.2.1) (Y := wX4 G ad (b + 111) u.2.2.2.1 ++ (wJ4 G ad (b + 116) u.2.2.2.2))
  rw [List.append_assoc] at h
  exact h
theorem pnX6_history (G : zG) (ad : Nat → Nat) (b : Nat) (u : tX6) (v : tX2) : (wX2 G ad (b + 25) v ++ rX6_history G ad b u).Perm (wX6 G ad b (u.1, u.2.1, v, u.2.2.2.1, u.2.2.2.2)) := (pmX6_history G ad b (u.1, u.2.1, v, u.2.2.2.1, u.2.2.2.2)).symm
def rX6_plan (G : zG) (ad : Nat → Nat) (b : Nat) (u : tX6) : va_W := ([(ad b, .inr (7, [.ref (ad (b + 1)), .ref (ad (b + 13)), .ref (ad (b + 25)), .ref (ad (b + 111)), .ref (ad (b + 116))]))] ++ (wX1 G ad (b + 1) u.1 ++ (wX1 G ad (b + 13) u.2.1 ++ (wX2 G ad (b + 25) u.2.2.1)))) ++ (wJ4 G ad (b + 116) u.2.2.2.2)
theorem pmX6_plan (G : zG) (ad : Nat → Nat) (b : Nat) (u : tX6) : (wX6 G ad b u).Perm (wX4 G ad (b + 111) u.2.2.2.1 ++ rX6_plan G ad b u) := by
  have h := z_pmid (X := [(ad b, .inr (7, [.ref (ad (b + 1)), .ref (ad (b + 13)), .ref (ad (b + 25)), .ref (ad (b + 111)), .ref (ad (b + 116))]))] ++ (wX1 G ad (b + 1) u.1 ++ (wX1 G ad (b + 13) u.2.1 ++ (wX2 G ad (b + 25) u.2.2.1)))) (wc := wX4 G ad (b + 111) u.2.2.2.1) (Y := wJ4 G ad (b + 116) u.2.2.2.2)
  rw [List.append_assoc] at h
  exact h
theorem pnX6_plan (G : zG) (ad : Nat → Nat) (b : Nat) (u : tX6) (v : tX4) : (wX4 G ad (b + 111) v ++ rX6_plan G ad b u).Perm (wX6 G ad b (u.1, u.2.1, u.2.2.1, v, u.2.2.2.2)) := (pmX6_plan G ad b (u.1, u.2.1, u.2.2.1, v, u.2.2.2.2)).symm
def rX6_line (G : zG) (ad : Nat → Nat) (b : Nat) (u : tX6) : va_W := ([(ad b, .inr (7, [.ref (ad (b + 1)), .ref (ad (b + 13)), .ref (ad (b + 25)), .ref (ad (b + 111)), .ref (ad (b + 116))]))] ++ (wX1 G ad (b + 1) u.1 ++ (wX1 G ad (b + 13) u.2.1 ++ (wX2 G ad (b + 25) u.2.2.1 ++ (wX4 G ad (b + 111) u.2.2.2.1))))) ++ (([] : va_W))
theorem pmX6_line (G : zG) (ad : Nat → Nat) (b : Nat) (u : tX6) : (wX6 G ad b u).Perm (wJ4 G ad (b + 116) u.2.2.2.2 ++ rX6_line G ad b u) := by
  have h := z_pmid (X := [(ad b, .inr (7, [.ref (ad (b + 1)), .ref (ad (b + 13)), .ref (ad (b + 25)), .ref (ad (b + 111)), .ref (ad (b + 116))]))] ++ (wX1 G ad (b + 1) u.1 ++ (wX1 G ad (b + 13) u.2.1 ++ (wX2 G ad (b + 25) u.2.2.1 ++ (wX4 G ad (b + 111) u.2.2.2.1))))) (wc := wJ4 G ad (b + 116) u.2.2.2.2) (Y := ([] : va_W))
  rw [List.append_assoc] at h
  exact h
theorem pnX6_line (G : zG) (ad : Nat → Nat) (b : Nat) (u : tX6) (v : tJ4) : (wJ4 G ad (b + 116) v ++ rX6_line G ad b u).Perm (wX6 G ad b (u.1, u.2.1, u.2.2.1, u.2.2.2.1, v)) := (pmX6_line G ad b (u.1, u.2.1, u.2.2.1, u.2.2.2.1, v)).symm
theorem z_x6 {w : Nat → va_W} {l1 l2 : List Nat} (h : l1.Perm l2) : ((l1.map w).flatten).Perm ((l2.map w).flatten) := (h.map w).flatten
def rX6_history_disk (G : zG) (ad : Nat → Nat) (b : Nat) (u : tX6) : va_W := [(ad b, .inr (7, [.ref (ad (b + 1)), .ref (ad (b + 13)), .ref (ad (b + 25)), .ref (ad (b + 111)), .ref (ad (b + 116))]))] ++ wX1 G ad (b + 13) u.2.1 ++ wX4 G ad (b + 111) u.2.2.2.1 ++ wJ4 G ad (b + 116) u.2.2.2.2
theorem pmX6_history_disk (G : zG) (ad : Nat → Nat) (b : Nat) (u : tX6) : (wX6 G ad b u).Perm ((wX2 G ad (b + 25) u.2.2.1 ++ wX1 G ad (b + 1) u.1) ++ rX6_history_disk G ad b u) := by
  have h := z_x6 (w := fun k => match k with | 0 => [(ad b, .inr (7, [.ref (ad (b + 1)), .ref (ad (b + 13)), .ref (ad (b + 25)), .ref (ad (b + 111)), .ref (ad (b + 116))]))] | 1 => wX1 G ad (b + 1) u.1 | 2 => wX1 G ad (b + 13) u.2.1 | 3 => wX2 G ad (b + 25) u.2.2.1 | 4 => wX4 G ad (b + 111) u.2.2.2.1 | _ => wJ4 G ad (b + 116) u.2.2.2.2) (l1 := [0, 1, 2, 3, 4, 5]) (l2 := [3, 1, 0, 2, 4, 5]) (by decide)
  simp only [List.map_cons, List.map_nil, List.flatten_cons, List.flatten_nil, List.append_nil] at h
  simp only [wX6, rX6_history_disk, List.append_assoc] at h ⊢
  exact h
theorem pnX6_history_disk (G : zG) (ad : Nat → Nat) (b : Nat) (u : tX6) (v1 : tX2) (v2 : tX1) : ((wX2 G ad (b + 25) v1 ++ wX1 G ad (b + 1) v2) ++ rX6_history_disk G ad b u).Perm (wX6 G ad b (v2, u.2.1, v1, u.2.2.2.1, u.2.2.2.2)) := (pmX6_history_disk G ad b (v2, u.2.1, v1, u.2.2.2.1, u.2.2.2.2)).symm
def rX6_trial_disk (G : zG) (ad : Nat → Nat) (b : Nat) (u : tX6) : va_W := [(ad b, .inr (7, [.ref (ad (b + 1)), .ref (ad (b + 13)), .ref (ad (b + 25)), .ref (ad (b + 111)), .ref (ad (b + 116))]))] ++ wX2 G ad (b + 25) u.2.2.1 ++ wX4 G ad (b + 111) u.2.2.2.1 ++ wJ4 G ad (b + 116) u.2.2.2.2
theorem pmX6_trial_disk (G : zG) (ad : Nat → Nat) (b : Nat) (u : tX6) : (wX6 G ad b u).Perm ((wX1 G ad (b + 13) u.2.1 ++ wX1 G ad (b + 1) u.1) ++ rX6_trial_disk G ad b u) := by
  have h := z_x6 (w := fun k => match k with | 0 => [(ad b, .inr (7, [.ref (ad (b + 1)), .ref (ad (b + 13)), .ref (ad (b + 25)), .ref (ad (b + 111)), .ref (ad (b + 116))]))] | 1 => wX1 G ad (b + 1) u.1 | 2 => wX1 G ad (b + 13) u.2.1 | 3 => wX2 G ad (b + 25) u.2.2.1 | 4 => wX4 G ad (b + 111) u.2.2.2.1 | _ => wJ4 G ad (b + 116) u.2.2.2.2) (l1 := [0, 1, 2, 3, 4, 5]) (l2 := [2, 1, 0, 3, 4, 5]) (by decide)
  simp only [List.map_cons, List.map_nil, List.flatten_cons, List.flatten_nil, List.append_nil] at h
  simp only [wX6, rX6_trial_disk, List.append_assoc] at h ⊢
  exact h
theorem pnX6_trial_disk (G : zG) (ad : Nat → Nat) (b : Nat) (u : tX6) (v1 : tX1) (v2 : tX1) : ((wX1 G ad (b + 13) v1 ++ wX1 G ad (b + 1) v2) ++ rX6_trial_disk G ad b u).Perm (wX6 G ad b (v2, v1, u.2.2.1, u.2.2.2.1, u.2.2.2.2)) := (pmX6_trial_disk G ad b (v2, v1, u.2.2.1, u.2.2.2.1, u.2.2.2.2)).symm
