/-! class and model side by side: the relation between calls; the calls that only read -/
def tR (p : tX4) (t : Nat → Int32) (len : Int32) : Prop := ∃ m : Nat, m ≤ 80 ∧ p.2.1 = zI m ∧ len = zI m ∧ ∀ k, k < m → ∃ c : Int, (32 ≤ c ∧ c ≤ 126) ∧ p.1 k = zI c ∧ t k = zI c
def jR (g : tJ4) : Prop := g.2.1 = 0 ∧ ∃ m : Nat, m ≤ 16 ∧ g.2.2.2 = zI m
def TR (u : tX6) (v : tX7) : Prop := ∃ a : Nat → Int, aI 0 a ∧ a 0 ≤ 99999 ∧ v.1 = zM a ∧ dR u.1 a ∧ hR u.2.2.1 v.2.2.1 v.2.2.2.1 ∧ tR u.2.2.2.1 v.2.2.2.2.1 v.2.2.2.2.2.1 ∧ jR u.2.2.2.2
theorem zI_ex (x : Int32) : ∃ p : Int, zr p ∧ x = zI p := ⟨x.toInt, zr_of x, (zI_of x).symm⟩
section PT
variable {u : tX6} {v : tX7} {x y : Int32}
theorem t_13 (h : TR u v) : ∃ o, qL_13 x y u v = some o ∧ TR o.1 o.2 := by
  obtain ⟨a, hI, h9, hv, hd, hh, ht, hj⟩ := id h
  obtain ⟨st, r⟩ := v
  dsimp only at hv
  subst hv
  have hN := hI.2.1
  unfold aN at hN
  unfold qL_13 q_X6_entries q_X7_entries
  rw [zb_some, m_entriesMany (hI.1 14), zb_some, zb_some, hd.2.2.2.2.1.2.2, if_pos (show zI (mn (a 14)) = zI (aMany a) by unfold mn aMany; congr 1; split <;> split <;> omega)]
  exact ⟨_, rfl, h⟩
theorem t_16 (h : TR u v) : ∃ o, qL_16 x y u v = some o ∧ TR o.1 o.2 := by
  obtain ⟨a, hI, h9, hv, hd, hh, ht, hj⟩ := id h
  obtain ⟨st, r⟩ := v
  dsimp only at hv
  subst hv
  unfold qL_16 q_X6_overdue q_X7_overdue
  rw [c_overdueSpans hI hd, zb_some, zb_some, m_overdueMany hI, zb_some, zb_some, if_pos rfl]
  exact ⟨_, rfl, h⟩
theorem t_17 (h : TR u v) : ∃ o, qL_17 x y u v = some o ∧ TR o.1 o.2 := by
  obtain ⟨a, hI, h9, hv, hd, hh, ht, hj⟩ := id h
  obtain ⟨st, r⟩ := v
  dsimp only at hv
  subst hv
  unfold qL_17 q_X6_nextCheck q_X7_nextCheck
  rw [c_chooseSpan hI hd, zb_some, zb_some, m_nextSpan hI, zb_some, zb_some, if_pos rfl]
  exact ⟨_, rfl, h⟩
theorem t_10 (h : TR u v) : ∃ o, qL_10 x y u v = some o ∧ TR o.1 o.2 := by
  obtain ⟨a, hI, h9, hv, hd, hh, ht, hj⟩ := id h
  obtain ⟨st, r⟩ := v
  dsimp only at hv
  subst hv
  obtain ⟨p, hp, rfl⟩ := zI_ex x
  unfold qL_10 q_X6_setting q_X7_setting
  rw [c_isSetting hp, m_isSetting hp, zb_some, zb_some]
  by_cases c : 0 ≤ p ∧ p ≤ 4
  · obtain ⟨k, rfl⟩ : ∃ k : Nat, p = k := ⟨p.toNat, by omega⟩
    rw [if_pos c, if_neg (by decide), zg_N (by omega) (by omega), if_neg (by decide), zg_M (i := 15 + k) (show (15 : Int32) + zI k = _ from zI_k 15 k) (by omega), zb_some, zb_some, hd.1 k (by omega), if_pos rfl]
    exact ⟨_, rfl, h⟩
  · rw [if_neg c, if_pos rfl, zb_some, if_pos rfl, zb_some, if_pos rfl]
    exact ⟨_, rfl, h⟩
theorem t_9 (h : TR u v) : ∃ o, qL_9 x y u v = some o ∧ TR o.1 o.2 := by
  obtain ⟨a, hI, h9, hv, hd, hh, ht, hj⟩ := id h
  obtain ⟨st, r⟩ := v
  dsimp only at hv
  subst hv
  obtain ⟨p, hp, rfl⟩ := zI_ex x
  obtain ⟨q1, q2, q3, q4, q5, n1, n2, n3, n4, n5, n6, n7, n8, n9, n10, n11, n12⟩ := id hd
  unfold qL_9 q_X6_count q_X7_count
  rw [show q_X7_within (zI p) 0 12 = _ from m_within hp (l := 0) (h := 12) (zr_s (by omega)) (zr_s (by omega)), zb_some]
  by_cases c : 0 ≤ p ∧ p ≤ 12
  · obtain ⟨k, rfl⟩ : ∃ k : Nat, p = k := ⟨p.toNat, by omega⟩
    have hk : k < 13 := by omega
    have e : q_X1_numberOfDisk u.1 (zI k) = some (zI (a k)) := by
      unfold q_X1_numberOfDisk
      rw [n1, n2, n3, n4, n5, n6, n7, n9, n10, n11, n12, q3.2, q4.2]
      rcases (show k = 0 ∨ k = 1 ∨ k = 2 ∨ k = 3 ∨ k = 4 ∨ k = 5 ∨ k = 6 ∨ k = 7 ∨ k = 8 ∨ k = 9 ∨ k = 10 ∨ k = 11 ∨ k = 12 by omega) with rfl | rfl | rfl | rfl | rfl | rfl | rfl | rfl | rfl | rfl | rfl | rfl | rfl <;> rfl
    rw [if_pos c, if_neg (show ¬ zI (k : Nat) < 0 from zlt_n (y := 0) hp (zr_s (by omega)) (by omega)), if_pos (show zI (k : Nat) < 13 from zlt_p (y := 13) hp (zr_s (by omega)) (by omega)), e, zb_some, zb_some, if_neg (by decide), zg_M (i := k) rfl (by omega), zb_some, if_pos rfl]
    exact ⟨_, rfl, h⟩
  · rw [if_neg c, if_pos rfl]
    by_cases c2 : p < 0
    · rw [if_pos (show zI p < 0 from zlt_p (y := 0) hp (zr_s (by omega)) c2), zb_some, zb_some, if_pos rfl]
      exact ⟨_, rfl, h⟩
    · rw [if_neg (show ¬ zI p < 0 from zlt_n (y := 0) hp (zr_s (by omega)) (by omega)), if_neg (show ¬ zI p < 13 from zlt_n (y := 13) hp (zr_s (by omega)) (by omega)), zb_some, zb_some, if_pos rfl]
      exact ⟨_, rfl, h⟩
theorem t_22 (h : TR u v) : ∃ o, qL_22 x y u v = some o ∧ TR o.1 o.2 := by
  obtain ⟨a, hI, h9, hv, hd, hh, ⟨m, hm, e1, e2, hc⟩, hj⟩ := id h
  unfold qL_22 q_X6_clearText q_X7_clearText q_X4_clear
  rw [zb_some, zb_some, zb_some]
  dsimp only
  rw [e1, e2, if_pos rfl]
  exact ⟨_, rfl, a, hI, h9, hv, hd, hh, ⟨0, by omega, rfl, rfl, fun k hk => by omega⟩, hj⟩
end PT
