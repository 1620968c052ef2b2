/-! class and model side by side: set -/
section PD
variable {u : tX6} {x y : Int32} {a : Nat → Int}
def loS (k : Nat) : Int := if k = 0 then 0 else if k = 1 then 1 else if k = 2 then 1 else if k = 3 then 2 else 50
def hiS (k : Nat) : Int := if k = 0 then 50 else if k = 1 then 40 else if k = 2 then 9 else if k = 3 then 9 else 2000
theorem loS_b (k : Nat) : 0 ≤ loS k ∧ loS k ≤ 50 := by
  unfold loS
  split
  · omega
  · split
    · omega
    · split
      · omega
      · split <;> omega
theorem hiS_b (k : Nat) : 9 ≤ hiS k ∧ hiS k ≤ 2000 := by
  unfold hiS
  split
  · omega
  · split
    · omega
    · split
      · omega
      · split <;> omega
theorem c_change {d : tX1} {k : Nat} {q : Int} (hk : k < 5) (hq : zr q) (hd : dR d a) : q_X1_changeSetting d (zI k) (zI q) = some (if loS k ≤ q ∧ q ≤ hiS k then (zI (a (15 + k)), upd d.1 k (zI q)) else (zI (-2), d.1)) := by
  have hlo : zLowI k = zI (loS k) := by
    rcases (show k = 0 ∨ k = 1 ∨ k = 2 ∨ k = 3 ∨ k = 4 by omega) with rfl | rfl | rfl | rfl | rfl <;> decide +kernel
  have hhi : zHighI k = zI (hiS k) := by
    rcases (show k = 0 ∨ k = 1 ∨ k = 2 ∨ k = 3 ∨ k = 4 by omega) with rfl | rfl | rfl | rfl | rfl <;> decide +kernel
  have b1 := loS_b k
  have b2 := hiS_b k
  unfold q_X1_changeSetting
  rw [c_isSetting (zr_s (by omega)), zb_some, if_pos (show 0 ≤ (k : Int) ∧ (k : Int) ≤ 4 by omega), if_neg (by decide), zg_N (by omega) (by omega), hlo]
  by_cases c1 : q < loS k
  · rw [if_pos (zlt_p hq (zr_s (by omega)) c1), if_neg (by omega), zm2]
  · rw [if_neg (zlt_n hq (zr_s (by omega)) (by omega)), zg_N (by omega) (by omega), hhi]
    by_cases c2 : q ≤ hiS k
    · rw [if_pos (zle_p hq (zr_s (by omega)) c2), zg_N (by omega) (by omega), zs_N (by omega) (by omega), hd.1 k hk, if_pos (by omega)]
    · rw [if_neg (zle_n hq (zr_s (by omega)) (by omega)), if_neg (by omega), zm2]
theorem aN_set {k : Nat} {q : Int} (h : aN 0 a) (hk : k < 5) (hq : loS k ≤ q ∧ q ≤ hiS k) : aN 0 (up a (15 + k) q) := by
  unfold aN at h ⊢
  have e : ∀ i, i ≠ 15 + k → up a (15 + k) q i = a i := fun i w => up_ne _ _ w
  rw [e 0 (by omega), e 1 (by omega), e 2 (by omega), e 3 (by omega), e 4 (by omega), e 5 (by omega), e 6 (by omega), e 7 (by omega), e 8 (by omega), e 9 (by omega), e 10 (by omega), e 11 (by omega), e 12 (by omega), e 13 (by omega), e 14 (by omega)]
  rcases (show k = 0 ∨ k = 1 ∨ k = 2 ∨ k = 3 ∨ k = 4 by omega) with rfl | rfl | rfl | rfl | rfl
  · have hq' : (0 : Int) ≤ q ∧ q ≤ 50 := hq
    rw [show up a (15 + 0) q 15 = q from up_at _ _ _, e 16 (by omega), e 17 (by omega), e 18 (by omega), e 19 (by omega)]
    omega
  · have hq' : (1 : Int) ≤ q ∧ q ≤ 40 := hq
    rw [show up a (15 + 1) q 16 = q from up_at _ _ _, e 15 (by omega), e 17 (by omega), e 18 (by omega), e 19 (by omega)]
    omega
  · have hq' : (1 : Int) ≤ q ∧ q ≤ 9 := hq
    rw [show up a (15 + 2) q 17 = q from up_at _ _ _, e 15 (by omega), e 16 (by omega), e 18 (by omega), e 19 (by omega)]
    omega
  · have hq' : (2 : Int) ≤ q ∧ q ≤ 9 := hq
    rw [show up a (15 + 3) q 18 = q from up_at _ _ _, e 15 (by omega), e 16 (by omega), e 17 (by omega), e 19 (by omega)]
    omega
  · have hq' : (50 : Int) ≤ q ∧ q ≤ 2000 := hq
    rw [show up a (15 + 4) q 19 = q from up_at _ _ _, e 15 (by omega), e 16 (by omega), e 17 (by omega), e 18 (by omega)]
    omega
theorem aN_s0 {k : Nat} (h : aN 0 a) (hk : k < 5) : 0 ≤ a (15 + k) := by
  unfold aN at h
  rcases (show k = 0 ∨ k = 1 ∨ k = 2 ∨ k = 3 ∨ k = 4 by omega) with rfl | rfl | rfl | rfl | rfl
  · show 0 ≤ a 15
    omega
  · show 0 ≤ a 16
    omega
  · show 0 ≤ a 17
    omega
  · show 0 ≤ a 18
    omega
  · show 0 ≤ a 19
    omega
end PD
