/-! every run of calls -/
section PEND
variable {u : tX6} {v : tX7}
theorem t_S {x a1 a2 : Int32} (h : TR u v) : ∃ o, qL_S x a1 a2 u v = some o ∧ TR o.1 o.2 := by
  unfold qL_S
  by_cases c0 : x = 0
  · rw [if_pos c0]
    exact t_0 h
  rw [if_neg c0]
  by_cases c1 : x = 1
  · rw [if_pos c1]
    exact t_1 h
  rw [if_neg c1]
  by_cases c2 : x = 2
  · rw [if_pos c2]
    exact t_2 h
  rw [if_neg c2]
  by_cases c3 : x = 3
  · rw [if_pos c3]
    exact t_3 h
  rw [if_neg c3]
  by_cases c4 : x = 4
  · rw [if_pos c4]
    exact t_4 h
  rw [if_neg c4]
  by_cases c5 : x = 5
  · rw [if_pos c5]
    exact t_5 h
  rw [if_neg c5]
  by_cases c6 : x = 6
  · rw [if_pos c6]
    exact t_6 h
  rw [if_neg c6]
  by_cases c7 : x = 7
  · rw [if_pos c7]
    exact t_7 h
  rw [if_neg c7]
  by_cases c8 : x = 8
  · rw [if_pos c8]
    exact t_8 h
  rw [if_neg c8]
  by_cases c9 : x = 9
  · rw [if_pos c9]
    exact t_9 h
  rw [if_neg c9]
  by_cases c10 : x = 10
  · rw [if_pos c10]
    exact t_10 h
  rw [if_neg c10]
  by_cases c11 : x = 11
  · rw [if_pos c11]
    exact t_11 h
  rw [if_neg c11]
  by_cases c12 : x = 12
  · rw [if_pos c12]
    exact t_12 h
  rw [if_neg c12]
  by_cases c13 : x = 13
  · rw [if_pos c13]
    exact t_13 h
  rw [if_neg c13]
  by_cases c14 : x = 14
  · rw [if_pos c14]
    exact t_14 h
  rw [if_neg c14]
  by_cases c15 : x = 15
  · rw [if_pos c15]
    exact t_15 h
  rw [if_neg c15]
  by_cases c16 : x = 16
  · rw [if_pos c16]
    exact t_16 h
  rw [if_neg c16]
  by_cases c17 : x = 17
  · rw [if_pos c17]
    exact t_17 h
  rw [if_neg c17]
  by_cases c18 : x = 18
  · rw [if_pos c18]
    exact t_18 h
  rw [if_neg c18]
  by_cases c19 : x = 19
  · rw [if_pos c19]
    exact t_19 h
  rw [if_neg c19]
  by_cases c20 : x = 20
  · rw [if_pos c20]
    exact t_20 h
  rw [if_neg c20]
  by_cases c21 : x = 21
  · rw [if_pos c21]
    exact t_21 h
  rw [if_neg c21]
  by_cases c22 : x = 22
  · rw [if_pos c22]
    exact t_22 h
  rw [if_neg c22]
  by_cases c23 : x = 23
  · rw [if_pos c23]
    exact t_23 h
  rw [if_neg c23]
  by_cases c24 : x = 24
  · rw [if_pos c24]
    exact t_24 h
  rw [if_neg c24]
  by_cases c25 : x = 25
  · rw [if_pos c25]
    exact t_25 h
  rw [if_neg c25]
  by_cases c26 : x = 26
  · rw [if_pos c26]
    exact t_26 h
  rw [if_neg c26]
  exact ⟨_, rfl, h⟩
def a00 : Nat → Int := up (up (up (up (up (up (up (up (fun _ => 0) 3 6) 5 (-6)) 13 (-6)) 15 5) 16 10) 17 3) 18 5) 19 400
theorem a00_z {i : Nat} (h : i ≠ 3 ∧ i ≠ 5 ∧ i ≠ 13 ∧ (i < 15 ∨ 19 < i)) : a00 i = 0 := by
  unfold a00
  rw [up_ne _ _ (by omega), up_ne _ _ (by omega), up_ne _ _ (by omega), up_ne _ _ (by omega), up_ne _ _ (by omega), up_ne _ _ (by omega), up_ne _ _ (by omega), up_ne _ _ (by omega)]
theorem a00_r (i : Nat) : zr (a00 i) := zr_up (zr_up (zr_up (zr_up (zr_up (zr_up (zr_up (zr_up (fun _ => zr_s (by omega)) _ (zr_s (by omega))) _ (zr_s (by omega))) _ (zr_s (by omega))) _ (zr_s (by omega))) _ (zr_s (by omega))) _ (zr_s (by omega))) _ (zr_s (by omega))) _ (zr_s (by omega)) i
theorem aI_00 : aI 0 a00 := by
  refine ⟨a00_r, ?_, fun k hk => ?_, ⟨fun k hk => ?_, fun j k hk hjk => ?_⟩, fun k hk => ?_, fun k hk h14 => ?_⟩
  · unfold aN
    decide +kernel
  · rw [a00_z (by omega), a00_z (by omega)]
    omega
  · rw [a00_z (i := 8) (by omega)] at hk
    omega
  · rw [a00_z (i := 8) (by omega)] at hk
    omega
  · rw [a00_z (i := 2) (by omega)] at hk
    omega
  · rw [a00_z (i := 14) (by omega)] at h14
    omega
theorem zM_00 : iX7.1 = zM a00 := by
  unfold a00
  rw [← zM_up, ← zM_up, ← zM_up, ← zM_up, ← zM_up, ← zM_up, ← zM_up, ← zM_up]
  show upd (upd (upd (upd (upd (upd (upd (upd (fun _ => 0) 3 6) 5 (-6)) 13 (-6)) 15 5) 16 10) 17 3) 18 5) 19 400 = _
  rw [z6]
  rfl
theorem dR_00 : dR iX1 a00 := by
  refine ⟨fun k hk => ?_, fun k hk => ?_, ⟨fun k hk => ?_, ?_⟩, ⟨fun k hk => ?_, ?_⟩, ⟨fun k hk => ?_, ?_, ?_⟩, ?_⟩
  · rcases (show k = 0 ∨ k = 1 ∨ k = 2 ∨ k = 3 ∨ k = 4 by omega) with rfl | rfl | rfl | rfl | rfl <;> decide +kernel
  · rw [a00_z (by omega)]
    rfl
  · rw [a00_z (i := 2) (by omega)] at hk
    exact absurd hk (Nat.not_lt_zero k)
  · rw [a00_z (by omega)]
    rfl
  · rw [a00_z (i := 8) (by omega)] at hk
    omega
  · rw [a00_z (by omega)]
    rfl
  · rw [a00_z (by omega), a00_z (by omega), a00_z (by omega)]
    exact ⟨rfl, rfl, rfl⟩
  · rw [a00_z (by omega)]
    rfl
  · rw [a00_z (by omega)]
    rfl
  · unfold nR
    decide +kernel
theorem TR_00 (ar : Nat → Nat → Nat) : TR (iX6 ar) iX7 := ⟨a00, aI_00, by rw [a00_z (by omega)]; omega, zM_00, dR_00, ⟨0, by omega, rfl, rfl, fun i hi => absurd hi (Nat.not_lt_zero i)⟩, ⟨0, by omega, rfl, rfl, fun k hk => absurd hk (Nat.not_lt_zero k)⟩, rfl, 0, by omega, rfl⟩
theorem qL_ok {L : Nat} {xs : Nat → Int32} : ∀ (n j : Nat) (u : tX6) (v : tX7), TR u v → j ≤ L → L < j + 3 * n → qL n L xs j u v = some () := by
  intro n
  induction n with
  | zero => intro j u v _ h1 h2; omega
  | succ n ih =>
    intro j u v h h1 h2
    unfold qL
    by_cases c : j + 3 ≤ L
    · obtain ⟨o, ho, ht⟩ := t_S (x := xs j &&& 31) (a1 := xs (j + 1)) (a2 := xs (j + 2)) h
      rw [if_pos c, ho, zb_some]
      exact ih (j + 3) o.1 o.2 ht c (by omega)
    · rw [if_neg c]
theorem h_pure (L : Nat) (xs : Nat → Int32) (ar : Nat → Nat → Nat) (hL : L ≤ 1536) : qL 600 L xs 0 (iX6 ar) iX7 = some () := qL_ok 600 0 _ _ (TR_00 ar) (Nat.zero_le _) (by omega)
end PEND
