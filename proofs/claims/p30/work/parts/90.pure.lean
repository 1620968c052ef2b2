/-! every script -/
def a00 : Nat → Int := up (up (up (up (up (up (up (up (fun _ => 0) 3 6) 5 (-6)) 13 (-6)) 15 5) 16 10) 17 3) 18 5) 19 400
theorem a00_z {i : Nat} (h : i ≠ 3 ∧ i ≠ 5 ∧ i ≠ 13 ∧ (i < 15 ∨ 19 < i)) : a00 i = 0 := by
  unfold a00
  rw [up_ne _ _ (by omega), up_ne _ _ (by omega), up_ne _ _ (by omega), up_ne _ _ (by omega), up_ne _ _ (by omega), up_ne _ _ (by omega), up_ne _ _ (by omega), up_ne _ _ (by omega)]
theorem a00_r (i : Nat) : zr (a00 i) := zr_up (zr_up (zr_up (zr_up (zr_up (zr_up (zr_up (zr_up (fun _ => zr_s (by omega)) _ (zr_s (by omega))) _ (zr_s (by omega))) _ (zr_s (by omega))) _ (zr_s (by omega))) _ (zr_s (by omega))) _ (zr_s (by omega))) _ (zr_s (by omega))) _ (zr_s (by omega)) i
theorem aI_00 : aI 0 a00 := by
  refine ⟨a00_r, ?_, fun k hk => ?_, ⟨fun k hk => ?_, fun j k hk hjk => ?_⟩, fun k hk => ?_, fun k hk h14 => ?_⟩
  · unfold aN
    decide +kernel
  · rw [a00_z (by omega), a00_z (by omega)]
    omega
  · rw [a00_z (i := 8) (by omega)] at hk
    omega
  · rw [a00_z (i := 8) (by omega)] at hk
    omega
  · rw [a00_z (i := 2) (by omega)] at hk
    omega
  · rw [a00_z (i := 14) (by omega)] at h14
    omega
theorem dR_00 : dR iX1 a00 := by
  refine ⟨fun k hk => ?_, fun k hk => ?_, ⟨fun k hk => ?_, ?_⟩, ⟨fun k hk => ?_, ?_⟩, ⟨fun k hk => ?_, ?_, ?_⟩, ?_⟩
  · rcases (show k = 0 ∨ k = 1 ∨ k = 2 ∨ k = 3 ∨ k = 4 by omega) with rfl | rfl | rfl | rfl | rfl <;> decide +kernel
  · rw [a00_z (by omega)]
    rfl
  · rw [a00_z (i := 2) (by omega)] at hk
    exact absurd hk (Nat.not_lt_zero k)
  · rw [a00_z (by omega)]
    rfl
  · rw [a00_z (i := 8) (by omega)] at hk
    omega
  · rw [a00_z (by omega)]
    rfl
  · rw [a00_z (by omega), a00_z (by omega), a00_z (by omega)]
    exact ⟨rfl, rfl, rfl⟩
  · rw [a00_z (by omega)]
    rfl
  · rw [a00_z (by omega)]
    rfl
  · unfold nR
    decide +kernel
theorem zQ_00 : upd (upd (upd (upd (upd (upd (upd (upd (fun _ => 0) 3 6) 5 (-6)) 13 (-6)) 15 5) 16 10) 17 3) 18 5) 19 400 = zM a00 := by
  unfold a00
  rw [← zM_up, ← zM_up, ← zM_up, ← zM_up, ← zM_up, ← zM_up, ← zM_up, ← zM_up, z6]
  rfl
theorem GR_00 (ar : Nat → Nat → Nat) : GR (zM a00, fun _ => 0, fun _ => 0, fun _ => 0, fun _ => 0, iX6 ar) a00 := by
  refine ⟨⟨aI_00, by rw [a00_z (by omega)]; omega, dR_00, ⟨0, by omega, rfl⟩, rfl, 0, by omega, rfl⟩, fun i hi => rfl, fun k hk => ?_, fun k hk => ?_, fun k hk => ?_, fun k hk => ?_⟩
  · rw [a00_z (by omega)]
    rfl
  · rw [a00_z (i := 8) (by omega)] at hk
    omega
  · rw [a00_z (i := 2) (by omega)] at hk
    omega
  · have hM : aMany a00 = 0 := by
      unfold aMany
      rw [a00_z (i := 14) (by omega), if_neg (by omega)]
    rw [hM] at hk
    omega
theorem qT_ok {L : Nat} {xs : Nat → Int32} {k : Nat} {v : tLS} {a : Nat → Int} (h : GR v a) (h9 : a 0 + 300 ≤ 99999) : ∃ o a', qT L xs k v = some o ∧ GR o a' ∧ a' 0 ≤ a 0 + 300 := by
  obtain ⟨q, t, l, p, e, u⟩ := v
  obtain ⟨o, a', o1, o2, o3⟩ := g_turn (m := a 0 + 300) (nI k) (qcell L xs (2 * nI k)) (qcell L xs (2 * nI k + 1)) h h9 (Int.le_refl _)
  obtain ⟨hU, hQ, hT, hL, hP, hE⟩ := o2
  obtain ⟨r, r1, r2, r3⟩ := j_same (qcell L xs (2 * nI k + 1) >>> (3 &&& 31)) hU hQ hT hL hP hE
  unfold qT
  dsimp only
  rw [o1, zb_some, r1, zb_some, if_neg (show ¬ r.1 = 0 by rw [r2]; decide)]
  exact ⟨_, a', rfl, ⟨r3, hQ, hT, hL, hP, hE⟩, o3⟩
theorem qL_ok {L : Nat} {xs : Nat → Int32} : ∀ (n k : Nat) (v : tLS) (a : Nat → Int), GR v a → a 0 + 300 * n ≤ 99999 → qL L xs n k v = some () := by
  intro n
  induction n with
  | zero => intro k v a _ _; rfl
  | succ n ih =>
    intro k v a h h9
    obtain ⟨o, a', o1, o2, o3⟩ := qT_ok (L := L) (xs := xs) (k := k) h (by omega)
    unfold qL
    rw [o1, zb_some]
    exact ih (k + 1) o a' o2 (by omega)
theorem h_pure (L : Nat) (xs : Nat → Int32) (ar : Nat → Nat → Nat) (hL : L ≤ 260) : ∃ q0, q_L_ini (fun _ => 0) (fun _ => 0) (fun _ => 0) (fun _ => 0) (fun _ => 0) (iX6 ar) = some q0 ∧ qL L xs 36 0 (q0, fun _ => 0, fun _ => 0, fun _ => 0, fun _ => 0, iX6 ar) = some () := by
  refine ⟨zM a00, ?_, qL_ok 36 0 _ a00 (GR_00 ar) (by rw [a00_z (by omega)]; omega)⟩
  unfold q_L_ini zn
  rw [← zQ_00]
