/-! the model's leaves over whole numbers -/
/-- what holds of the model's row of a disk -/
def aI (a : Nat → Int) : Prop := (∀ i, zr (a i)) ∧ (0 ≤ a 0 ∧ a 0 ≤ 110000) ∧ (0 ≤ a 1 ∧ a 1 ≤ 50) ∧ (0 ≤ a 2 ∧ a 2 ≤ 20) ∧ (0 ≤ a 3 ∧ a 3 ≤ 50) ∧ (0 ≤ a 4 ∧ a 4 ≤ 2) ∧ (a 5 = -6 ∨ 0 ≤ a 5 ∧ a 5 ≤ 7) ∧ (0 ≤ a 6 ∧ a 6 ≤ a 0) ∧ (0 ≤ a 7 ∧ a 7 ≤ 2000) ∧ (0 ≤ a 8 ∧ a 8 ≤ 6) ∧ (0 ≤ a 9 ∧ a 9 ≤ a 0) ∧ (0 ≤ a 10 ∧ a 10 ≤ a 0) ∧ (0 ≤ a 11 ∧ a 11 ≤ 20 * a 0) ∧ (0 ≤ a 12 ∧ a 12 ≤ a 0) ∧ (a 13 = -6 ∨ 0 ≤ a 13 ∧ a 13 ≤ 7) ∧ (0 ≤ a 14 ∧ a 14 ≤ 22 * a 0) ∧
  ((0 ≤ a 15 ∧ a 15 ≤ 50) ∧ (1 ≤ a 16 ∧ a 16 ≤ 40) ∧ (1 ≤ a 17 ∧ a 17 ≤ 9) ∧ (2 ≤ a 18 ∧ a 18 ≤ 9) ∧ (50 ≤ a 19 ∧ a 19 ≤ 2000)) ∧
  (∀ k : Nat, k < 8 → 0 ≤ a (20 + k) ∧ a (20 + k) ≤ a 0) ∧
  (∀ k : Nat, (k : Int) < a 8 → 0 ≤ a (28 + k) ∧ a (28 + k) ≤ 7) ∧
  (∀ j k : Nat, (k : Int) < a 8 → j < k → a (28 + j) ≠ a (28 + k)) ∧
  (∀ k : Nat, (k : Int) < a 2 → (0 ≤ a (34 + 2 * k) ∧ a (34 + 2 * k) ≤ 7) ∧ 1 ≤ a (34 + 2 * k + 1) ∧ a (34 + 2 * k + 1) ≤ 9) ∧
  (∀ k : Nat, k < 10 → (k : Int) < a 14 → (0 ≤ a (74 + 3 * k) ∧ a (74 + 3 * k) ≤ a 0) ∧ (1 ≤ a (74 + 3 * k + 1) ∧ a (74 + 3 * k + 1) ≤ 6) ∧ 0 ≤ a (74 + 3 * k + 2) ∧ a (74 + 3 * k + 2) ≤ 7)
theorem zr_s {x : Int} (h : -1000000000 ≤ x ∧ x ≤ 1000000000) : zr x := ⟨by omega, by omega⟩
theorem zM_at (a : Nat → Int) (i : Nat) : zM a i = zI (a i) := rfl
/-- reading and writing the model's row -/
theorem zg_M {β : Type} {a : Nat → Int} {x : Int32} {i : Nat} {K : Int32 → Option β} (hx : x = zI i) (hi : i < 104) : zg 104 (zM a) x K = K (zI (a i)) := by
  subst hx
  rw [zg_zI (by omega) (by omega)]
  rfl
theorem zs_M {β : Type} {a : Nat → Int} {x y : Int32} {i : Nat} {z : Int} {K : (Nat → Int32) → Option β} (hx : x = zI i) (hy : y = zI z) (hi : i < 104) : zs 104 (zM a) x y K = K (zM (up a i z)) := by
  subst hx hy
  rw [zs_zI (by omega) (by omega), ← zM_up]
  rfl
theorem m_within {p l h : Int} (hp : zr p) (hl : zr l) (hh : zr h) : q_X7_within (zI p) (zI l) (zI h) = some (if l ≤ p ∧ p ≤ h then 1 else 0) := by
  unfold q_X7_within
  simp only [zI_lt hp hl, zI_lt hh hp]
  split
  · rw [if_neg (by omega)]
  · split
    · rw [if_neg (by omega)]
    · rw [if_pos (by omega)]
theorem zq_01 {β : Type} {c : Prop} [Decidable c] {K : Option β} : zq ((if c then (1 : Int32) else 0) = 0 ∨ (if c then (1 : Int32) else 0) = 1) K = K := by
  unfold zq
  by_cases h : c
  · rw [if_pos h, if_pos (Or.inr rfl)]
  · rw [if_neg h, if_pos (Or.inl rfl)]
theorem m_isSpan {p : Int} (hp : zr p) : q_X7_isSpan (zI p) = some (if 0 ≤ p ∧ p ≤ 7 then 1 else 0) := by
  unfold q_X7_isSpan
  rw [show q_X7_within (zI p) 0 7 = _ from m_within hp (l := 0) (h := 7) (zr_s (by omega)) (zr_s (by omega)), zb_some, zq_01]
theorem m_isSetting {p : Int} (hp : zr p) : q_X7_isSetting (zI p) = some (if 0 ≤ p ∧ p ≤ 4 then 1 else 0) := by
  unfold q_X7_isSetting
  rw [show q_X7_within (zI p) 0 4 = _ from m_within hp (l := 0) (h := 4) (zr_s (by omega)) (zr_s (by omega)), zb_some, zq_01]
section PM
variable {a : Nat → Int} {r : (Nat → Int32) × (Nat → Int32) × Int32 × (Nat → Int32) × Int32 × Int32 × Int32 × Int32 × Int32 × Int32}
theorem zi_lin (b c k : Nat) : (zI b + zI c * zI k : Int32) = zI ((b + c * k : Nat) : Int) := by
  rw [zI_mul, zI_add]
  congr 1
theorem m_spotSpan {k : Nat} (hk : k < 20) : q_X7_spotSpan (zM a, r) (zI k) = some (zI (a (34 + 2 * k))) := by
  unfold q_X7_spotSpan
  exact zg_M (i := 34 + 2 * k) (zi_lin 34 2 k) (by omega)
theorem m_spotTries {k : Nat} (hk : k < 20) : q_X7_spotTries (zM a, r) (zI k) = some (zI (a (34 + 2 * k + 1))) := by
  unfold q_X7_spotTries
  refine zg_M (i := 34 + 2 * k + 1) ?_ (by omega)
  rw [show ((34 : Int32) + 2 * zI k) = _ from zi_lin 34 2 k, show (1 : Int32) = zI 1 from rfl, zI_add]
  congr 1
theorem m_age {k : Nat} (hk : k < 8) : q_X7_age (zM a, r) (zI k) = some (zI (a 0 - a (20 + k))) := by
  unfold q_X7_age
  refine (zg_M (i := 20 + k) ?_ (by omega)).trans ?_
  · rw [show (20 : Int32) = zI 20 from rfl, zI_add]
    congr 1
  · show some (zI _ - zI _) = _
    rw [zI_sub]
theorem m_isDue {k : Nat} (hk : k < 8) (h : aI a) : q_X7_isDue (zM a, r) (zI k) = some (if a 19 / 2 ≤ a 0 - a (20 + k) then 1 else 0) := by
  obtain ⟨-, h0, -, -, -, -, -, -, -, -, -, -, -, -, -, -, hs, hst, -⟩ := h
  have h1 := hst k hk
  unfold q_X7_isDue
  rw [m_age hk, zb_some]
  dsimp only
  have e : zM a 19 / 2 = zI (a 19 / 2) := zI_div (y := 2) (by omega) (by omega)
  rw [e]
  simp only [zI_lt (zr_s (x := a 0 - a (20 + k)) (by omega)) (zr_s (x := a 19 / 2) (by omega))]
  split
  · rw [if_neg (by omega)]
  · rw [if_pos (by omega)]
def gSum (a : Nat → Int) (s mo : Int) (k : Nat) : Int := if a (34 + 2 * k) = s then (if mo ≤ a (34 + 2 * k + 1) then mo else a (34 + 2 * k + 1)) else 0
def aSum (a : Nat → Int) (s mo : Int) : Int := zsum (gSum a s mo) (a 2).toNat
theorem zI_1 (k : Nat) : zI k + 1 = zI ((k + 1 : Nat) : Int) := zI_add k 1
theorem m_sumOf {s mo : Int} (h : aI a) (hs : zr s) (hm : zr mo) : q_X7_sumOf (zM a, r) (zI s) (zI mo) = some (zI (aSum a s mo)) := by
  obtain ⟨hr, -, -, h2, -⟩ := h
  unfold q_X7_sumOf aSum
  rw [zl_run (fun k => (zI (zsum (gSum a s mo) k), zI k)) (a := ((0 : Int32), (0 : Int32))) (b := zI (zsum (gSum a s mo) (a 2).toNat)) (a 2).toNat rfl (by omega) ?_ ?_, zb_some]
  · intro k hk
    unfold q_X7_sumOf_L5
    dsimp only
    rw [if_neg (show ¬ zM a 2 ≤ zI k from zle_n (hr 2) (zr_s (by omega)) (by omega)), m_spotTries (by omega), zb_some]
    simp only [zI_le hm (hr (34 + 2 * k + 1)), zb_some]
    unfold q_X7_sumOf_J36
    simp only [m_spotSpan (show k < 20 by omega), zb_some, zI_eq (hr (34 + 2 * k)) hs, zI_1]
    show _ = some (Sum.inl (zI (zsum (gSum a s mo) k + gSum a s mo k), _))
    unfold gSum
    by_cases c1 : mo ≤ a (34 + 2 * k + 1)
    · by_cases c2 : a (34 + 2 * k) = s
      · simp only [c1, c2, if_true, zI_add]
      · simp only [c1, c2, if_true, if_false, Int.add_zero]
        rw [show (0 : Int32) = zI 0 from rfl, zI_add, Int.add_zero]
    · by_cases c2 : a (34 + 2 * k) = s
      · simp only [c1, c2, if_true, if_false, zI_add]
      · simp only [c1, c2, if_false, Int.add_zero]
        rw [show (0 : Int32) = zI 0 from rfl, zI_add, Int.add_zero]
  · unfold q_X7_sumOf_L5
    dsimp only
    rw [if_pos (show zM a 2 ≤ zI ((a 2).toNat : Nat) from zle_p (hr 2) (zr_s (by omega)) (by omega))]
end PM
