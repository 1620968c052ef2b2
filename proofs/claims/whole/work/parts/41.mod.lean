/-! the model's leaves over whole numbers -/
/-- what holds of the model's row of a disk; c: how many entries the log may still take in this tick -/
def aN (c : Int) (a : Nat → Int) : Prop := (0 ≤ a 0 ∧ a 0 ≤ 110000) ∧ (0 ≤ a 1 ∧ a 1 ≤ 50) ∧ (0 ≤ a 2 ∧ a 2 ≤ 20) ∧ (0 ≤ a 3 ∧ a 3 ≤ 50) ∧ (0 ≤ a 4 ∧ a 4 ≤ 2) ∧ (a 5 = -6 ∨ 0 ≤ a 5 ∧ a 5 ≤ 7) ∧ (0 ≤ a 6 ∧ a 6 ≤ a 0) ∧ (0 ≤ a 7 ∧ a 7 ≤ 2000) ∧ (0 ≤ a 8 ∧ a 8 ≤ 6) ∧ (0 ≤ a 9 ∧ a 9 ≤ a 14) ∧ (0 ≤ a 10 ∧ a 10 ≤ a 14) ∧ (0 ≤ a 11 ∧ a 11 ≤ a 14) ∧ (0 ≤ a 12 ∧ a 12 ≤ a 14) ∧ (a 13 = -6 ∨ 0 ≤ a 13 ∧ a 13 ≤ 7) ∧ (0 ≤ a 14 ∧ a 14 + c ≤ 22 * a 0) ∧
  (0 ≤ a 15 ∧ a 15 ≤ 50) ∧ (1 ≤ a 16 ∧ a 16 ≤ 40) ∧ (1 ≤ a 17 ∧ a 17 ≤ 9) ∧ (2 ≤ a 18 ∧ a 18 ≤ 9) ∧ 50 ≤ a 19 ∧ a 19 ≤ 2000
def aS (a : Nat → Int) : Prop := ∀ k : Nat, k < 8 → 0 ≤ a (20 + k) ∧ a (20 + k) ≤ a 0
def aL (a : Nat → Int) : Prop := (∀ k : Nat, (k : Int) < a 8 → 0 ≤ a (28 + k) ∧ a (28 + k) ≤ 7) ∧ ∀ j k : Nat, (k : Int) < a 8 → j < k → a (28 + j) ≠ a (28 + k)
def aP (a : Nat → Int) : Prop := ∀ k : Nat, (k : Int) < a 2 → (0 ≤ a (34 + 2 * k) ∧ a (34 + 2 * k) ≤ 7) ∧ 1 ≤ a (34 + 2 * k + 1) ∧ a (34 + 2 * k + 1) ≤ 9
def aE (a : Nat → Int) : Prop := ∀ k : Nat, k < 10 → (k : Int) < a 14 → (0 ≤ a (74 + 3 * k) ∧ a (74 + 3 * k) ≤ a 0) ∧ (1 ≤ a (74 + 3 * k + 1) ∧ a (74 + 3 * k + 1) ≤ 6) ∧ 0 ≤ a (74 + 3 * k + 2) ∧ a (74 + 3 * k + 2) ≤ 7
def aI (c : Int) (a : Nat → Int) : Prop := (∀ i, zr (a i)) ∧ aN c a ∧ aS a ∧ aL a ∧ aP a ∧ aE a
theorem zr_s {x : Int} (h : -1000000000 ≤ x ∧ x ≤ 1000000000) : zr x := ⟨by omega, by omega⟩
theorem zM_at (a : Nat → Int) (i : Nat) : zM a i = zI (a i) := rfl
/-- reading and writing the model's row -/
theorem zg_M {β : Type} {a : Nat → Int} {x : Int32} {i : Nat} {K : Int32 → Option β} (hx : x = zI i) (hi : i < 104) : zg 104 (zM a) x K = K (zI (a i)) := by
  subst hx
  rw [zg_zI (by omega) (by omega)]
  rfl
theorem zs_M {β : Type} {a : Nat → Int} {x y : Int32} {i : Nat} {z : Int} {K : (Nat → Int32) → Option β} (hx : x = zI i) (hy : y = zI z) (hi : i < 104) : zs 104 (zM a) x y K = K (zM (up a i z)) := by
  subst hx hy
  rw [zs_zI (by omega) (by omega), ← zM_up]
  rfl
theorem m_within {p l h : Int} (hp : zr p) (hl : zr l) (hh : zr h) : q_X7_within (zI p) (zI l) (zI h) = some (if l ≤ p ∧ p ≤ h then 1 else 0) := by
  unfold q_X7_within
  simp only [zI_lt hp hl, zI_lt hh hp]
  split
  · rw [if_neg (by omega)]
  · split
    · rw [if_neg (by omega)]
    · rw [if_pos (by omega)]
theorem zq_01 {β : Type} {c : Prop} [Decidable c] {K : Option β} : zq ((if c then (1 : Int32) else 0) = 0 ∨ (if c then (1 : Int32) else 0) = 1) K = K := by
  unfold zq
  by_cases h : c
  · rw [if_pos h, if_pos (Or.inr rfl)]
  · rw [if_neg h, if_pos (Or.inl rfl)]
theorem m_isSpan {p : Int} (hp : zr p) : q_X7_isSpan (zI p) = some (if 0 ≤ p ∧ p ≤ 7 then 1 else 0) := by
  unfold q_X7_isSpan
  rw [show q_X7_within (zI p) 0 7 = _ from m_within hp (l := 0) (h := 7) (zr_s (by omega)) (zr_s (by omega)), zb_some, zq_01]
theorem m_isSetting {p : Int} (hp : zr p) : q_X7_isSetting (zI p) = some (if 0 ≤ p ∧ p ≤ 4 then 1 else 0) := by
  unfold q_X7_isSetting
  rw [show q_X7_within (zI p) 0 4 = _ from m_within hp (l := 0) (h := 4) (zr_s (by omega)) (zr_s (by omega)), zb_some, zq_01]
section PM
variable {a : Nat → Int} {r : (Nat → Int32) × (Nat → Int32) × Int32 × (Nat → Int32) × Int32 × Int32 × Int32 × Int32 × Int32 × Int32}
theorem zi_lin (b c k : Nat) : (zI b + zI c * zI k : Int32) = zI ((b + c * k : Nat) : Int) := by
  rw [zI_mul, zI_add]
  congr 1
theorem m_spotSpan {k : Nat} (hk : k < 20) : q_X7_spotSpan (zM a, r) (zI k) = some (zI (a (34 + 2 * k))) := by
  unfold q_X7_spotSpan
  exact zg_M (i := 34 + 2 * k) (zi_lin 34 2 k) (by omega)
theorem m_spotTries {k : Nat} (hk : k < 20) : q_X7_spotTries (zM a, r) (zI k) = some (zI (a (34 + 2 * k + 1))) := by
  unfold q_X7_spotTries
  refine zg_M (i := 34 + 2 * k + 1) ?_ (by omega)
  rw [show ((34 : Int32) + 2 * zI k) = _ from zi_lin 34 2 k, show (1 : Int32) = zI 1 from rfl, zI_add]
  congr 1
theorem m_age {k : Nat} (hk : k < 8) : q_X7_age (zM a, r) (zI k) = some (zI (a 0 - a (20 + k))) := by
  unfold q_X7_age
  refine (zg_M (i := 20 + k) ?_ (by omega)).trans ?_
  · rw [show (20 : Int32) = zI 20 from rfl, zI_add]
    congr 1
  · show some (zI _ - zI _) = _
    rw [zI_sub]
theorem m_isDue {k : Nat} (hk : k < 8) {c : Int} (h : aI c a) : q_X7_isDue (zM a, r) (zI k) = some (if a 19 / 2 ≤ a 0 - a (20 + k) then 1 else 0) := by
  have h0 := h.2.1
  unfold aN at h0
  have h1 := h.2.2.1 k hk
  unfold q_X7_isDue
  rw [m_age hk, zb_some]
  dsimp only
  have e : zM a 19 / 2 = zI (a 19 / 2) := zI_div (y := 2) (by omega) (by omega)
  rw [e]
  simp only [zI_lt (zr_s (x := a 0 - a (20 + k)) (by omega)) (zr_s (x := a 19 / 2) (by omega))]
  split
  · rw [if_neg (by omega)]
  · rw [if_pos (by omega)]
def gSum (a : Nat → Int) (s mo : Int) (k : Nat) : Int := if a (34 + 2 * k) = s then (if mo ≤ a (34 + 2 * k + 1) then mo else a (34 + 2 * k + 1)) else 0
def aSum (a : Nat → Int) (s mo : Int) : Int := zsum (gSum a s mo) (a 2).toNat
theorem zI_1 (k : Nat) : zI k + 1 = zI ((k + 1 : Nat) : Int) := zI_add k 1
theorem m_sumOf {s mo : Int} (hr : ∀ i, zr (a i)) (h2 : 0 ≤ a 2 ∧ a 2 ≤ 20) (hs : zr s) (hm : zr mo) : q_X7_sumOf (zM a, r) (zI s) (zI mo) = some (zI (aSum a s mo)) := by
  unfold q_X7_sumOf aSum
  rw [zl_run (fun k => (zI (zsum (gSum a s mo) k), zI k)) (a := ((0 : Int32), (0 : Int32))) (b := zI (zsum (gSum a s mo) (a 2).toNat)) (a 2).toNat rfl (by omega) ?_ ?_, zb_some]
  · intro k hk
    unfold q_X7_sumOf_L5
    dsimp only
    rw [if_neg (show ¬ zM a 2 ≤ zI k from zle_n (hr 2) (zr_s (by omega)) (by omega)), m_spotTries (by omega), zb_some]
    simp only [zI_le hm (hr (34 + 2 * k + 1)), zb_some]
    unfold q_X7_sumOf_J36
    simp only [m_spotSpan (show k < 20 by omega), zb_some, zI_eq (hr (34 + 2 * k)) hs, zI_1]
    show _ = some (Sum.inl (zI (zsum (gSum a s mo) k + gSum a s mo k), _))
    unfold gSum
    by_cases c1 : mo ≤ a (34 + 2 * k + 1)
    · by_cases c2 : a (34 + 2 * k) = s
      · simp only [c1, c2, if_true, zI_add]
      · simp only [c1, c2, if_true, if_false, Int.add_zero]
        rw [show (0 : Int32) = zI 0 from rfl, zI_add, Int.add_zero]
    · by_cases c2 : a (34 + 2 * k) = s
      · simp only [c1, c2, if_true, if_false, zI_add]
      · simp only [c1, c2, if_false, Int.add_zero]
        rw [show (0 : Int32) = zI 0 from rfl, zI_add, Int.add_zero]
  · unfold q_X7_sumOf_L5
    dsimp only
    rw [if_pos (show zM a 2 ≤ zI ((a 2).toNat : Nat) from zle_p (hr 2) (zr_s (by omega)) (by omega))]
theorem zmod {x : Int} (n : Nat) (hx : 0 ≤ x ∧ x < 2147483648) (hn : 0 < n ∧ n < 2147483648) : zI x - zI x / zI n * zI n = zI ((x % n).toNat : Nat) := by
  have h1 : 0 ≤ x % (n : Int) := Int.emod_nonneg x (by omega)
  rw [zI_div hx (by omega), zI_mul, zI_sub]
  congr 1
  rw [Int.toNat_of_nonneg h1, Int.emod_def, Int.mul_comm]
def eL (a : Nat → Int) : Nat := 74 + 3 * (a 14 % 10).toNat
theorem eL_b (a : Nat → Int) : 74 ≤ eL a ∧ eL a ≤ 101 := by unfold eL; omega
def aLogs (a : Nat → Int) (k s : Int) : Nat → Int := up (up (up (up a (eL a) (a 0)) (eL a + 1) k) (eL a + 2) s) 14 (a 14 + 1)
theorem zI_k (b k : Nat) : zI b + zI k = zI ((b + k : Nat) : Int) := zI_add b k
theorem m_logs {k s : Int} (h : 0 ≤ a 14 ∧ a 14 < 3000000) : q_X7_logs (zM a, r) (zI k) (zI s) = some (zM (aLogs a k s)) := by
  have hb := eL_b a
  have e : (74 + 3 * (zM a 14 - zM a 14 / 10 * 10) : Int32) = zI (eL a : Nat) := by
    rw [show zM a 14 - zM a 14 / 10 * 10 = zI ((a 14 % 10).toNat : Nat) from zmod 10 (by omega) (by omega)]
    exact zi_lin 74 3 _
  have e1 : (74 + 3 * (zM a 14 - zM a 14 / 10 * 10) + 1 : Int32) = zI (eL a + 1 : Nat) := by rw [e]; exact zI_k _ 1
  have e2 : (74 + 3 * (zM a 14 - zM a 14 / 10 * 10) + 2 : Int32) = zI (eL a + 2 : Nat) := by rw [e]; exact zI_k _ 2
  unfold q_X7_logs
  dsimp only
  rw [zs_M e (zM_at a 0) (by omega), zs_M e1 rfl (by omega), zs_M e2 rfl (by omega)]
  unfold zn aLogs
  rw [zM_at, up_ne _ _ (by omega), up_ne _ _ (by omega), up_ne _ _ (by omega), show (zI (a 14) + 1 : Int32) = zI (a 14 + 1) from zI_add _ 1, zM_up]
def aMany (a : Nat → Int) : Int := if 10 ≤ a 14 then 10 else a 14
theorem m_entriesMany (hr : zr (a 14)) : q_X7_entriesMany (zM a, r) = some (zI (aMany a)) := by
  unfold q_X7_entriesMany aMany
  simp only [zM_at, show ((10 : Int32) ≤ zI (a 14)) = _ from propext (zI_le (x := 10) (zr_s (by omega)) hr)]
  split <;> rfl
/-- where an entry lies -/
def aAt (a : Nat → Int) (i : Nat) : Nat := ((a 14 - aMany a + i) % 10).toNat
theorem m_entryPart {i k : Nat} (h : 0 ≤ a 14 ∧ a 14 < 3000000) (hi : (i : Int) < aMany a) (hk : k < 3) : q_X7_entryPart (zM a, r) (zI i) (zI k) = some (zI (a (74 + 3 * aAt a i + k))) := by
  unfold q_X7_entryPart
  rw [m_entriesMany (zr_s (by omega)), zb_some]
  have hm : 0 ≤ a 14 - aMany a ∧ aMany a ≤ 10 := by
    unfold aMany
    split <;> omega
  refine zg_M (i := 74 + 3 * aAt a i + k) ?_ (by unfold aAt; omega)
  dsimp only
  rw [zM_at, zI_sub, zI_add, show zI (a 14 - aMany a + i) - zI (a 14 - aMany a + i) / 10 * 10 = _ from zmod 10 (by omega) (by omega), show ((74 : Int32) + 3 * zI _) = _ from zi_lin 74 3 _, zI_k]
  rfl
theorem m_takes {s : Int} (hr : ∀ i, zr (a i)) (h2 : 0 ≤ a 2 ∧ a 2 ≤ 20) (hs : zr s) : q_X7_takes (zM a, r) (zI s) = some (zI (a 16 + a 17 * aSum a s (a 18))) := by
  unfold q_X7_takes
  dsimp only
  rw [show zM a 18 = zI (a 18) from rfl, m_sumOf hr h2 hs (hr 18), zb_some, zM_at, zM_at, zI_mul, zI_add]
def gCnt (a : Nat → Int) (s : Int) (k : Nat) : Int := if a (34 + 2 * k) = s then 1 else 0
def aCnt (a : Nat → Int) (s : Int) : Int := zsum (gCnt a s) (a 2).toNat
theorem zI_a0 (x : Int) : zI x + 0 = zI x := by rw [show (0 : Int32) = zI 0 from rfl, zI_add, Int.add_zero]
theorem zI_a1 (x : Int) : zI x + 1 = zI (x + 1) := zI_add x 1
theorem m_spotsMany {s : Int} (hr : ∀ i, zr (a i)) (h2 : 0 ≤ a 2 ∧ a 2 ≤ 20) (hs : zr s) : q_X7_spotsMany (zM a, r) (zI s) = some (zI (aCnt a s)) := by
  unfold q_X7_spotsMany aCnt
  rw [zl_run (fun k => (zI (zsum (gCnt a s) k), zI k)) (a := ((0 : Int32), (0 : Int32))) (b := zI (zsum (gCnt a s) (a 2).toNat)) (a 2).toNat rfl (by omega) ?_ ?_, zb_some]
  · intro k hk
    unfold q_X7_spotsMany_L4
    dsimp only
    rw [if_neg (show ¬ zM a 2 ≤ zI k from zle_n (hr 2) (zr_s (by omega)) (by omega)), m_spotSpan (by omega), zb_some]
    simp only [zI_eq (hr (34 + 2 * k)) hs, zI_1]
    show _ = some (Sum.inl (zI (zsum (gCnt a s) k + gCnt a s k), _))
    unfold gCnt
    split
    · rw [zI_a1]
    · rw [zI_a0, Int.add_zero]
  · unfold q_X7_spotsMany_L4
    dsimp only
    rw [if_pos (show zM a 2 ≤ zI ((a 2).toNat : Nat) from zle_p (hr 2) (zr_s (by omega)) (by omega))]
def gOver (a : Nat → Int) (k : Nat) : Int := if a 19 < a 0 - a (20 + k) then 1 else 0
def aOver (a : Nat → Int) : Int := zsum (gOver a) 8
theorem m_overdueMany {c : Int} (h : aI c a) : q_X7_overdueMany (zM a, r) = some (zI (aOver a)) := by
  have hr := h.1
  have h0 := h.2.1
  unfold aN at h0
  unfold q_X7_overdueMany aOver
  rw [zl_run (fun k => (zI (zsum (gOver a) k), zI k)) (a := ((0 : Int32), (0 : Int32))) (b := zI (zsum (gOver a) 8)) 8 rfl (by omega) ?_ ?_, zb_some]
  · intro k hk
    have h1 := h.2.2.1 k hk
    unfold q_X7_overdueMany_L4
    dsimp only
    rw [if_neg (show ¬ (8 : Int32) ≤ zI k from zle_n (x := 8) (zr_s (by omega)) (zr_s (by omega)) (by omega)), m_age hk, zb_some]
    simp only [zM_at, zI_le (zr_s (x := a 0 - a (20 + k)) (by omega)) (hr 19), zI_1]
    show _ = some (Sum.inl (zI (zsum (gOver a) k + gOver a k), _))
    unfold gOver
    split
    · rw [zI_a0, if_neg (by omega), Int.add_zero]
    · rw [zI_a1, if_pos (by omega)]
  · unfold q_X7_overdueMany_L4
    dsimp only
    rw [if_pos (show (8 : Int32) ≤ zI (8 : Nat) from zle_p (x := 8) (zr_s (by omega)) (zr_s (by omega)) (by omega))]
end PM
