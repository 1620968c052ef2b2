/-! the model's leaves over whole numbers -/
/-- what holds of the model's row of a disk; c: how many entries the log may still take in this tick -/
def aN (c : Int) (a : Nat → Int) : Prop := (0 ≤ a 0 ∧ a 0 ≤ 110000) ∧ (0 ≤ a 1 ∧ a 1 ≤ 50) ∧ (0 ≤ a 2 ∧ a 2 ≤ 20) ∧ (0 ≤ a 3 ∧ a 3 ≤ 50) ∧ (0 ≤ a 4 ∧ a 4 ≤ 2) ∧ (a 5 = -6 ∨ 0 ≤ a 5 ∧ a 5 ≤ 7) ∧ (0 ≤ a 6 ∧ a 6 ≤ a 0) ∧ (0 ≤ a 7 ∧ a 7 ≤ 2000) ∧ (0 ≤ a 8 ∧ a 8 ≤ 6) ∧ (0 ≤ a 9 ∧ a 9 ≤ a 14) ∧ (0 ≤ a 10 ∧ a 10 ≤ a 14) ∧ (0 ≤ a 11 ∧ a 11 ≤ a 14) ∧ (0 ≤ a 12 ∧ a 12 ≤ a 14) ∧ (a 13 = -6 ∨ 0 ≤ a 13 ∧ a 13 ≤ 7) ∧ (0 ≤ a 14 ∧ a 14 + c ≤ 22 * a 0) ∧
  (0 ≤ a 15 ∧ a 15 ≤ 50) ∧ (1 ≤ a 16 ∧ a 16 ≤ 40) ∧ (1 ≤ a 17 ∧ a 17 ≤ 9) ∧ (2 ≤ a 18 ∧ a 18 ≤ 9) ∧ 50 ≤ a 19 ∧ a 19 ≤ 2000
def aS (a : Nat → Int) : Prop := ∀ k : Nat, k < 8 → 0 ≤ a (20 + k) ∧ a (20 + k) ≤ a 0
def aL (a : Nat → Int) : Prop := (∀ k : Nat, (k : Int) < a 8 → 0 ≤ a (28 + k) ∧ a (28 + k) ≤ 7) ∧ ∀ j k : Nat, (k : Int) < a 8 → j < k → a (28 + j) ≠ a (28 + k)
def aP (a : Nat → Int) : Prop := ∀ k : Nat, (k : Int) < a 2 → (0 ≤ a (34 + 2 * k) ∧ a (34 + 2 * k) ≤ 7) ∧ 1 ≤ a (34 + 2 * k + 1) ∧ a (34 + 2 * k + 1) ≤ 9
def aE (a : Nat → Int) : Prop := ∀ k : Nat, k < 10 → (k : Int) < a 14 → (0 ≤ a (74 + 3 * k) ∧ a (74 + 3 * k) ≤ a 0) ∧ (1 ≤ a (74 + 3 * k + 1) ∧ a (74 + 3 * k + 1) ≤ 6) ∧ 0 ≤ a (74 + 3 * k + 2) ∧ a (74 + 3 * k + 2) ≤ 7
def aI (c : Int) (a : Nat → Int) : Prop := (∀ i, zr (a i)) ∧ aN c a ∧ aS a ∧ aL a ∧ aP a ∧ aE a
theorem zr_s {x : Int} (h : -1000000000 ≤ x ∧ x ≤ 1000000000) : zr x := ⟨by omega, by omega⟩
theorem zM_at (a : Nat → Int) (i : Nat) : zM a i = zI (a i) := rfl
/-- reading and writing the model's row -/
theorem zg_M {β : Type} {a : Nat → Int} {x : Int32} {i : Nat} {K : Int32 → Option β} (hx : x = zI i) (hi : i < 104) : zg 104 (zM a) x K = K (zI (a i)) := by
  subst hx
  rw [zg_zI (by omega) (by omega)]
  rfl
theorem zs_M {β : Type} {a : Nat → Int} {x y : Int32} {i : Nat} {z : Int} {K : (Nat → Int32) → Option β} (hx : x = zI i) (hy : y = zI z) (hi : i < 104) : zs 104 (zM a) x y K = K (zM (up a i z)) := by
  subst hx hy
  rw [zs_zI (by omega) (by omega), ← zM_up]
  rfl
theorem zq_01 {β : Type} {c : Prop} [Decidable c] {K : Option β} : zq ((if c then (1 : Int32) else 0) = 0 ∨ (if c then (1 : Int32) else 0) = 1) K = K := by
  unfold zq
  by_cases h : c
  · rw [if_pos h, if_pos (Or.inr rfl)]
  · rw [if_neg h, if_pos (Or.inl rfl)]
section PM
variable {a : Nat → Int} {r : (Nat → Int32) × (Nat → Int32) × Int32 × (Nat → Int32) × Int32 × Int32 × Int32 × Int32 × Int32 × Int32}
theorem zi_lin (b c k : Nat) : (zI b + zI c * zI k : Int32) = zI ((b + c * k : Nat) : Int) := by
  rw [zI_mul, zI_add]
  congr 1
def gSum (a : Nat → Int) (s mo : Int) (k : Nat) : Int := if a (34 + 2 * k) = s then (if mo ≤ a (34 + 2 * k + 1) then mo else a (34 + 2 * k + 1)) else 0
def aSum (a : Nat → Int) (s mo : Int) : Int := zsum (gSum a s mo) (a 2).toNat
theorem zI_1 (k : Nat) : zI k + 1 = zI ((k + 1 : Nat) : Int) := zI_add k 1
theorem zmod {x : Int} (n : Nat) (hx : 0 ≤ x ∧ x < 2147483648) (hn : 0 < n ∧ n < 2147483648) : zI x - zI x / zI n * zI n = zI ((x % n).toNat : Nat) := by
  have h1 : 0 ≤ x % (n : Int) := Int.emod_nonneg x (by omega)
  rw [zI_div hx (by omega), zI_mul, zI_sub]
  congr 1
  rw [Int.toNat_of_nonneg h1, Int.emod_def, Int.mul_comm]
def eL (a : Nat → Int) : Nat := 74 + 3 * (a 14 % 10).toNat
theorem eL_b (a : Nat → Int) : 74 ≤ eL a ∧ eL a ≤ 101 := by unfold eL; omega
def aLogs (a : Nat → Int) (k s : Int) : Nat → Int := up (up (up (up a (eL a) (a 0)) (eL a + 1) k) (eL a + 2) s) 14 (a 14 + 1)
theorem zI_k (b k : Nat) : zI b + zI k = zI ((b + k : Nat) : Int) := zI_add b k
def aMany (a : Nat → Int) : Int := if 10 ≤ a 14 then 10 else a 14
/-- where an entry lies -/
def aAt (a : Nat → Int) (i : Nat) : Nat := ((a 14 - aMany a + i) % 10).toNat
def gCnt (a : Nat → Int) (s : Int) (k : Nat) : Int := if a (34 + 2 * k) = s then 1 else 0
def aCnt (a : Nat → Int) (s : Int) : Int := zsum (gCnt a s) (a 2).toNat
theorem zI_a0 (x : Int) : zI x + 0 = zI x := by rw [show (0 : Int32) = zI 0 from rfl, zI_add, Int.add_zero]
theorem zI_a1 (x : Int) : zI x + 1 = zI (x + 1) := zI_add x 1
def gOver (a : Nat → Int) (k : Nat) : Int := if a 19 < a 0 - a (20 + k) then 1 else 0
def aOver (a : Nat → Int) : Int := zsum (gOver a) 8
end PM
