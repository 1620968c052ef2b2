/-! the model: a check begins, ends; a tick -/
theorem z6 : (-6 : Int32) = zI (-6) := by decide +kernel
theorem zr_up {a : Nat → Int} (hr : ∀ i, zr (a i)) (k : Nat) {x : Int} (hx : zr x) : ∀ i, zr (up a k x i) := fun i => by
  unfold up
  split
  · exact hx
  · exact hr i
theorem aLogs_lo (a : Nat → Int) (k s : Int) {i : Nat} (h : i < 74) (h2 : i ≠ 14) : aLogs a k s i = a i := by
  have hb := eL_b a
  unfold aLogs
  rw [up_ne _ _ h2, up_ne _ _ (by omega), up_ne _ _ (by omega), up_ne _ _ (by omega)]
theorem aLogs_14 (a : Nat → Int) (k s : Int) : aLogs a k s 14 = a 14 + 1 := up_at _ _ _
theorem zr_aLogs {a : Nat → Int} (hr : ∀ i, zr (a i)) {k s : Int} (hk : zr k) (hs : zr s) (h : zr (a 14 + 1)) : ∀ i, zr (aLogs a k s i) := zr_up (zr_up (zr_up (zr_up hr _ (hr 0)) _ hk) _ hs) _ h
theorem aS_of {a b : Nat → Int} (h : aS a) (h0 : a 0 ≤ b 0) (e : ∀ k, k < 8 → b (20 + k) = a (20 + k)) : aS b := fun k hk => by
  have := h k hk
  rw [e k hk]
  omega
theorem aL_of {a b : Nat → Int} (h : aL a) (e8 : b 8 = a 8) (h6 : a 8 ≤ 6) (e : ∀ k, k < 6 → b (28 + k) = a (28 + k)) : aL b := by
  refine ⟨fun k hk => ?_, fun j k hk hj => ?_⟩
  · rw [e k (by omega)]
    exact h.1 k (by omega)
  · rw [e k (by omega), e j (by omega)]
    exact h.2 j k (by omega) hj
theorem aP_of {a b : Nat → Int} (h : aP a) (e2 : b 2 = a 2) (h6 : a 2 ≤ 20) (e : ∀ i, 34 ≤ i → i < 74 → b i = a i) : aP b := fun k hk => by
  rw [e (34 + 2 * k) (by omega) (by omega), e (34 + 2 * k + 1) (by omega) (by omega)]
  exact h k (by omega)
theorem aE_of {a b : Nat → Int} (h : aE a) (h0 : a 0 ≤ b 0) (e14 : b 14 = a 14) (e : ∀ i, 74 ≤ i → i < 104 → b i = a i) : aE b := fun k hk h14 => by
  rw [e (74 + 3 * k) (by omega) (by omega), e (74 + 3 * k + 1) (by omega) (by omega), e (74 + 3 * k + 2) (by omega) (by omega)]
  have := h k hk (by omega)
  omega
theorem aE_logs {a : Nat → Int} {k s : Int} (h : aE a) (h14 : 0 ≤ a 14) (h0 : 0 ≤ a 0) (hk : 1 ≤ k ∧ k ≤ 6) (hs : 0 ≤ s ∧ s ≤ 7) : aE (aLogs a k s) := fun j hj h2 => by
  have hb := eL_b a
  rw [aLogs_14] at h2
  rw [aLogs_lo a k s (i := 0) (by omega) (by omega)]
  by_cases c : 74 + 3 * j = eL a
  · have e1 : aLogs a k s (74 + 3 * j) = a 0 := by
      unfold aLogs
      rw [up_ne _ _ (by omega), up_ne _ _ (by omega), up_ne _ _ (by omega), c, up_at]
    have e2 : aLogs a k s (74 + 3 * j + 1) = k := by
      unfold aLogs
      rw [up_ne _ _ (by omega), up_ne _ _ (by omega), c, up_at]
    have e3 : aLogs a k s (74 + 3 * j + 2) = s := by
      unfold aLogs
      rw [up_ne _ _ (by omega), c, up_at]
    rw [e1, e2, e3]
    omega
  · have hne : 74 + 3 * j + 2 < eL a ∨ eL a + 2 < 74 + 3 * j := by unfold eL at c ⊢; omega
    have e : ∀ i, 74 + 3 * j ≤ i → i ≤ 74 + 3 * j + 2 → aLogs a k s i = a i := fun i h3 h4 => by
      unfold aLogs
      rw [up_ne _ _ (by omega), up_ne _ _ (by omega), up_ne _ _ (by omega), up_ne _ _ (by omega)]
    rw [e _ (by omega) (by omega), e _ (by omega) (by omega), e _ (by omega) (by omega)]
    exact h j hj (by unfold eL at c; omega)
theorem aI_logs {a : Nat → Int} {c k s : Int} (h : aI (c + 1) a) (hc : 0 ≤ c) (hk : 1 ≤ k ∧ k ≤ 6) (hs : 0 ≤ s ∧ s ≤ 7) : aI c (aLogs a k s) := by
  obtain ⟨hr, hN, hS, hL, hP, hE⟩ := h
  have e : ∀ i, i < 74 → i ≠ 14 → aLogs a k s i = a i := fun i => aLogs_lo a k s
  have e14 := aLogs_14 a k s
  have hN' := hN
  unfold aN at hN'
  refine ⟨zr_aLogs hr (zr_s (by omega)) (zr_s (by omega)) (zr_s (by omega)), ?_, aS_of hS (by rw [e 0 (by omega) (by omega)]; omega) (fun k hk => e _ (by omega) (by omega)), aL_of hL (e 8 (by omega) (by omega)) (by omega) (fun k hk => e _ (by omega) (by omega)), aP_of hP (e 2 (by omega) (by omega)) (by omega) (fun i h1 h2 => e i h2 (by omega)), aE_logs hE (by omega) (by omega) hk hs⟩
  unfold aN
  rw [e14, e 0 (by omega) (by omega), e 1 (by omega) (by omega), e 2 (by omega) (by omega), e 3 (by omega) (by omega), e 4 (by omega) (by omega), e 5 (by omega) (by omega), e 6 (by omega) (by omega), e 7 (by omega) (by omega), e 8 (by omega) (by omega), e 9 (by omega) (by omega), e 10 (by omega) (by omega), e 11 (by omega) (by omega), e 12 (by omega) (by omega), e 13 (by omega) (by omega), e 15 (by omega) (by omega), e 16 (by omega) (by omega), e 17 (by omega) (by omega), e 18 (by omega) (by omega), e 19 (by omega) (by omega)]
  omega
section PM3
variable {a : Nat → Int} {r : (Nat → Int32) × (Nat → Int32) × Int32 × (Nat → Int32) × Int32 × Int32 × Int32 × Int32 × Int32 × Int32}
def aStop (a : Nat → Int) : Nat → Int := up (up (up a 5 (-6)) 6 0) 7 0
def aBeg1 (a : Nat → Int) (s : Int) : Nat → Int := up (up (if a 8 ≤ 0 then a else aTake a 0) 5 s) 6 0
def aBeg2 (a : Nat → Int) (s : Int) : Nat → Int := up (aBeg1 a s) 7 (aBeg1 a s 16 + aBeg1 a s 17 * aSum (aBeg1 a s) s (aBeg1 a s 18))
def aBegin (a : Nat → Int) : Nat → Int := if aNext a = -6 then a else aLogs (aBeg2 a (aNext a)) 1 (aNext a)
theorem zr_tk {a : Nat → Int} (hr : ∀ i, zr (a i)) (h8 : zr (a 8 - 1)) (p k : Nat) : ∀ i, zr (tk a p k i) := fun i => by
  unfold tk
  split
  · exact h8
  · split
    · exact hr _
    · exact hr _
theorem zr_take {a : Nat → Int} (hr : ∀ i, zr (a i)) (h8 : zr (a 8 - 1)) (p : Nat) : ∀ i, zr (aTake a p i) := zr_up (zr_tk hr h8 p _) _ (zr_s (by omega))
/-- away from the list nothing changes -/
theorem aTake_ne (a : Nat → Int) (p : Nat) {i : Nat} (h8 : 0 < a 8 ∧ a 8 ≤ 6) (hp : (p : Int) < a 8) (h : i ≠ 8) (h2 : i < 28 ∨ 34 ≤ i) : aTake a p i = a i := by
  unfold aTake
  rw [up_ne _ _ (by omega)]
  unfold tk
  rw [if_neg h, if_neg (by omega)]
theorem aTake_8 (a : Nat → Int) (p : Nat) : aTake a p 8 = a 8 - 1 := by
  unfold aTake
  rw [up_ne _ _ (by omega)]
  exact if_pos rfl
/-- the list behind: shorter by one -/
theorem aTake_l (a : Nat → Int) (p : Nat) {k : Nat} (h8 : 0 < a 8 ∧ a 8 ≤ 6) (hp : (p : Int) < a 8) (hk : (k : Int) < a 8 - 1) : aTake a p (28 + k) = if k < p then a (28 + k) else a (28 + (k + 1)) := by
  unfold aTake
  rw [up_ne _ _ (by omega)]
  unfold tk
  rw [if_neg (by omega)]
  by_cases c : k < p
  · rw [if_pos c, if_neg (by omega)]
  · rw [if_neg c, if_pos (by omega)]
    rfl
theorem aNext_b {c : Int} (h : aI c a) : aNext a = -6 ∨ 0 ≤ aNext a ∧ aNext a ≤ 7 := by
  have h0 := h.2.1
  unfold aN at h0
  unfold aNext
  split
  · exact bd_lt a (by omega) 8 (by omega)
  · exact Or.inr (h.2.2.2.1.1 0 (by omega))
end PM3
