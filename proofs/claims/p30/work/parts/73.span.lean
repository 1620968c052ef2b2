/-! class and model side by side: span, tries -/
section PW
variable {u : tX6} {x y : Int32} {a : Nat → Int} {r : (Nat → Int32) × (Nat → Int32) × Int32 × (Nat → Int32) × Int32 × Int32 × Int32 × Int32 × Int32 × Int32}
def aOf (a : Nat → Int) (k w : Nat) : Int := if w = 0 then a (20 + k) else if w = 1 then aAge a k else if w = 2 then aCnt a k else if w = 3 then aSum a k 9 else if w = 4 then (if a 19 < aAge a k then 2 else if aDue a k then 1 else 0) else if w = 5 then a 16 + a 17 * aSum a k (a 18) else aPlace a k
theorem zn_ne {i j : Nat} (h : i ≠ j) (hi : i < 1000) (hj : j < 1000) : ¬ zI (i : Nat) = zI (j : Nat) := zeq_n (zr_s (by omega)) (zr_s (by omega)) (by omega)
theorem c_ticksOf {d : tX1} {c : Int} {k : Nat} (h : aI c a) (hk : k < 8) (hR : dR d a) : q_X1_ticksOfCheck d (zI k) = some (zI (a 16 + a 17 * aSum a k (a 18))) := by
  have hr := h.1
  have hN := h.2.1
  unfold aN at hN
  unfold q_X1_ticksOfCheck
  rw [hR.1 1 (by omega), hR.1 2 (by omega), hR.1 3 (by omega), show q_X5_sumOf d.2.2.1 (zI k) (zI (a (15 + 3))) = _ from c_sumOf hr (by omega) (zr_s (by omega)) (hr _) hR.2.2.1, zb_some, zI_mul, zI_add]
theorem c_numberOfSpan {d : tX1} {c : Int} {k w : Nat} (h : aI c a) (hk : k < 8) (hw : w < 7) (hR : dR d a) : q_X1_numberOfSpan d (zI k) (zI w) = some (zI (aOf a k w)) := by
  have hr := h.1
  have hN := h.2.1
  unfold aN at hN
  have hz : zr (k : Int) := zr_s (by omega)
  unfold q_X1_numberOfSpan aOf
  rw [c_isSpan hz, zb_some, if_pos (show 0 ≤ (k : Int) ∧ (k : Int) ≤ 7 by omega), if_neg (by decide)]
  rcases (show w = 0 ∨ w = 1 ∨ w = 2 ∨ w = 3 ∨ w = 4 ∨ w = 5 ∨ w = 6 by omega) with rfl | rfl | rfl | rfl | rfl | rfl | rfl
  · rw [if_pos (show zI ((0 : Nat) : Int) = 0 from rfl), if_pos rfl, zg_N (by omega) (by omega), hR.2.1 k hk]
  · rw [if_neg (show ¬ zI ((1 : Nat) : Int) = 0 by decide), if_pos (show zI ((1 : Nat) : Int) = 1 from rfl), c_ageOf hk hR, zb_some]
    rfl
  · rw [if_neg (show ¬ zI ((2 : Nat) : Int) = 0 by decide), if_neg (show ¬ zI ((2 : Nat) : Int) = 1 by decide), if_pos (show zI ((2 : Nat) : Int) = 2 from rfl), c_sizeOf hr (by omega) hz hR.2.2.1, zb_some]
    rfl
  · rw [if_neg (show ¬ zI ((3 : Nat) : Int) = 0 by decide), if_neg (show ¬ zI ((3 : Nat) : Int) = 1 by decide), if_neg (show ¬ zI ((3 : Nat) : Int) = 2 by decide), if_pos (show zI ((3 : Nat) : Int) = 3 from rfl), show q_X5_sumOf d.2.2.1 (zI k) 9 = _ from c_sumOf (mo := 9) hr (by omega) hz (zr_s (by omega)) hR.2.2.1, zb_some]
    rfl
  · rw [if_neg (show ¬ zI ((4 : Nat) : Int) = 0 by decide), if_neg (show ¬ zI ((4 : Nat) : Int) = 1 by decide), if_neg (show ¬ zI ((4 : Nat) : Int) = 2 by decide), if_neg (show ¬ zI ((4 : Nat) : Int) = 3 by decide), if_pos (show zI ((4 : Nat) : Int) = 4 from rfl), c_isOverdue h hk hR, zb_some, c_isDue h hk hR, zb_some]
    show _ = some (zI (if a 19 < aAge a k then 2 else if aDue a k then 1 else 0))
    by_cases c1 : a 19 < aAge a k
    · rw [if_pos c1, if_neg (by decide), if_pos c1]
      rfl
    · rw [if_neg c1, if_pos rfl, if_neg c1]
      by_cases c2 : aDue a k
      · rw [if_pos c2, if_neg (by decide), if_pos c2]
        rfl
      · rw [if_neg c2, if_pos rfl, if_neg c2]
        rfl
  · rw [if_neg (show ¬ zI ((5 : Nat) : Int) = 0 by decide), if_neg (show ¬ zI ((5 : Nat) : Int) = 1 by decide), if_neg (show ¬ zI ((5 : Nat) : Int) = 2 by decide), if_neg (show ¬ zI ((5 : Nat) : Int) = 3 by decide), if_neg (show ¬ zI ((5 : Nat) : Int) = 4 by decide), if_pos (show zI ((5 : Nat) : Int) = 5 from rfl), c_ticksOf h hk hR, zb_some]
    rfl
  · rw [if_neg (show ¬ zI ((6 : Nat) : Int) = 0 by decide), if_neg (show ¬ zI ((6 : Nat) : Int) = 1 by decide), if_neg (show ¬ zI ((6 : Nat) : Int) = 2 by decide), if_neg (show ¬ zI ((6 : Nat) : Int) = 3 by decide), if_neg (show ¬ zI ((6 : Nat) : Int) = 4 by decide), if_neg (show ¬ zI ((6 : Nat) : Int) = 5 by decide), c_placeOf h hz hR.2.2.2.1, zb_some]
    rfl
/-- the i-th spot of a span -/
abbrev cN (a : Nat → Int) (s : Int) (k : Nat) : Int := zsum (gCnt a s) k
theorem cN_s (a : Nat → Int) (s : Int) (k : Nat) : cN a s (k + 1) = cN a s k + (if a (34 + 2 * k) = s then 1 else 0) := rfl
theorem cN_0 (a : Nat → Int) (s : Int) : cN a s 0 = 0 := rfl
theorem cN_le (a : Nat → Int) (s : Int) {j k : Nat} (h : j ≤ k) : cN a s j ≤ cN a s k := by
  induction k with
  | zero =>
    have : j = 0 := by omega
    rw [this]
    omega
  | succ k ih =>
    by_cases c : j = k + 1
    · rw [c]
      omega
    · have := ih (by omega)
      rw [cN_s]
      split <;> omega
theorem cN_b (a : Nat → Int) (s : Int) (k : Nat) : 0 ≤ cN a s k ∧ cN a s k ≤ k := by
  induction k with
  | zero => rw [cN_0]; omega
  | succ k ih =>
    rw [cN_s]
    split <;> omega
theorem cN_ex {s i : Int} {n : Nat} (h0 : 0 ≤ i) (h : i < cN a s n) : ∃ k : Nat, k < n ∧ a (34 + 2 * k) = s ∧ cN a s k = i := by
  induction n with
  | zero => rw [cN_0] at h; omega
  | succ n ih =>
    by_cases c : i < cN a s n
    · obtain ⟨k, k1, k2, k3⟩ := ih c
      exact ⟨k, by omega, k2, k3⟩
    · rw [cN_s] at h
      split at h
      · exact ⟨n, by omega, by assumption, by omega⟩
      · omega
theorem c_triesAt {t : tX5} {s i : Int} {k : Nat} (hr : ∀ i, zr (a i)) (h2 : 0 ≤ a 2 ∧ a 2 ≤ 20) (hs : zr s) (hi : zr i) (hR : sR t a) (hk : k < (a 2).toNat) (h1 : a (34 + 2 * k) = s) (hc : cN a s k = i) : q_X5_triesAt t (zI s) (zI i) = some (zI (a (34 + 2 * k + 1))) := by
  unfold q_X5_triesAt
  rw [zl_run (fun j => (zI (cN a s j), zI j)) (a := ((0 : Int32), (0 : Int32))) (b := Sum.inr (zI k)) k rfl (by omega) ?_ ?_, zb_some]
  · unfold zm q_X5_triesAt_J30
    dsimp only
    rw [zg_N (by omega) (by omega), (hR.1 k hk).2]
  · intro j hj
    obtain ⟨e1, e2⟩ := hR.1 j (by omega)
    have hb := cN_b a s j
    unfold q_X5_triesAt_L5
    dsimp only
    rw [if_neg (show ¬ t.2.2 ≤ zI j by rw [hR.2]; exact zle_n (hr 2) (zr_s (by omega)) (by omega)), zg_N (by omega) (by omega), e1, zI_1, cN_s]
    by_cases c1 : a (34 + 2 * j) = s
    · have h3 : cN a s (j + 1) ≤ cN a s k := cN_le a s (by omega)
      rw [cN_s, if_pos c1] at h3
      rw [if_pos (show zI (a (34 + 2 * j)) = zI s by rw [c1]), if_neg (show ¬ zI (cN a s j) = zI i from zeq_n (zr_s (by omega)) hi (by omega)), if_pos c1, zI_a1]
    · rw [if_neg (zeq_n (hr _) hs c1), if_neg c1, Int.add_zero]
  · obtain ⟨e1, e2⟩ := hR.1 k hk
    unfold q_X5_triesAt_L5
    dsimp only
    rw [if_neg (show ¬ t.2.2 ≤ zI k by rw [hR.2]; exact zle_n (hr 2) (zr_s (by omega)) (by omega)), zg_N (by omega) (by omega), e1, if_pos (show zI (a (34 + 2 * k)) = zI s by rw [h1]), if_pos (show zI (cN a s k) = zI i by rw [hc])]
theorem c_triesAt_no {t : tX5} {s i : Int} (hr : ∀ i, zr (a i)) (h2 : 0 ≤ a 2 ∧ a 2 ≤ 20) (hs : zr s) (hi : zr i) (hR : sR t a) (hn : ¬ (0 ≤ i ∧ i < aCnt a s)) : q_X5_triesAt t (zI s) (zI i) = some (-1) := by
  unfold q_X5_triesAt
  rw [zl_run (fun j => (zI (cN a s j), zI j)) (a := ((0 : Int32), (0 : Int32))) (b := Sum.inl ()) (a 2).toNat rfl (by omega) ?_ ?_, zb_some]
  · rfl
  · intro j hj
    obtain ⟨e1, e2⟩ := hR.1 j (by omega)
    have hb := cN_b a s j
    unfold q_X5_triesAt_L5
    dsimp only
    rw [if_neg (show ¬ t.2.2 ≤ zI j by rw [hR.2]; exact zle_n (hr 2) (zr_s (by omega)) (by omega)), zg_N (by omega) (by omega), e1, zI_1, cN_s]
    by_cases c1 : a (34 + 2 * j) = s
    · have h3 : cN a s (j + 1) ≤ cN a s (a 2).toNat := cN_le a s (by omega)
      rw [cN_s, if_pos c1] at h3
      have h4 : aCnt a s = cN a s (a 2).toNat := rfl
      rw [if_pos (show zI (a (34 + 2 * j)) = zI s by rw [c1]), if_neg (show ¬ zI (cN a s j) = zI i from zeq_n (zr_s (by omega)) hi (by omega)), if_pos c1, zI_a1]
    · rw [if_neg (zeq_n (hr _) hs c1), if_neg c1, Int.add_zero]
  · unfold q_X5_triesAt_L5
    dsimp only
    rw [if_pos (show t.2.2 ≤ zI ((a 2).toNat : Nat) by rw [hR.2]; exact zle_p (hr 2) (zr_s (by omega)) (by omega))]
end PW
