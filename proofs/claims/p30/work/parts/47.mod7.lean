/-! the model: a tick, many ticks -/
section PM7
variable {a : Nat → Int} {r : (Nat → Int32) × (Nat → Int32) × Int32 × (Nat → Int32) × Int32 × Int32 × Int32 × Int32 × Int32 × Int32}
theorem aI_take {c : Int} {p : Nat} (h : aI c a) (hp : (p : Int) < a 8) : aI c (aTake a p) := by
  obtain ⟨hr, hN, hS, hL, hP, hE⟩ := h
  have hN' := hN
  unfold aN at hN'
  have h8 : 0 < a 8 ∧ a 8 ≤ 6 := by omega
  have e : ∀ i, i ≠ 8 → (i < 28 ∨ 34 ≤ i) → aTake a p i = a i := fun i h1 h2 => aTake_ne a p h8 hp h1 h2
  have e8 := aTake_8 a p
  refine ⟨zr_take hr (zr_s (by omega)) p, ?_, aS_of hS (by rw [e 0 (by omega) (by omega)]; omega) (fun k hk => e _ (by omega) (by omega)), ⟨fun k hk => ?_, fun j k hk hj => ?_⟩, aP_of hP (e 2 (by omega) (by omega)) (by omega) (fun i h1 h2 => e i (by omega) (by omega)), aE_of hE (by rw [e 0 (by omega) (by omega)]; omega) (e 14 (by omega) (by omega)) (fun i h1 h2 => e i (by omega) (by omega))⟩
  · unfold aN
    rw [e8, e 0 (by omega) (by omega), e 1 (by omega) (by omega), e 2 (by omega) (by omega), e 3 (by omega) (by omega), e 4 (by omega) (by omega), e 5 (by omega) (by omega), e 6 (by omega) (by omega), e 7 (by omega) (by omega), e 9 (by omega) (by omega), e 10 (by omega) (by omega), e 11 (by omega) (by omega), e 12 (by omega) (by omega), e 13 (by omega) (by omega), e 14 (by omega) (by omega), e 15 (by omega) (by omega), e 16 (by omega) (by omega), e 17 (by omega) (by omega), e 18 (by omega) (by omega), e 19 (by omega) (by omega)]
    omega
  · rw [e8] at hk
    rw [aTake_l a p h8 hp hk]
    split
    · exact hL.1 k (by omega)
    · exact hL.1 (k + 1) (by omega)
  · rw [e8] at hk
    rw [aTake_l a p h8 hp hk, aTake_l a p h8 hp (k := j) (by omega)]
    split
    · split
      · exact hL.2 j k (by omega) hj
      · exact hL.2 j (k + 1) (by omega) (by omega)
    · split
      · omega
      · exact hL.2 (j + 1) (k + 1) (by omega) (by omega)
theorem aBeg1_I {c : Int} {s : Int} (h : aI c a) (hs : 0 ≤ s ∧ s ≤ 7) : aI c (aBeg1 a s) ∧ aBeg1 a s 14 = a 14 ∧ aBeg1 a s 0 = a 0 ∧ aBeg1 a s 16 = a 16 ∧ aBeg1 a s 17 = a 17 ∧ aBeg1 a s 18 = a 18 := by
  have hN := h.2.1
  unfold aN at hN
  have hb : aI c (if a 8 ≤ 0 then a else aTake a 0) := by
    split
    · exact h
    · exact aI_take h (by omega)
  have eb : ∀ i, i ≠ 8 → i < 28 → (if a 8 ≤ 0 then a else aTake a 0) i = a i := fun i h1 h2 => by
    split
    · rfl
    · exact aTake_ne a 0 (by omega) (by omega) h1 (Or.inl h2)
  unfold aBeg1
  generalize (if a 8 ≤ 0 then a else aTake a 0) = b at hb eb ⊢
  have e : ∀ i, i ≠ 5 → i ≠ 6 → up (up b 5 s) 6 0 i = b i := fun i h1 h2 => by rw [up_ne _ _ h2, up_ne _ _ h1]
  have e5 : up (up b 5 s) 6 0 5 = s := by rw [up_ne _ _ (by omega), up_at]
  have hNb := hb.2.1
  unfold aN at hNb
  refine ⟨aI_num hb ?_ (zr_up (zr_up hb.1 _ (zr_s (by omega))) _ (zr_s (by omega))) (by rw [e 0 (by omega) (by omega)]; omega) (e 2 (by omega) (by omega)) (e 8 (by omega) (by omega)) (e 14 (by omega) (by omega)) (fun i h1 h2 => e i (by omega) (by omega)), ?_, ?_, ?_, ?_, ?_⟩
  · unfold aN
    rw [e5, up_at, e 0 (by omega) (by omega), e 1 (by omega) (by omega), e 2 (by omega) (by omega), e 3 (by omega) (by omega), e 4 (by omega) (by omega), e 7 (by omega) (by omega), e 8 (by omega) (by omega), e 9 (by omega) (by omega), e 10 (by omega) (by omega), e 11 (by omega) (by omega), e 12 (by omega) (by omega), e 13 (by omega) (by omega), e 14 (by omega) (by omega), e 15 (by omega) (by omega), e 16 (by omega) (by omega), e 17 (by omega) (by omega), e 18 (by omega) (by omega), e 19 (by omega) (by omega)]
    omega
  · rw [e 14 (by omega) (by omega), eb 14 (by omega) (by omega)]
  · rw [e 0 (by omega) (by omega), eb 0 (by omega) (by omega)]
  · rw [e 16 (by omega) (by omega), eb 16 (by omega) (by omega)]
  · rw [e 17 (by omega) (by omega), eb 17 (by omega) (by omega)]
  · rw [e 18 (by omega) (by omega), eb 18 (by omega) (by omega)]
theorem aTakes_b {c : Int} {s : Int} (h : aI c a) : 0 ≤ a 16 + a 17 * aSum a s (a 18) ∧ a 16 + a 17 * aSum a s (a 18) ≤ 2000 := by
  have hN := h.2.1
  unfold aN at hN
  have hb := aSum_b (s := s) h (mo := a 18) (by omega)
  have h1 : 0 ≤ a 17 * aSum a s (a 18) := Int.mul_nonneg (by omega) hb.1
  have h2 : a 17 * aSum a s (a 18) ≤ 9 * 180 := Int.mul_le_mul (by omega) hb.2 hb.1 (by omega)
  omega
theorem aBegin_6 (a : Nat → Int) : aBegin a 6 = a 6 ∨ aBegin a 6 = 0 := by
  unfold aBegin
  split
  · exact Or.inl rfl
  · refine Or.inr ?_
    rw [aLogs_lo _ _ _ (by omega) (by omega)]
    unfold aBeg2
    rw [up_ne _ _ (by omega)]
    exact up_at _ _ _
theorem aI_begin {c : Int} (h : aI (c + 1) a) (hc : 0 ≤ c) : aI c (aBegin a) ∧ aBegin a 0 = a 0 := by
  have hn := aNext_b h
  unfold aBegin
  by_cases c1 : aNext a = -6
  · rw [if_pos c1]
    exact ⟨aI_mono h (by omega), rfl⟩
  · rw [if_neg c1]
    obtain ⟨h1, e14, e0, e16, e17, e18⟩ := aBeg1_I (s := aNext a) h (by omega)
    have ht := aTakes_b (s := aNext a) h1
    have hN := h1.2.1
    unfold aN at hN
    have e : ∀ i, i ≠ 7 → aBeg2 a (aNext a) i = aBeg1 a (aNext a) i := fun i h1 => up_ne _ _ h1
    have e7 : aBeg2 a (aNext a) 7 = aBeg1 a (aNext a) 16 + aBeg1 a (aNext a) 17 * aSum (aBeg1 a (aNext a)) (aNext a) (aBeg1 a (aNext a) 18) := up_at _ _ _
    have h2 : aI (c + 1) (aBeg2 a (aNext a)) := by
      refine aI_num h1 ?_ (zr_up h1.1 _ (zr_s (by omega))) (by rw [e 0 (by omega)]; omega) (e 2 (by omega)) (e 8 (by omega)) (e 14 (by omega)) (fun i h1 h2 => e i (by omega))
      unfold aN
      rw [e7, e 0 (by omega), e 1 (by omega), e 2 (by omega), e 3 (by omega), e 4 (by omega), e 5 (by omega), e 6 (by omega), e 8 (by omega), e 9 (by omega), e 10 (by omega), e 11 (by omega), e 12 (by omega), e 13 (by omega), e 14 (by omega), e 15 (by omega), e 16 (by omega), e 17 (by omega), e 18 (by omega), e 19 (by omega)]
      omega
    exact ⟨aI_logs h2 hc (by omega) (by omega), by rw [aLogs_lo _ _ _ (by omega) (by omega), e 0 (by omega), e0]⟩
noncomputable def aTick2 (d : Nat → Int) : Int × (Nat → Int) := if d 5 = -6 then (-6, d) else if (up d 6 (d 6 + 1)) 7 ≤ (up d 6 (d 6 + 1)) 6 then (d 5, aEnd (up d 6 (d 6 + 1))) else (-6, up d 6 (d 6 + 1))
noncomputable def aTick (a : Nat → Int) : Int × (Nat → Int) :=
  if (up a 0 (a 0 + 1)) 15 ≤ (up a 0 (a 0 + 1)) 1 then aTick2 (if (up a 0 (a 0 + 1)) 5 = -6 then aBegin (up a 0 (a 0 + 1)) else up a 0 (a 0 + 1)) else (-6, up (up a 0 (a 0 + 1)) 1 ((up a 0 (a 0 + 1)) 1 + 1))
theorem aI_t0 (h : aI 0 a) (h0 : a 0 < 110000) : aI 22 (up a 0 (a 0 + 1)) := by
  have hN := h.2.1
  unfold aN at hN
  have e : ∀ i, i ≠ 0 → up a 0 (a 0 + 1) i = a i := fun i h1 => up_ne _ _ h1
  refine aI_num h ?_ (zr_up h.1 _ (zr_s (by omega))) (by rw [up_at]; omega) (e 2 (by omega)) (e 8 (by omega)) (e 14 (by omega)) (fun i h1 h2 => e i (by omega))
  unfold aN
  rw [up_at, e 1 (by omega), e 2 (by omega), e 3 (by omega), e 4 (by omega), e 5 (by omega), e 6 (by omega), e 7 (by omega), e 8 (by omega), e 9 (by omega), e 10 (by omega), e 11 (by omega), e 12 (by omega), e 13 (by omega), e 14 (by omega), e 15 (by omega), e 16 (by omega), e 17 (by omega), e 18 (by omega), e 19 (by omega)]
  omega
theorem aI_num1 {c : Int} {k : Nat} {x : Int} (h : aI c a) (hk : k = 1 ∨ k = 6) (hx : 0 ≤ x) (h1 : k = 1 → x ≤ 50) (h6 : k = 6 → x ≤ a 0) : aI c (up a k x) := by
  have hN := h.2.1
  unfold aN at hN
  have e : ∀ i, i ≠ k → up a k x i = a i := fun i h1 => up_ne _ _ h1
  refine aI_num h ?_ (zr_up h.1 _ (zr_s (by omega))) (by rw [e 0 (by omega)]; omega) (e 2 (by omega)) (e 8 (by omega)) (e 14 (by omega)) (fun i h1 h2 => e i (by omega))
  unfold aN
  rw [e 0 (by omega), e 2 (by omega), e 3 (by omega), e 4 (by omega), e 5 (by omega), e 7 (by omega), e 8 (by omega), e 9 (by omega), e 10 (by omega), e 11 (by omega), e 12 (by omega), e 13 (by omega), e 14 (by omega), e 15 (by omega), e 16 (by omega), e 17 (by omega), e 18 (by omega), e 19 (by omega)]
  rcases hk with rfl | rfl
  · rw [up_at, e 6 (by omega)]
    have := h1 rfl
    omega
  · rw [up_at, e 1 (by omega)]
    have := h6 rfl
    omega
/-- the row in the middle of a tick -/
theorem aMid (h : aI 0 a) (h0 : a 0 < 110000) : aI 21 (if (up a 0 (a 0 + 1)) 5 = -6 then aBegin (up a 0 (a 0 + 1)) else up a 0 (a 0 + 1)) ∧ (if (up a 0 (a 0 + 1)) 5 = -6 then aBegin (up a 0 (a 0 + 1)) else up a 0 (a 0 + 1)) 0 = a 0 + 1 ∧ (if (up a 0 (a 0 + 1)) 5 = -6 then aBegin (up a 0 (a 0 + 1)) else up a 0 (a 0 + 1)) 6 ≤ a 0 := by
  have h1 := aI_t0 h h0
  have hN := h.2.1
  unfold aN at hN
  have e6 : up a 0 (a 0 + 1) 6 = a 6 := up_ne _ _ (by omega)
  split
  · obtain ⟨h2, h3⟩ := aI_begin (c := 21) h1 (by omega)
    refine ⟨h2, by rw [h3, up_at], ?_⟩
    rcases aBegin_6 (up a 0 (a 0 + 1)) with h4 | h4 <;> rw [h4] <;> omega
  · exact ⟨aI_mono h1 (by omega), up_at _ _ _, by omega⟩
theorem aTick_I (h : aI 0 a) (h0 : a 0 < 110000) : aI 0 (aTick a).2 ∧ (aTick a).2 0 = a 0 + 1 ∧ ((aTick a).1 = -6 ∨ 0 ≤ (aTick a).1 ∧ (aTick a).1 ≤ 7) := by
  have h1 := aI_t0 h h0
  have hN := h1.2.1
  unfold aN at hN
  obtain ⟨h2, h3, h36⟩ := aMid h h0
  unfold aTick
  split
  · generalize (if (up a 0 (a 0 + 1)) 5 = -6 then aBegin (up a 0 (a 0 + 1)) else up a 0 (a 0 + 1)) = d at h2 h3 h36 ⊢
    have hN2 := h2.2.1
    unfold aN at hN2
    unfold aTick2
    split
    · exact ⟨aI_mono h2 (by omega), h3, Or.inl rfl⟩
    · have e5 : up d 6 (d 6 + 1) 5 = d 5 := up_ne _ _ (by omega)
      have e0 : up d 6 (d 6 + 1) 0 = d 0 := up_ne _ _ (by omega)
      have e6 : up d 6 (d 6 + 1) 6 = d 6 + 1 := up_at _ _ _
      have e7 : up d 6 (d 6 + 1) 7 = d 7 := up_ne _ _ (by omega)
      · have h4 : aI 21 (up d 6 (d 6 + 1)) := aI_num1 h2 (Or.inr rfl) (by omega) (by omega) (by omega)
        split
        · obtain ⟨h5, h6, h7⟩ := aI_end (c := 0) (a := up d 6 (d 6 + 1)) h4 (by omega) (by omega)
          exact ⟨h5, by dsimp only; rw [h6, e0, h3], by dsimp only; omega⟩
        · exact ⟨aI_mono h4 (by omega), by dsimp only; rw [e0, h3], Or.inl rfl⟩
  · have e0 : up (up a 0 (a 0 + 1)) 1 ((up a 0 (a 0 + 1)) 1 + 1) 0 = a 0 + 1 := by rw [up_ne _ _ (by omega), up_at]
    exact ⟨aI_mono (aI_num1 h1 (Or.inl rfl) (by omega) (by omega) (by omega)) (by omega), e0, Or.inl rfl⟩
/-- n ticks, and how many checks end in them -/
noncomputable def aTicks (a : Nat → Int) : Nat → Nat → Int
  | 0 => a
  | n + 1 => (aTick (aTicks a n)).2
noncomputable def aEnds (a : Nat → Int) (k : Nat) : Int := if (aTick (aTicks a k)).1 = -6 then 0 else 1
theorem aTicks_I (h : aI 0 a) : ∀ n : Nat, a 0 + n ≤ 110000 → aI 0 (aTicks a n) ∧ aTicks a n 0 = a 0 + n := by
  intro n
  induction n with
  | zero => exact fun _ => ⟨h, by show a 0 = a 0 + (0 : Nat); omega⟩
  | succ n ih =>
    intro hn
    obtain ⟨h1, h2⟩ := ih (by omega)
    obtain ⟨h3, h4, -⟩ := aTick_I h1 (by omega)
    exact ⟨h3, by show (aTick (aTicks a n)).2 0 = _; rw [h4, h2]; omega⟩
end PM7
