/-! the model: the whole end of a check, a tick, many ticks -/
section PM6
variable {a : Nat → Int} {r : (Nat → Int32) × (Nat → Int32) × Int32 × (Nat → Int32) × Int32 × Int32 × Int32 × Int32 × Int32 × Int32}
theorem aEnd_facts {c : Int} (h : aI (c + 21) a) (hc : 0 ≤ c) (h5 : 0 ≤ a 5 ∧ a 5 ≤ 7) : aI (c + 20) (aEnd0 a) ∧ (aEnd0 a 2 = a 2 ∧ aEnd0 a 0 = a 0 ∧ aEnd0 a 5 = -6) ∧ ∀ k : Nat, (k : Int) ≤ a 2 →
    (((eLoop (a 5) (aEnd0 a) k).1 ≤ k ∧ (∀ i, zr ((eLoop (a 5) (aEnd0 a) k).2 i)) ∧ (aEnd0 a 14 ≤ (eLoop (a 5) (aEnd0 a) k).2 14 ∧ (eLoop (a 5) (aEnd0 a) k).2 14 ≤ aEnd0 a 14 + k) ∧ (0 ≤ (eLoop (a 5) (aEnd0 a) k).2 3 ∧ (eLoop (a 5) (aEnd0 a) k).2 3 ≤ aEnd0 a 3) ∧ (0 ≤ (eLoop (a 5) (aEnd0 a) k).2 11 ∧ (eLoop (a 5) (aEnd0 a) k).2 11 ≤ (eLoop (a 5) (aEnd0 a) k).2 14) ∧ (∀ i, i < 34 → i ≠ 3 → i ≠ 11 → i ≠ 14 → (eLoop (a 5) (aEnd0 a) k).2 i = aEnd0 a i) ∧ (∀ i, 34 + 2 * k ≤ i → i < 74 → (eLoop (a 5) (aEnd0 a) k).2 i = aEnd0 a i)) ∧ aE (eLoop (a 5) (aEnd0 a) k).2 ∧ ∀ j, j < (eLoop (a 5) (aEnd0 a) k).1 → okS (eLoop (a 5) (aEnd0 a) k).2 j) := by
  have hc1 : c + 20 + 1 = c + 21 := by omega
  have h0 := aI_end0 (c := c + 20) (by rw [hc1]; exact h) (by omega) h5
  have e2 : aEnd0 a 2 = a 2 := by
    rw [aEnd0_lo a h5 (by omega) (by omega), if_neg (by omega), if_neg (by omega), if_neg (by omega), if_neg (by omega), if_neg (by omega), if_neg (by omega)]
  have e0 : aEnd0 a 0 = a 0 := by
    rw [aEnd0_lo a h5 (by omega) (by omega), if_neg (by omega), if_neg (by omega), if_neg (by omega), if_neg (by omega), if_neg (by omega), if_neg (by omega)]
  have e5 : aEnd0 a 5 = -6 := by rw [aEnd0_lo a h5 (by omega) (by omega), if_neg (by omega), if_neg (by omega), if_neg (by omega), if_neg (by omega), if_neg (by omega), if_pos rfl]
  have hN := h0.2.1
  unfold aN at hN
  refine ⟨h0, ⟨e2, e0, e5⟩, fun k hk => eLoop_inv h0.1 (by omega) (by omega) (by omega) (by omega) (by omega) (by omega) h0.2.2.2.2.2 h0.2.2.2.2.1 h5 k (by omega)⟩
theorem zr0_ne (b : Nat → Int) (n j : Nat) {i : Nat} (h : i < 34 + 2 * n ∨ 74 ≤ i) (hj : n + j ≤ 20) : zr0 b n j i = b i := if_neg (by omega)
theorem aI_end {c : Int} (h : aI (c + 21) a) (hc : 0 ≤ c) (h5 : 0 ≤ a 5 ∧ a 5 ≤ 7) : aI c (aEnd a) ∧ aEnd a 0 = a 0 ∧ aEnd a 5 = -6 := by
  have hN0 := h.2.1
  unfold aN at hN0
  obtain ⟨h0, ⟨e2, e0, e5⟩, hk⟩ := aEnd_facts h hc h5
  obtain ⟨⟨i1, i2, i3, i4, i5, i6, i7⟩, i8, i9⟩ := hk (a 2).toNat (by omega)
  have hN := h0.2.1
  unfold aN at hN
  have e14 := aEnd0_14 a
  unfold aEnd aEnd1
  generalize (eLoop (a 5) (aEnd0 a) (a 2).toNat) = L at i1 i2 i3 i4 i5 i6 i7 i8 i9 ⊢
  obtain ⟨n, b⟩ := L
  dsimp only at i1 i2 i3 i4 i5 i6 i7 i8 i9 ⊢
  have ez : ∀ i, (i < 34 + 2 * n ∨ 74 ≤ i) → i ≠ 2 → zr0 (up b 2 n) n ((a 2).toNat - n) i = b i := fun i h1 h2 => by
    rw [zr0_ne _ _ _ h1 (by omega), up_ne _ _ h2]
  have ez2 : zr0 (up b 2 n) n ((a 2).toNat - n) 2 = n := by
    rw [zr0_ne _ _ _ (by omega) (by omega), up_at]
  have el : ∀ i, i < 34 → i ≠ 2 → i ≠ 3 → i ≠ 11 → i ≠ 14 → zr0 (up b 2 n) n ((a 2).toNat - n) i = aEnd0 a i := fun i h1 h2 h3 h4 h5 => by
    rw [ez i (by omega) h2]
    exact i6 i h1 h3 h4 h5
  refine ⟨⟨?_, ?_, ?_, ?_, ?_, ?_⟩, by rw [el 0 (by omega) (by omega) (by omega) (by omega) (by omega), e0], by rw [el 5 (by omega) (by omega) (by omega) (by omega) (by omega), e5]⟩
  · intro i
    unfold zr0
    split
    · exact zr_s (by omega)
    · exact zr_up i2 _ (zr_s (by omega)) i
  · unfold aN
    rw [ez2, ez 3 (by omega) (by omega), ez 11 (by omega) (by omega), ez 14 (by omega) (by omega), el 0 (by omega) (by omega) (by omega) (by omega) (by omega), el 1 (by omega) (by omega) (by omega) (by omega) (by omega), el 4 (by omega) (by omega) (by omega) (by omega) (by omega), el 5 (by omega) (by omega) (by omega) (by omega) (by omega), el 6 (by omega) (by omega) (by omega) (by omega) (by omega), el 7 (by omega) (by omega) (by omega) (by omega) (by omega), el 8 (by omega) (by omega) (by omega) (by omega) (by omega), el 9 (by omega) (by omega) (by omega) (by omega) (by omega), el 10 (by omega) (by omega) (by omega) (by omega) (by omega), el 12 (by omega) (by omega) (by omega) (by omega) (by omega), el 13 (by omega) (by omega) (by omega) (by omega) (by omega), el 15 (by omega) (by omega) (by omega) (by omega) (by omega), el 16 (by omega) (by omega) (by omega) (by omega) (by omega), el 17 (by omega) (by omega) (by omega) (by omega) (by omega), el 18 (by omega) (by omega) (by omega) (by omega) (by omega), el 19 (by omega) (by omega) (by omega) (by omega) (by omega)]
    omega
  · exact aS_of h0.2.2.1 (by rw [el 0 (by omega) (by omega) (by omega) (by omega) (by omega)]; omega) (fun k hk => el _ (by omega) (by omega) (by omega) (by omega) (by omega))
  · exact aL_of h0.2.2.2.1 (el 8 (by omega) (by omega) (by omega) (by omega) (by omega)) (by omega) (fun k hk => el _ (by omega) (by omega) (by omega) (by omega) (by omega))
  · intro k hk
    rw [ez2] at hk
    have := i9 k (by omega)
    unfold okS at this
    rw [ez (34 + 2 * k) (by omega) (by omega), ez (34 + 2 * k + 1) (by omega) (by omega)]
    exact this
  · exact aE_of i8 (by rw [ez 0 (by omega) (by omega)]; omega) (ez 14 (by omega) (by omega)) (fun i h1 h2 => ez i (Or.inr h1) (by omega))
end PM6
