/-! the model: the whole end of a check, a tick, many ticks -/
section PM6
variable {a : Nat → Int} {r : (Nat → Int32) × (Nat → Int32) × Int32 × (Nat → Int32) × Int32 × Int32 × Int32 × Int32 × Int32 × Int32}
theorem aEnd_facts {c : Int} (h : aI (c + 21) a) (hc : 0 ≤ c) (h5 : 0 ≤ a 5 ∧ a 5 ≤ 7) : aI (c + 20) (aEnd0 a) ∧ (aEnd0 a 2 = a 2 ∧ aEnd0 a 0 = a 0 ∧ aEnd0 a 5 = -6) ∧ ∀ k : Nat, (k : Int) ≤ a 2 →
    (((eLoop (a 5) (aEnd0 a) k).1 ≤ k ∧ (∀ i, zr ((eLoop (a 5) (aEnd0 a) k).2 i)) ∧ (aEnd0 a 14 ≤ (eLoop (a 5) (aEnd0 a) k).2 14 ∧ (eLoop (a 5) (aEnd0 a) k).2 14 ≤ aEnd0 a 14 + k) ∧ (0 ≤ (eLoop (a 5) (aEnd0 a) k).2 3 ∧ (eLoop (a 5) (aEnd0 a) k).2 3 ≤ aEnd0 a 3) ∧ (0 ≤ (eLoop (a 5) (aEnd0 a) k).2 11 ∧ (eLoop (a 5) (aEnd0 a) k).2 11 ≤ (eLoop (a 5) (aEnd0 a) k).2 14) ∧ (∀ i, i < 34 → i ≠ 3 → i ≠ 11 → i ≠ 14 → (eLoop (a 5) (aEnd0 a) k).2 i = aEnd0 a i) ∧ (∀ i, 34 + 2 * k ≤ i → i < 74 → (eLoop (a 5) (aEnd0 a) k).2 i = aEnd0 a i)) ∧ aE (eLoop (a 5) (aEnd0 a) k).2 ∧ ∀ j, j < (eLoop (a 5) (aEnd0 a) k).1 → okS (eLoop (a 5) (aEnd0 a) k).2 j) := by
  have hc1 : c + 20 + 1 = c + 21 := by omega
  have h0 := aI_end0 (c := c + 20) (by rw [hc1]; exact h) (by omega) h5
  have e2 : aEnd0 a 2 = a 2 := by
    rw [aEnd0_lo a h5 (by omega) (by omega), if_neg (by omega), if_neg (by omega), if_neg (by omega), if_neg (by omega), if_neg (by omega), if_neg (by omega)]
  have e0 : aEnd0 a 0 = a 0 := by
    rw [aEnd0_lo a h5 (by omega) (by omega), if_neg (by omega), if_neg (by omega), if_neg (by omega), if_neg (by omega), if_neg (by omega), if_neg (by omega)]
  have e5 : aEnd0 a 5 = -6 := by rw [aEnd0_lo a h5 (by omega) (by omega), if_neg (by omega), if_neg (by omega), if_neg (by omega), if_neg (by omega), if_neg (by omega), if_pos rfl]
  have hN := h0.2.1
  unfold aN at hN
  refine ⟨h0, ⟨e2, e0, e5⟩, fun k hk => eLoop_inv h0.1 (by omega) (by omega) (by omega) (by omega) (by omega) (by omega) h0.2.2.2.2.2 h0.2.2.2.2.1 h5 k (by omega)⟩
theorem zr0_ne (b : Nat → Int) (n j : Nat) {i : Nat} (h : i < 34 + 2 * n ∨ 74 ≤ i) (hj : n + j ≤ 20) : zr0 b n j i = b i := if_neg (by omega)
theorem aI_end {c : Int} (h : aI (c + 21) a) (hc : 0 ≤ c) (h5 : 0 ≤ a 5 ∧ a 5 ≤ 7) : aI c (aEnd a) ∧ aEnd a 0 = a 0 ∧ aEnd a 5 = -6 := by
  have hN0 := h.2.1
  unfold aN at hN0
  obtain ⟨h0, ⟨e2, e0, e5⟩, hk⟩ := aEnd_facts h hc h5
  obtain ⟨⟨i1, i2, i3, i4, i5, i6, i7⟩, i8, i9⟩ := hk (a 2).toNat (by omega)
  have hN := h0.2.1
  unfold aN at hN
  have e14 := aEnd0_14 a
  unfold aEnd aEnd1
  generalize (eLoop (a 5) (aEnd0 a) (a 2).toNat) = L at i1 i2 i3 i4 i5 i6 i7 i8 i9 ⊢
  obtain ⟨n, b⟩ := L
  dsimp only at i1 i2 i3 i4 i5 i6 i7 i8 i9 ⊢
  have ez : ∀ i, (i < 34 + 2 * n ∨ 74 ≤ i) → i ≠ 2 → zr0 (up b 2 n) n ((a 2).toNat - n) i = b i := fun i h1 h2 => by
    rw [zr0_ne _ _ _ h1 (by omega), up_ne _ _ h2]
  have ez2 : zr0 (up b 2 n) n ((a 2).toNat - n) 2 = n := by
    rw [zr0_ne _ _ _ (by omega) (by omega), up_at]
  have el : ∀ i, i < 34 → i ≠ 2 → i ≠ 3 → i ≠ 11 → i ≠ 14 → zr0 (up b 2 n) n ((a 2).toNat - n) i = aEnd0 a i := fun i h1 h2 h3 h4 h5 => by
    rw [ez i (by omega) h2]
    exact i6 i h1 h3 h4 h5
  refine ⟨⟨?_, ?_, ?_, ?_, ?_, ?_⟩, by rw [el 0 (by omega) (by omega) (by omega) (by omega) (by omega), e0], by rw [el 5 (by omega) (by omega) (by omega) (by omega) (by omega), e5]⟩
  · intro i
    unfold zr0
    split
    · exact zr_s (by omega)
    · exact zr_up i2 _ (zr_s (by omega)) i
  · unfold aN
    rw [ez2, ez 3 (by omega) (by omega), ez 11 (by omega) (by omega), ez 14 (by omega) (by omega), el 0 (by omega) (by omega) (by omega) (by omega) (by omega), el 1 (by omega) (by omega) (by omega) (by omega) (by omega), el 4 (by omega) (by omega) (by omega) (by omega) (by omega), el 5 (by omega) (by omega) (by omega) (by omega) (by omega), el 6 (by omega) (by omega) (by omega) (by omega) (by omega), el 7 (by omega) (by omega) (by omega) (by omega) (by omega), el 8 (by omega) (by omega) (by omega) (by omega) (by omega), el 9 (by omega) (by omega) (by omega) (by omega) (by omega), el 10 (by omega) (by omega) (by omega) (by omega) (by omega), el 12 (by omega) (by omega) (by omega) (by omega) (by omega), el 13 (by omega) (by omega) (by omega) (by omega) (by omega), el 15 (by omega) (by omega) (by omega) (by omega) (by omega), el 16 (by omega) (by omega) (by omega) (by omega) (by omega), el 17 (by omega) (by omega) (by omega) (by omega) (by omega), el 18 (by omega) (by omega) (by omega) (by omega) (by omega), el 19 (by omega) (by omega) (by omega) (by omega) (by omega)]
    omega
  · exact aS_of h0.2.2.1 (by rw [el 0 (by omega) (by omega) (by omega) (by omega) (by omega)]; omega) (fun k hk => el _ (by omega) (by omega) (by omega) (by omega) (by omega))
  · exact aL_of h0.2.2.2.1 (el 8 (by omega) (by omega) (by omega) (by omega) (by omega)) (by omega) (fun k hk => el _ (by omega) (by omega) (by omega) (by omega) (by omega))
  · intro k hk
    rw [ez2] at hk
    have := i9 k (by omega)
    unfold okS at this
    rw [ez (34 + 2 * k) (by omega) (by omega), ez (34 + 2 * k + 1) (by omega) (by omega)]
    exact this
  · exact aE_of i8 (by rw [ez 0 (by omega) (by omega)]; omega) (ez 14 (by omega) (by omega)) (fun i h1 h2 => ez i (Or.inr h1) (by omega))
theorem m_endsCheck {c : Int} (h : aI (c + 21) a) (hc : 0 ≤ c) (h5 : 0 ≤ a 5 ∧ a 5 ≤ 7) : q_X7_endsCheck (zM a, r) = some (zM (aEnd a)) := by
  have hN0 := h.2.1
  unfold aN at hN0
  obtain ⟨h0, ⟨e2, e0, e5⟩, hk⟩ := aEnd_facts h hc h5
  have hN := h0.2.1
  unfold aN at hN
  have e14 := aEnd0_14 a
  have es : ∀ i, i ≠ 5 → i ≠ 6 → i ≠ 7 → aStop a i = a i := fun i h1 h2 h3 => by
    unfold aStop
    rw [up_ne _ _ h3, up_ne _ _ h2, up_ne _ _ h1]
  unfold q_X7_endsCheck zn
  rw [m_stops, zb_some]
  dsimp only
  rw [zs_M (a := aStop a) (i := 20 + (a 5).toNat) (z := a 0) (by rw [zM_at, show a 5 = ((a 5).toNat : Nat) by omega]; exact zI_k 20 _) (by rw [zM_at, es 0 (by omega) (by omega) (by omega)]) (by omega)]
  rw [show zM a 5 = zI (a 5) from rfl, zM_up, zM_at, up_ne _ _ (show 9 ≠ 13 by omega), up_ne _ _ (show 9 ≠ 20 + (a 5).toNat by omega), es 9 (by omega) (by omega) (by omega), show zI (a 9) + 1 = zI (a 9 + 1) from zI_a1 _, zM_up]
  rw [show q_X7_logs (zM (up (up (up (aStop a) (20 + (a 5).toNat) (a 0)) 13 (a 5)) 9 (a 9 + 1)), _) 3 (zI (a 5)) = some (zM (aEnd0 a)) from m_logs (k := 3) (by rw [up_ne _ _ (by omega), up_ne _ _ (by omega), up_ne _ _ (by omega), es 14 (by omega) (by omega) (by omega)]; omega), zb_some]
  rw [zl_run (fun k => (zI ((eLoop (a 5) (aEnd0 a) k).1 : Nat), zI k, zM (eLoop (a 5) (aEnd0 a) k).2)) (a := ((0 : Int32), (0 : Int32), zM (aEnd0 a))) (b := (zI ((aEnd1 a).1 : Nat), zM (aEnd1 a).2)) (a 2).toNat rfl (by omega) ?_ ?_, zb_some]
  · obtain ⟨⟨i1, i2, i3, i4, i5, i6, i7⟩, i8, i9⟩ := hk (a 2).toNat (by omega)
    have e21 : aEnd1 a = eLoop (a 5) (aEnd0 a) (a 2).toNat := rfl
    rw [← e21] at i1 i2 i3 i4 i5 i6 i7 i8 i9
    unfold q_X7_endsCheck_J235 zn aEnd
    dsimp only
    rw [zM_up]
    generalize aEnd1 a = L at i1 ⊢
    obtain ⟨n, b⟩ := L
    dsimp only at i1 ⊢
    rw [zl_run (fun k => (zI ((n + k : Nat) : Int), zM (zr0 (up b 2 n) n k))) (a := (zI (n : Nat), zM (up b 2 n))) (b := zM (zr0 (up b 2 n) n ((a 2).toNat - n))) ((a 2).toNat - n) ?_ (by omega) ?_ ?_, zb_some]
    · congr 2
      funext i
      unfold zr0
      rw [if_neg (by omega)]
    · intro k hk
      unfold q_X7_endsCheck_L245
      dsimp only
      rw [if_neg (show ¬ zM (aEnd0 a) 2 ≤ zI ((n + k : Nat) : Int) from fun q => by
        have h9 : zM (aEnd0 a) 2 = zI (a 2) := by rw [zM_at, e2]
        rw [h9, zI_le (zr_s (by omega)) (zr_s (by omega))] at q
        omega)]
      rw [zs_M (i := 34 + 2 * (n + k)) (z := 0) (show (34 : Int32) + 2 * zI ((n + k : Nat) : Int) = _ from zi_lin 34 2 (n + k)) (show (0 : Int32) = zI 0 from rfl) (by omega), zs_M (i := 34 + 2 * (n + k) + 1) (z := 0) (show (34 : Int32) + 2 * zI ((n + k : Nat) : Int) + 1 = _ from zi_lin1 34 2 (n + k)) (show (0 : Int32) = zI 0 from rfl) (by omega), zI_1]
      congr 2
      congr 1
      congr 1
      funext i
      unfold up zr0
      by_cases c1 : i = 34 + 2 * (n + k) + 1
      · rw [if_pos c1, if_pos (by omega)]
      · rw [if_neg c1]
        by_cases c2 : i = 34 + 2 * (n + k)
        · rw [if_pos c2, if_pos (by omega)]
        · rw [if_neg c2]
          by_cases c3 : 34 + 2 * n ≤ i ∧ i < 34 + 2 * n + 2 * k
          · rw [if_pos c3, if_pos (by omega)]
          · rw [if_neg c3, if_neg (by omega)]
    · unfold q_X7_endsCheck_L245
      dsimp only
      rw [if_pos (show zM (aEnd0 a) 2 ≤ zI ((n + ((a 2).toNat - n) : Nat) : Int) by rw [zM_at, e2]; exact zle_p (zr_s (by omega)) (zr_s (by omega)) (by omega))]
  · intro k hk2
    obtain ⟨⟨i1, i2, i3, i4, i5, i6, i7⟩, i8, i9⟩ := hk k (by omega)
    exact m_eStep (a := a) (sp := a 5) (b := (eLoop (a 5) (aEnd0 a) k).2) (n := (eLoop (a 5) (aEnd0 a) k).1) i2 (by omega) rfl (zr_s (by omega)) (by omega) (by omega) (by omega)
  · unfold q_X7_endsCheck_L63
    dsimp only
    rw [if_pos (show zM (aEnd0 a) 2 ≤ zI ((a 2).toNat : Nat) by rw [zM_at, e2]; exact zle_p (zr_s (by omega)) (zr_s (by omega)) (by omega))]
    rfl
end PM6
