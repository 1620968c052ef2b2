/-! a spot more -/
section PA
variable {a : Nat → Int} {r : (Nat → Int32) × (Nat → Int32) × Int32 × (Nat → Int32) × Int32 × Int32 × Int32 × Int32 × Int32 × Int32}
def aAdd (a : Nat → Int) (s t : Int) : Nat → Int := up (ePut a (a 2).toNat s t) 2 (a 2 + 1)
theorem aAdd_ne {s t : Int} {i : Nat} (h2 : 0 ≤ a 2 ∧ a 2 < 20) (h : i ≠ 2) (h3 : i < 34 ∨ 74 ≤ i) : aAdd a s t i = a i := by
  unfold aAdd
  rw [up_ne _ _ h, ePut_ne (by omega)]
theorem aI_add {c s t : Int} (h : aI c a) (h2 : a 2 < 20) (hs : 0 ≤ s ∧ s ≤ 7) (ht : 1 ≤ t ∧ t ≤ 9) : aI c (aAdd a s t) := by
  obtain ⟨hr, hN, hS, hL, hP, hE⟩ := h
  have hN' := hN
  unfold aN at hN'
  have e : ∀ i, i ≠ 2 → (i < 34 ∨ 74 ≤ i) → aAdd a s t i = a i := fun i w1 w2 => aAdd_ne (by omega) w1 w2
  have e2 : aAdd a s t 2 = a 2 + 1 := up_at _ _ _
  refine ⟨zr_up (zr_up (zr_up hr _ (zr_s (by omega))) _ (zr_s (by omega))) _ (zr_s (by omega)), ?_, aS_of hS (by rw [e 0 (by omega) (by omega)]; omega) (fun k hk => e _ (by omega) (by omega)), aL_of hL (e 8 (by omega) (by omega)) (by omega) (fun k hk => e _ (by omega) (by omega)), fun k hk => ?_, aE_of hE (by rw [e 0 (by omega) (by omega)]; omega) (e 14 (by omega) (by omega)) (fun i w1 w2 => e i (by omega) (by omega))⟩
  · unfold aN
    rw [e2, e 0 (by omega) (by omega), e 1 (by omega) (by omega), e 3 (by omega) (by omega), e 4 (by omega) (by omega), e 5 (by omega) (by omega), e 6 (by omega) (by omega), e 7 (by omega) (by omega), e 8 (by omega) (by omega), e 9 (by omega) (by omega), e 10 (by omega) (by omega), e 11 (by omega) (by omega), e 12 (by omega) (by omega), e 13 (by omega) (by omega), e 14 (by omega) (by omega), e 15 (by omega) (by omega), e 16 (by omega) (by omega), e 17 (by omega) (by omega), e 18 (by omega) (by omega), e 19 (by omega) (by omega)]
    omega
  · rw [e2] at hk
    have := okS_put (b := a) (w := a) (n := (a 2).toNat) (s := s) (t := t) (fun i _ _ => rfl) (fun j hj => hP j (by omega)) hs ht (by omega) k (by omega)
    unfold okS at this
    unfold aAdd
    rw [up_ne _ _ (by omega), up_ne _ _ (by omega)]
    exact this
theorem c_takeSpot {d : tX1} {c s t : Int} (h : aI c a) (hd : dR d a) (h2 : a 2 < 20) (hs : 0 ≤ s ∧ s ≤ 7) (ht : 1 ≤ t ∧ t ≤ 9) : ∃ s' : tX5, q_X1_takeSpot d (zI s) (zI t) = some (zI (aCnt (aAdd a s t) s), s') ∧ sR s' (aAdd a s t) := by
  have hI := aI_add h h2 hs ht
  have hN := h.2.1
  unfold aN at hN
  have hNI := hI.2.1
  unfold aN at hNI
  have hsR := hd.2.2.1
  have e2 : aAdd a s t 2 = a 2 + 1 := up_at _ _ _
  obtain ⟨s', v1, v2, v3, v4⟩ := c_append (sp := s) (t := t) (show (a 2).toNat < 20 by omega) hsR.1 (by rw [hsR.2]; congr 1; omega)
  have hR' : sR s' (aAdd a s t) := by
    refine ⟨?_, ?_⟩
    · rw [e2, show (a 2 + 1).toNat = (a 2).toNat + 1 by omega]
      exact sRn_of v2 (fun i w1 w2 => by unfold aAdd; rw [up_ne _ _ (by omega)])
    · rw [e2, v3]
      congr 1
      omega
  refine ⟨s', ?_, hR'⟩
  unfold q_X1_takeSpot
  rw [c_isSpan (zr_s (by omega)), zb_some, if_pos hs, if_neg (by decide), if_neg (show ¬ zI t < 1 from zlt_n (y := 1) (zr_s (by omega)) (zr_s (by omega)) (by omega)), if_pos (show zI t ≤ 9 from zle_p (y := 9) (zr_s (by omega)) (zr_s (by omega)) (by omega)), v1, zb_some]
  dsimp only
  rw [if_neg (by decide), c_sizeOf hI.1 (by omega) (zr_s (by omega)) hR', zb_some]
end PA
