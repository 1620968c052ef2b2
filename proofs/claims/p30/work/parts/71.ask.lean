/-! class and model side by side: ask -/
section PK
variable {u : tX6} {x y : Int32} {a : Nat → Int} {r : (Nat → Int32) × (Nat → Int32) × Int32 × (Nat → Int32) × Int32 × Int32 × Int32 × Int32 × Int32 × Int32}
/-- why a span is not asked for; 0: it is -/
def aWhy (a : Nat → Int) (s : Int) : Int := if 0 ≤ s ∧ s ≤ 7 then (if aPlace a s = -6 then (if a 5 = s then -3 else if a 8 = 6 then -4 else 0) else -3) else -1
theorem aWhy_b (a : Nat → Int) (s : Int) : -4 ≤ aWhy a s ∧ aWhy a s ≤ 0 := by
  unfold aWhy
  split
  · split
    · split
      · omega
      · split <;> omega
    · omega
  · omega
theorem aWhy_0 {s : Int} (h : aWhy a s = 0) : (0 ≤ s ∧ s ≤ 7) ∧ aPlace a s = -6 ∧ a 8 ≠ 6 := by
  unfold aWhy at h
  split at h
  · split at h
    · split at h
      · omega
      · split at h
        · omega
        · exact ⟨by assumption, by assumption, by assumption⟩
    · omega
  · omega
def aAsk (a : Nat → Int) (s : Int) : Nat → Int := up (up a (28 + (a 8).toNat) s) 8 (a 8 + 1)
theorem aAsk_ne {s : Int} {i : Nat} (h8 : 0 ≤ a 8 ∧ a 8 < 6) (h : i ≠ 8) (h2 : i < 28 ∨ 34 ≤ i) : aAsk a s i = a i := by
  unfold aAsk
  rw [up_ne _ _ h, up_ne _ _ (by omega)]
theorem aAsk_8 {s : Int} : aAsk a s 8 = a 8 + 1 := up_at _ _ _
theorem aPl_b (a : Nat → Int) (s : Int) (h : 0 ≤ a 8 ∧ a 8 ≤ 6) : aPlace a s = -6 ∨ 0 ≤ aPlace a s ∧ aPlace a s < a 8 := by
  rcases pl_cases a s (a 8).toNat with ⟨k1, -⟩ | ⟨k, k1, k2, k3⟩
  · exact Or.inl k1
  · have : aPlace a s = k := k3
    omega
theorem aI_ask {c s : Int} (h : aI c a) (hs : 0 ≤ s ∧ s ≤ 7) (hp : aPlace a s = -6) (h6 : a 8 ≠ 6) : aI c (aAsk a s) := by
  obtain ⟨hr, hN, hS, hL, hP, hE⟩ := h
  have hN' := hN
  unfold aN at hN'
  obtain ⟨n, hn⟩ : ∃ n : Nat, n = (a 8).toNat := ⟨_, rfl⟩
  have e : ∀ i, i ≠ 8 → (i < 28 ∨ 34 ≤ i) → aAsk a s i = a i := fun i w1 w2 => aAsk_ne (by omega) w1 w2
  have el : ∀ k : Nat, k < n → aAsk a s (28 + k) = a (28 + k) := fun k hk => by
    unfold aAsk
    rw [up_ne _ _ (by omega), up_ne _ _ (by omega)]
  have en : aAsk a s (28 + n) = s := by
    unfold aAsk
    rw [up_ne _ _ (by omega), hn, up_at]
  have hno : ∀ k : Nat, k < n → a (28 + k) ≠ s := by
    rcases pl_cases a s (a 8).toNat with ⟨-, k2⟩ | ⟨k, k1, k2, k3⟩
    · exact fun k hk => k2 k (by omega)
    · have : aPlace a s = k := k3
      omega
  have e8 : aAsk a s 8 = a 8 + 1 := aAsk_8
  refine ⟨zr_up (zr_up hr _ (zr_s (by omega))) _ (zr_s (by omega)), ?_, aS_of hS (by rw [e 0 (by omega) (by omega)]; omega) (fun k hk => e _ (by omega) (by omega)), ⟨fun k hk => ?_, fun j k hk hjk => ?_⟩, aP_of hP (e 2 (by omega) (by omega)) (by omega) (fun i w1 w2 => e i (by omega) (by omega)), aE_of hE (by rw [e 0 (by omega) (by omega)]; omega) (e 14 (by omega) (by omega)) (fun i w1 w2 => e i (by omega) (by omega))⟩
  · unfold aN
    rw [e8, e 0 (by omega) (by omega), e 1 (by omega) (by omega), e 2 (by omega) (by omega), e 3 (by omega) (by omega), e 4 (by omega) (by omega), e 5 (by omega) (by omega), e 6 (by omega) (by omega), e 7 (by omega) (by omega), e 9 (by omega) (by omega), e 10 (by omega) (by omega), e 11 (by omega) (by omega), e 12 (by omega) (by omega), e 13 (by omega) (by omega), e 14 (by omega) (by omega), e 15 (by omega) (by omega), e 16 (by omega) (by omega), e 17 (by omega) (by omega), e 18 (by omega) (by omega), e 19 (by omega) (by omega)]
    omega
  · rw [e8] at hk
    by_cases c1 : k = n
    · rw [c1, en]
      exact hs
    · rw [el k (by omega)]
      exact hL.1 k (by omega)
  · rw [e8] at hk
    by_cases c1 : k = n
    · rw [c1, en, el j (by omega)]
      exact hno j (by omega)
    · rw [el k (by omega), el j (by omega)]
      exact hL.2 j k (by omega) hjk
/-- the row behind an asking -/
def aAsk' (a : Nat → Int) (s : Int) : Nat → Int := if aWhy a s = 0 then aAsk a s else a
theorem aI_ask' {c s : Int} (h : aI c a) : aI c (aAsk' a s) := by
  unfold aAsk'
  split
  · obtain ⟨w1, w2, w3⟩ := aWhy_0 (by assumption)
    exact aI_ask h w1 w2 w3
  · exact h
theorem aAsk'_ne {c s : Int} {i : Nat} (h : aI c a) (h1 : i ≠ 8) (h2 : i < 28 ∨ 34 ≤ i) : aAsk' a s i = a i := by
  have hN := h.2.1
  unfold aN at hN
  unfold aAsk'
  split
  · obtain ⟨w1, w2, w3⟩ := aWhy_0 (by assumption)
    exact aAsk_ne (by omega) h1 h2
  · rfl
theorem c_askByHand {d : tX1} {c s : Int} (h : aI c a) (hs : zr s) (hd : dR d a) : ∃ q' : tX0, q_X1_askByHand d (zI s) = some (zI (if aWhy a s = 0 then a 8 else aWhy a s), q') ∧ qR q' (aAsk' a s) ∧ (aWhy a s ≠ 0 → q' = d.2.2.2.1) := by
  have hN := h.2.1
  unfold aN at hN
  have hp := aPl_b a s (by omega)
  have hq := hd.2.2.2.1
  have n5 := hd.2.2.2.2.2.2.2.2.2.1
  have no : ∀ z : Int, aWhy a s = z → z ≠ 0 → q_X1_askByHand d (zI s) = some (zI z, d.2.2.2.1) → ∃ q' : tX0, q_X1_askByHand d (zI s) = some (zI (if aWhy a s = 0 then a 8 else aWhy a s), q') ∧ qR q' (aAsk' a s) ∧ (aWhy a s ≠ 0 → q' = d.2.2.2.1) := by
    intro z hz h0 he
    refine ⟨d.2.2.2.1, ?_, ?_, fun _ => rfl⟩
    · rw [he, if_neg (by omega), hz]
    · unfold aAsk'
      rw [if_neg (by omega)]
      exact hq
  by_cases c1 : 0 ≤ s ∧ s ≤ 7
  · by_cases c2 : aPlace a s = -6
    · by_cases c3 : a 5 = s
      · refine no (-3) (by unfold aWhy; rw [if_pos c1, if_pos c2, if_pos c3]) (by omega) ?_
        unfold q_X1_askByHand
        rw [c_isSpan hs, zb_some, if_pos c1, if_neg (by decide), c_placeOf h hs hq, zb_some, c2, if_pos (show zI (-6) = -6 from z6.symm), n5, if_pos (show zI s = zI (a 5) by rw [c3]), zm3]
      · by_cases c4 : a 8 = 6
        · refine no (-4) (by unfold aWhy; rw [if_pos c1, if_pos c2, if_neg c3, if_pos c4]) (by omega) ?_
          unfold q_X1_askByHand q_X0_append
          rw [c_isSpan hs, zb_some, if_pos c1, if_neg (by decide), c_placeOf h hs hq, zb_some, c2, if_pos (show zI (-6) = -6 from z6.symm), n5, if_neg (show ¬ zI s = zI (a 5) from zeq_n hs (h.1 5) (fun q => c3 q.symm)), hq.2, if_neg (show ¬ zI (a 8) < 6 from zlt_n (y := 6) (h.1 8) (zr_s (by omega)) (by omega)), zb_some]
          dsimp only
          rw [if_pos rfl, zm4]
        · have hw : aWhy a s = 0 := by unfold aWhy; rw [if_pos c1, if_pos c2, if_neg c3, if_neg c4]
          obtain ⟨n, hn⟩ : ∃ n : Nat, n = (a 8).toNat := ⟨_, rfl⟩
          have ea : a 8 = (n : Int) := by omega
          refine ⟨(upd d.2.2.2.1.1 n (zI s), zI (a 8 + 1)), ?_, ?_, fun q => absurd hw q⟩
          · unfold q_X1_askByHand q_X0_append zn
            rw [c_isSpan hs, zb_some, if_pos c1, if_neg (by decide), c_placeOf h hs hq, zb_some, c2, if_pos (show zI (-6) = -6 from z6.symm), n5, if_neg (show ¬ zI s = zI (a 5) from zeq_n hs (h.1 5) (fun q => c3 q.symm)), hq.2, if_pos (show zI (a 8) < 6 from zlt_p (y := 6) (h.1 8) (zr_s (by omega)) (by omega)), ea, zs_N (by omega) (by omega), zb_some]
            dsimp only
            rw [if_neg (show ¬ (1 : Int32) = 0 by decide), if_pos hw, zI_a1, show zI ((n : Int) + 1) - 1 = zI ((n : Int) + 1 - 1) from zI_sub _ 1, show (n : Int) + 1 - 1 = (n : Int) by omega]
          · unfold aAsk'
            rw [if_pos hw]
            refine ⟨fun k hk => ?_, by rw [aAsk_8]⟩
            rw [aAsk_8] at hk
            dsimp only
            unfold aAsk
            rw [up_ne _ _ (by omega)]
            by_cases c5 : k = n
            · rw [c5, upd_at, hn, up_at]
            · rw [upd_ne' _ _ c5, up_ne _ _ (by omega)]
              exact hq.1 k (by omega)
    · refine no (-3) (by unfold aWhy; rw [if_pos c1, if_neg c2]) (by omega) ?_
      unfold q_X1_askByHand
      rw [c_isSpan hs, zb_some, if_pos c1, if_neg (by decide), c_placeOf h hs hq, zb_some, if_neg (show ¬ zI (aPlace a s) = -6 by rw [z6]; exact zeq_n (zr_s (by omega)) (zr_s (by omega)) c2), zm3]
  · refine no (-1) (by unfold aWhy; rw [if_neg c1]) (by omega) ?_
    unfold q_X1_askByHand
    rw [c_isSpan hs, zb_some, if_neg c1, if_pos rfl, zm1]
/-- a disk behind a change of its list -/
theorem dR_list {d d' : tX1} {b : Nat → Int} (hd : dR d a) (h2 : 0 ≤ a 2 ∧ a 2 ≤ 20) (hq : qR d'.2.2.2.1 b) (e : ∀ i, i ≠ 8 → (i < 28 ∨ 34 ≤ i) → b i = a i) (w1 : d'.1 = d.1) (w2 : d'.2.1 = d.2.1) (w3 : d'.2.2.1 = d.2.2.1) (w4 : d'.2.2.2.2 = d.2.2.2.2) : dR d' b := by
  obtain ⟨q1, q2, q3, q4, q5, q6⟩ := hd
  refine ⟨fun j hj => ?_, fun j hj => ?_, ?_, hq, ?_, ?_⟩
  · rw [w1, e _ (by omega) (by omega)]
    exact q1 j hj
  · rw [w2, e _ (by omega) (by omega)]
    exact q2 j hj
  · rw [w3]
    exact sR_of q3 (e 2 (by omega) (by omega)) h2 (fun i v1 v2 => e i (by omega) (by omega))
  · rw [w4]
    exact lR_of q5 (e 14 (by omega) (by omega)) (fun i v1 v2 => e i (by omega) (by omega))
  · unfold nR at q6 ⊢
    rw [w4, e 4 (by omega) (by omega), e 3 (by omega) (by omega), e 0 (by omega) (by omega), e 1 (by omega) (by omega), e 5 (by omega) (by omega), e 6 (by omega) (by omega), e 7 (by omega) (by omega), e 13 (by omega) (by omega), e 9 (by omega) (by omega), e 10 (by omega) (by omega), e 11 (by omega) (by omega), e 12 (by omega) (by omega)]
    exact q6
end PK
