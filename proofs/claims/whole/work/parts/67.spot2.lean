/-! class and model side by side: spot -/
section PB
variable {u : tX6} {v : tX7} {x y : Int32}
theorem t_3 (h : TR u v) : ∃ o, qL_3 x y u v = some o ∧ TR o.1 o.2 := by
  obtain ⟨a, hI, h9, hv, hd, hh, ht, hj⟩ := id h
  obtain ⟨st, kept, hs, rec, r⟩ := v
  dsimp only at hv hh ht
  subst hv
  have hN := hI.2.1
  unfold aN at hN
  obtain ⟨p, hp, rfl⟩ := zI_ex x
  obtain ⟨q, hq, rfl⟩ := zI_ex y
  obtain ⟨rows', hdr, hno, w', hh', rec', hrec, hhR, hyes⟩ := h_step (kept := kept) (r := r) hI h9 hd hh
  obtain ⟨q1, q2, q3, q4, q5, n1, n2, n3, n4, n5, n6, n7, n8, n9, n10, n11, n12⟩ := id hd
  have e1 : (zI q < 1) ↔ q < 1 := zI_lt (y := 1) hq (zr_s (by omega))
  have e2 : (zI q ≤ 9) ↔ q ≤ 9 := zI_le (y := 9) hq (zr_s (by omega))
  have no : ∀ z : Int, zr z → z < 0 → q_X1_takeSpot u.1 (zI p) (zI q) = some (zI z, u.1.2.2.1) → q_X7_whyNotSpot (zM a, kept, hs, rec, r) (zI p) (zI q) = some (zI z) → ∃ o, qL_3 (zI p) (zI q) u (zM a, kept, hs, rec, r) = some o ∧ TR o.1 o.2 := by
    intro z hz h0 k1 k2
    obtain ⟨k3, k4⟩ := hno z hz h0
    unfold qL_3 q_X6_spot q_X7_spot
    rw [hdr, zb_some, k1, zb_some]
    dsimp only
    rw [k3, zb_some, zb_some, k2, zb_some, if_neg (show ¬ (0 : Int32) ≤ zI z from zle_n (x := 0) (zr_s (by omega)) hz h0), zb_some]
    dsimp only
    rw [if_pos rfl]
    exact ⟨_, rfl, a, hI, h9, rfl, hd, k4, ht, hj⟩
  by_cases c1 : 0 ≤ p ∧ p ≤ 7
  · by_cases c2 : 1 ≤ q ∧ q ≤ 9
    · by_cases c3 : a 2 = 20
      · refine no (-4) (zr_s (by omega)) (by omega) ?_ ?_
        · unfold q_X1_takeSpot q_X5_append
          rw [c_isSpan hp, zb_some, if_pos c1, if_neg (by decide), if_neg (by rw [e1]; omega), if_pos (by rw [e2]; omega), q3.2, if_neg (show ¬ zI (a 2) < 20 from zlt_n (y := 20) (hI.1 2) (zr_s (by omega)) (by omega)), zb_some]
          dsimp only
          rw [if_pos rfl, zm4]
        · unfold q_X7_whyNotSpot
          rw [m_isSpan hp, zb_some, if_pos c1, if_neg (by decide), show q_X7_within (zI q) 1 9 = _ from m_within hq (l := 1) (h := 9) (zr_s (by omega)) (zr_s (by omega)), zb_some, if_pos c2, if_neg (by decide)]
          dsimp only
          rw [if_pos (show zM a 2 = 20 by rw [zM_at, c3]; rfl), zm4]
      · obtain ⟨s', k1, k2⟩ := c_takeSpot hI hd (by omega) c1 c2
        have hI' := aI_add hI (by omega) c1 c2
        have hNI := hI'.2.1
        unfold aN at hNI
        have hb := zsum_le (g := gCnt (aAdd a p q) p) (c := 1) (n := (aAdd a p q 2).toNat) (fun k _ => by unfold gCnt; split <;> omega)
        have hb2 : 0 ≤ aCnt (aAdd a p q) p ∧ aCnt (aAdd a p q) p ≤ 20 := by unfold aCnt; omega
        have e : ∀ i, i ≠ 2 → (i < 34 ∨ 74 ≤ i) → aAdd a p q i = a i := fun i w1 w2 => aAdd_ne (by omega) w1 w2
        have kw : q_X7_whyNotSpot (zM a, kept, hs, rec, r) (zI p) (zI q) = some 0 := by
          unfold q_X7_whyNotSpot
          rw [m_isSpan hp, zb_some, if_pos c1, if_neg (by decide), show q_X7_within (zI q) 1 9 = _ from m_within hq (l := 1) (h := 9) (zr_s (by omega)) (zr_s (by omega)), zb_some, if_pos c2, if_neg (by decide)]
          dsimp only
          rw [if_neg (show ¬ zM a 2 = 20 from zeq_n (y := 20) (hI.1 2) (zr_s (by omega)) c3)]
        unfold qL_3 q_X6_spot q_X7_spot
        rw [hdr, zb_some, k1, zb_some]
        dsimp only
        rw [hyes _ (zr_s (by omega)) hb2.1, zb_some, zb_some, kw, zb_some, if_pos (by decide), hrec, zb_some, show q_X7_adds (zM a, _) (zI p) (zI q) = _ from m_adds hI (by omega) c1 c2, zb_some, zb_some]
        dsimp only
        rw [if_pos rfl]
        refine ⟨_, rfl, aAdd a p q, hI', by rw [e 0 (by omega) (by omega)]; exact h9, rfl, ⟨fun k hk => ?_, fun k hk => ?_, k2, qR_of q4 (e 8 (by omega) (by omega)) (by omega) (fun k hk => e _ (by omega) (by omega)), lR_of q5 (e 14 (by omega) (by omega)) (fun i w1 w2 => e i (by omega) (by omega)), ?_⟩, hhR, ht, hj⟩
        · dsimp only
          rw [e _ (by omega) (by omega)]
          exact q1 k hk
        · dsimp only
          rw [e _ (by omega) (by omega)]
          exact q2 k hk
        · unfold nR
          dsimp only
          rw [e 4 (by omega) (by omega), e 3 (by omega) (by omega), e 0 (by omega) (by omega), e 1 (by omega) (by omega), e 5 (by omega) (by omega), e 6 (by omega) (by omega), e 7 (by omega) (by omega), e 13 (by omega) (by omega), e 9 (by omega) (by omega), e 10 (by omega) (by omega), e 11 (by omega) (by omega), e 12 (by omega) (by omega)]
          exact ⟨n1, n2, n3, n4, n5, n6, n7, n8, n9, n10, n11, n12⟩
    · refine no (-2) (zr_s (by omega)) (by omega) ?_ ?_
      · unfold q_X1_takeSpot
        rw [c_isSpan hp, zb_some, if_pos c1, if_neg (by decide)]
        by_cases c4 : q < 1
        · rw [if_pos (by rw [e1]; exact c4), zm2]
        · rw [if_neg (by rw [e1]; exact c4), if_neg (by rw [e2]; omega), zm2]
      · unfold q_X7_whyNotSpot
        rw [m_isSpan hp, zb_some, if_pos c1, if_neg (by decide), show q_X7_within (zI q) 1 9 = _ from m_within hq (l := 1) (h := 9) (zr_s (by omega)) (zr_s (by omega)), zb_some, if_neg c2, if_pos rfl, zm2]
  · refine no (-1) (zr_s (by omega)) (by omega) ?_ ?_
    · unfold q_X1_takeSpot
      rw [c_isSpan hp, zb_some, if_neg c1, if_pos rfl, zm1]
    · unfold q_X7_whyNotSpot
      rw [m_isSpan hp, zb_some, if_neg c1, if_pos rfl, zm1]
end PB
