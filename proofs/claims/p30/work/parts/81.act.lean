/-! the class's calls that change a row -/
section PX2
variable {u : tX6} {a : Nat → Int}
theorem aI_num4 {j : Nat} {q : Int} (hI : aI 0 a) (hN : aN 0 (up a j q)) (hq : zr q) (hj : j ≠ 0 ∧ j ≠ 2 ∧ j ≠ 8 ∧ j ≠ 14 ∧ j < 20) : aI 0 (up a j q) := by
  have e : ∀ i, i ≠ j → up a j q i = a i := fun i w => up_ne _ _ w
  exact aI_num hI hN (zr_up hI.1 _ hq) (by rw [e 0 (by omega)]; omega) (e 2 (by omega)) (e 8 (by omega)) (e 14 (by omega)) (fun i w1 w2 => e i (by omega))
theorem k_set (h : UR u a) {k : Nat} {q : Int} (hk : k < 5) (hq : loS k ≤ q ∧ q ≤ hiS k) : ∃ r, q_X6_set u (zI k) (zI q) = some r ∧ r.1 = zI (a (15 + k)) ∧ UR ((r.2.1, u.1.2), u.2.1, r.2.2, u.2.2.2) (up a (15 + k) q) := by
  obtain ⟨hI, h9, hd, hh, hj⟩ := h
  have hN := hI.2.1
  unfold aN at hN
  have b1 := loS_b k
  have b2 := hiS_b k
  have hz : zr q := zr_s (by omega)
  obtain ⟨rows', hdr, hy⟩ := h_keep hI hd hh
  obtain ⟨w', hw1, hw2⟩ := hy (a (15 + k)) (hI.1 _)
  obtain ⟨q1, q2, q3, q4, q5, q6⟩ := id hd
  have e : ∀ i, i ≠ 15 + k → up a (15 + k) q i = a i := fun i w1 => up_ne _ _ w1
  refine ⟨(zI (a (15 + k)), upd u.1.1 k (zI q), w'), ?_, rfl, aI_num4 hI (aN_set hI.2.1 hk hq) hz (by omega), by rw [e 0 (by omega)]; exact h9, ⟨fun j hj => ?_, fun j hj => ?_, sR_of q3 (e 2 (by omega)) (by omega) (fun i v1 v2 => e i (by omega)), qR_of q4 (e 8 (by omega)) (by omega) (fun j hj => e _ (by omega)), lR_of q5 (e 14 (by omega)) (fun i v1 v2 => e i (by omega)), nR_of (show nR _ a from q6) (fun i hi => e i (by omega))⟩, hw2, hj⟩
  · unfold q_X6_set
    rw [hdr, zb_some, c_change hk hz hd, if_pos hq, zb_some]
    dsimp only
    rw [hw1, zb_some]
  · dsimp only
    by_cases c3 : j = k
    · rw [c3, upd_at, up_at]
    · rw [upd_ne' _ _ c3, e _ (by omega)]
      exact q1 j hj
  · dsimp only
    rw [e _ (by omega)]
    exact q2 j hj
theorem k_setWay (h : UR u a) {p : Int} (hp : 0 ≤ p ∧ p ≤ 2) : ∃ r, q_X6_setWay u (zI p) = some r ∧ r.1 = zI (a 4) ∧ UR ((u.1.1, u.1.2.1, u.1.2.2.1, u.1.2.2.2.1, u.1.2.2.2.2.1, r.2.1, u.1.2.2.2.2.2.2), u.2.1, r.2.2, u.2.2.2) (up a 4 p) := by
  obtain ⟨hI, h9, hd, hh, hj⟩ := h
  have hN := hI.2.1
  unfold aN at hN
  obtain ⟨rows', hdr, hy⟩ := h_keep hI hd hh
  obtain ⟨w', hw1, hw2⟩ := hy (a 4) (hI.1 _)
  obtain ⟨q1, q2, q3, q4, q5, n1, n2, n3, n4, n5, n6, n7, n8, n9, n10, n11, n12⟩ := id hd
  have e : ∀ i, i ≠ 4 → up a 4 p i = a i := fun i w1 => up_ne _ _ w1
  refine ⟨(zI (a 4), zI p, w'), ?_, rfl, aI_way hI hp, by rw [e 0 (by omega)]; exact h9, ?_, hw2, hj⟩
  · unfold q_X6_setWay q_X1_changeWay
    rw [hdr, zb_some, if_neg (show ¬ zI p < 0 from zlt_n (y := 0) (zr_s (by omega)) (zr_s (by omega)) (by omega)), if_pos (show zI p < 3 from zlt_p (y := 3) (zr_s (by omega)) (zr_s (by omega)) (by omega)), zb_some, n1]
    dsimp only
    rw [hw1, zb_some]
  · refine dR_num hd (by omega) (by omega) (e 2 (by omega)) (e 8 (by omega)) (e 14 (by omega)) (fun i w1 w2 => e i (by omega)) ⟨rfl, rfl, rfl, rfl⟩ rfl ?_
    unfold nR
    dsimp only
    rw [up_at, e 3 (by omega), e 0 (by omega), e 1 (by omega), e 5 (by omega), e 6 (by omega), e 7 (by omega), e 13 (by omega), e 9 (by omega), e 10 (by omega), e 11 (by omega), e 12 (by omega)]
    exact ⟨rfl, n2, n3, n4, n5, n6, n7, n8, n9, n10, n11, n12⟩
theorem k_addSpares (h : UR u a) {p : Int} (hp : 1 ≤ p ∧ p ≤ 9) (hc : a 3 + p ≤ 50) : ∃ r, q_X6_addSpares u (zI p) = some r ∧ r.1 = zI (a 3 + p) ∧ UR ((u.1.1, u.1.2.1, u.1.2.2.1, u.1.2.2.2.1, u.1.2.2.2.2.1, u.1.2.2.2.2.2.1, r.2.1, u.1.2.2.2.2.2.2.2), u.2.1, r.2.2, u.2.2.2) (up a 3 (a 3 + p)) := by
  obtain ⟨hI, h9, hd, hh, hj⟩ := h
  have hN := hI.2.1
  unfold aN at hN
  obtain ⟨rows', hdr, hy⟩ := h_keep hI hd hh
  obtain ⟨w', hw1, hw2⟩ := hy (a 3 + p) (zr_s (by omega))
  obtain ⟨q1, q2, q3, q4, q5, n1, n2, n3, n4, n5, n6, n7, n8, n9, n10, n11, n12⟩ := id hd
  have e : ∀ i, i ≠ 3 → up a 3 (a 3 + p) i = a i := fun i w1 => up_ne _ _ w1
  refine ⟨(zI (a 3 + p), zI (a 3 + p), w'), ?_, rfl, aI_num4 hI ?_ (zr_s (by omega)) (by omega), by rw [e 0 (by omega)]; exact h9, ?_, hw2, hj⟩
  · unfold q_X6_addSpares q_X1_takeSpares zn
    rw [hdr, zb_some, if_neg (show ¬ zI p < 1 from zlt_n (y := 1) (zr_s (by omega)) (zr_s (by omega)) (by omega)), if_pos (show zI p ≤ 9 from zle_p (y := 9) (zr_s (by omega)) (zr_s (by omega)) (by omega)), n2, zI_add, if_pos (show zI (a 3 + p) ≤ 50 from zle_p (y := 50) (zr_s (by omega)) (zr_s (by omega)) hc), zb_some]
    dsimp only
    rw [hw1, zb_some]
  · unfold aN
    rw [up_at, e 0 (by omega), e 1 (by omega), e 2 (by omega), e 4 (by omega), e 5 (by omega), e 6 (by omega), e 7 (by omega), e 8 (by omega), e 9 (by omega), e 10 (by omega), e 11 (by omega), e 12 (by omega), e 13 (by omega), e 14 (by omega), e 15 (by omega), e 16 (by omega), e 17 (by omega), e 18 (by omega), e 19 (by omega)]
    omega
  · refine dR_num hd (by omega) (by omega) (e 2 (by omega)) (e 8 (by omega)) (e 14 (by omega)) (fun i w1 w2 => e i (by omega)) ⟨rfl, rfl, rfl, rfl⟩ rfl ?_
    unfold nR
    dsimp only
    rw [up_at, e 4 (by omega), e 0 (by omega), e 1 (by omega), e 5 (by omega), e 6 (by omega), e 7 (by omega), e 13 (by omega), e 9 (by omega), e 10 (by omega), e 11 (by omega), e 12 (by omega)]
    exact ⟨n1, rfl, n3, n4, n5, n6, n7, n8, n9, n10, n11, n12⟩
theorem k_addSpares_no (h : UR u a) {p : Int} (hp : 1 ≤ p ∧ p ≤ 9) (hc : ¬ a 3 + p ≤ 50) : ∃ r, q_X6_addSpares u (zI p) = some r ∧ r.1 = zI (-4) ∧ UR ((u.1.1, u.1.2.1, u.1.2.2.1, u.1.2.2.2.1, u.1.2.2.2.2.1, u.1.2.2.2.2.2.1, r.2.1, u.1.2.2.2.2.2.2.2), u.2.1, r.2.2, u.2.2.2) a := by
  obtain ⟨hI, h9, hd, hh, hj⟩ := h
  have hN := hI.2.1
  unfold aN at hN
  obtain ⟨rows', hdr, hy⟩ := h_keep hI hd hh
  obtain ⟨w', hw1, hw2⟩ := hy (-4) (zr_s (by omega))
  obtain ⟨q1, q2, q3, q4, q5, n1, n2, n3, n4, n5, n6, n7, n8, n9, n10, n11, n12⟩ := id hd
  refine ⟨(zI (-4), u.1.2.2.2.2.2.2.1, w'), ?_, rfl, hI, h9, hd, hw2, hj⟩
  unfold q_X6_addSpares q_X1_takeSpares zn
  rw [hdr, zb_some, if_neg (show ¬ zI p < 1 from zlt_n (y := 1) (zr_s (by omega)) (zr_s (by omega)) (by omega)), if_pos (show zI p ≤ 9 from zle_p (y := 9) (zr_s (by omega)) (zr_s (by omega)) (by omega)), if_neg (show ¬ u.1.2.2.2.2.2.2.1 + zI p ≤ 50 by rw [n2, zI_add]; exact zle_n (y := 50) (zr_s (by omega)) (zr_s (by omega)) (by omega)), zb_some]
  dsimp only
  rw [zm4, hw1, zb_some]
theorem k_spot (h : UR u a) {s t : Int} (hs : 0 ≤ s ∧ s ≤ 7) (ht : 1 ≤ t ∧ t ≤ 9) (h2 : a 2 < 20) : ∃ r, q_X6_spot u (zI s) (zI t) = some r ∧ r.1 = zI (aCnt (aAdd a s t) s) ∧ UR ((u.1.1, u.1.2.1, r.2.1, u.1.2.2.2), u.2.1, r.2.2, u.2.2.2) (aAdd a s t) := by
  obtain ⟨hI, h9, hd, hh, hj⟩ := h
  have hN := hI.2.1
  unfold aN at hN
  obtain ⟨rows', hdr, hy⟩ := h_keep hI hd hh
  obtain ⟨q1, q2, q3, q4, q5, n1, n2, n3, n4, n5, n6, n7, n8, n9, n10, n11, n12⟩ := id hd
  obtain ⟨s', k1, k2⟩ := c_takeSpot hI hd h2 hs ht
  have hI' := aI_add hI h2 hs ht
  have hNI := hI'.2.1
  unfold aN at hNI
  have hb : 0 ≤ aCnt (aAdd a s t) s ∧ aCnt (aAdd a s t) s ≤ (aAdd a s t 2).toNat := cN_b _ s _
  obtain ⟨w', hw1, hw2⟩ := hy (aCnt (aAdd a s t) s) (zr_s (by omega))
  have e : ∀ i, i ≠ 2 → (i < 34 ∨ 74 ≤ i) → aAdd a s t i = a i := fun i w1 w2 => aAdd_ne (by omega) w1 w2
  refine ⟨(zI (aCnt (aAdd a s t) s), s', w'), ?_, rfl, hI', by rw [e 0 (by omega) (by omega)]; exact h9, ⟨fun k hk => ?_, fun k hk => ?_, k2, qR_of q4 (e 8 (by omega) (by omega)) (by omega) (fun k hk => e _ (by omega) (by omega)), lR_of q5 (e 14 (by omega) (by omega)) (fun i w1 w2 => e i (by omega) (by omega)), ?_⟩, hw2, hj⟩
  · unfold q_X6_spot
    rw [hdr, zb_some, k1, zb_some]
    dsimp only
    rw [hw1, zb_some]
  · dsimp only
    rw [e _ (by omega) (by omega)]
    exact q1 k hk
  · dsimp only
    rw [e _ (by omega) (by omega)]
    exact q2 k hk
  · unfold nR
    dsimp only
    rw [e 4 (by omega) (by omega), e 3 (by omega) (by omega), e 0 (by omega) (by omega), e 1 (by omega) (by omega), e 5 (by omega) (by omega), e 6 (by omega) (by omega), e 7 (by omega) (by omega), e 13 (by omega) (by omega), e 9 (by omega) (by omega), e 10 (by omega) (by omega), e 11 (by omega) (by omega), e 12 (by omega) (by omega)]
    exact ⟨n1, n2, n3, n4, n5, n6, n7, n8, n9, n10, n11, n12⟩
theorem k_spot_no (h : UR u a) {s t : Int} (hs : 0 ≤ s ∧ s ≤ 7) (ht : 1 ≤ t ∧ t ≤ 9) (h2 : a 2 = 20) : ∃ r, q_X6_spot u (zI s) (zI t) = some r ∧ r.1 = zI (-4) ∧ UR ((u.1.1, u.1.2.1, r.2.1, u.1.2.2.2), u.2.1, r.2.2, u.2.2.2) a := by
  obtain ⟨hI, h9, hd, hh, hj⟩ := h
  have hN := hI.2.1
  unfold aN at hN
  obtain ⟨rows', hdr, hy⟩ := h_keep hI hd hh
  obtain ⟨w', hw1, hw2⟩ := hy (-4) (zr_s (by omega))
  obtain ⟨q1, q2, q3, q4, q5, q6⟩ := id hd
  refine ⟨(zI (-4), u.1.2.2.1, w'), ?_, rfl, hI, h9, hd, hw2, hj⟩
  unfold q_X6_spot q_X1_takeSpot q_X5_append
  rw [hdr, zb_some, c_isSpan (zr_s (by omega)), zb_some, if_pos hs, if_neg (by decide), if_neg (show ¬ zI t < 1 from zlt_n (y := 1) (zr_s (by omega)) (zr_s (by omega)) (by omega)), if_pos (show zI t ≤ 9 from zle_p (y := 9) (zr_s (by omega)) (zr_s (by omega)) (by omega)), if_neg (show ¬ u.1.2.2.1.2.2 < 20 by rw [q3.2]; exact zlt_n (y := 20) (hI.1 2) (zr_s (by omega)) (by omega)), zb_some]
  dsimp only
  rw [if_pos rfl, zb_some]
  dsimp only
  rw [zm4, hw1, zb_some]
theorem k_ask (h : UR u a) {s : Int} (hs : zr s) : ∃ r, q_X6_ask u (zI s) = some r ∧ r.1 = zI (if aWhy a s = 0 then a 8 else aWhy a s) ∧ UR ((u.1.1, u.1.2.1, u.1.2.2.1, r.2.1, u.1.2.2.2.2), u.2.1, r.2.2, u.2.2.2) (aAsk' a s) := by
  obtain ⟨hI, h9, hd, hh, hj⟩ := h
  have hN := hI.2.1
  unfold aN at hN
  obtain ⟨rows', hdr, hy⟩ := h_keep hI hd hh
  obtain ⟨q', k1, k2, k3⟩ := c_askByHand hI hs hd
  have hb := aWhy_b a s
  obtain ⟨w', hw1, hw2⟩ := hy (if aWhy a s = 0 then a 8 else aWhy a s) (zr_s (by split <;> omega))
  refine ⟨(zI (if aWhy a s = 0 then a 8 else aWhy a s), q', w'), ?_, rfl, aI_ask' hI, by rw [aAsk'_ne hI (by omega) (by omega)]; exact h9, dR_list hd (by omega) k2 (fun i v1 v2 => aAsk'_ne hI v1 v2) rfl rfl rfl rfl, hw2, hj⟩
  unfold q_X6_ask
  rw [hdr, zb_some, k1, zb_some]
  dsimp only
  rw [hw1, zb_some]
theorem k_unask (h : UR u a) {s : Int} (hs : 0 ≤ s ∧ s ≤ 7) : ∃ r, q_X6_unask u (zI s) = some r ∧ (aPlace a s = -6 → r.1 = zI (-3) ∧ UR ((u.1.1, u.1.2.1, u.1.2.2.1, r.2.1, u.1.2.2.2.2), u.2.1, r.2.2, u.2.2.2) a) ∧ ∀ k : Nat, aPlace a s = k → r.1 = zI (a 8 - 1) ∧ UR ((u.1.1, u.1.2.1, u.1.2.2.1, r.2.1, u.1.2.2.2.2), u.2.1, r.2.2, u.2.2.2) (aTake a k) := by
  obtain ⟨hI, h9, hd, hh, hj⟩ := h
  have hN := hI.2.1
  unfold aN at hN
  have hp : zr s := zr_s (by omega)
  obtain ⟨rows', hdr, hy⟩ := h_keep hI hd hh
  obtain ⟨q1, q2, q3, q4, q5, q6⟩ := id hd
  have hpb := aPl_b a s (by omega)
  unfold q_X6_unask q_X1_withdraw
  rw [hdr, zb_some, c_isSpan hp, zb_some, if_pos hs, if_neg (by decide)]
  rcases pl_cases a s (a 8).toNat with ⟨k1, -⟩ | ⟨k, k1, k2, k3⟩
  · have hz : aPlace a s = -6 := k1
    obtain ⟨w', hw1, hw2⟩ := hy (-3) (zr_s (by omega))
    rw [c_drop_no hI hp q4 hz, zb_some]
    dsimp only
    rw [if_pos rfl, zb_some]
    dsimp only
    rw [zm3, hw1, zb_some]
    exact ⟨_, rfl, fun _ => ⟨rfl, hI, h9, hd, hw2, hj⟩, fun k hk => by omega⟩
  · have hz : aPlace a s = k := k3
    obtain ⟨q', w1, w2⟩ := c_drop_yes hI hp q4 hz (by omega)
    obtain ⟨w', hw1, hw2⟩ := hy (a 8 - 1) (zr_s (by omega))
    have e : ∀ i, i ≠ 8 → (i < 28 ∨ 34 ≤ i) → aTake a k i = a i := fun i v1 v2 => aTake_ne a k (by omega) (by omega) v1 v2
    rw [w1, zb_some]
    dsimp only
    rw [if_neg (show ¬ (1 : Int32) = 0 by decide), zb_some]
    dsimp only
    rw [w2.2, aTake_8, hw1, zb_some]
    refine ⟨_, rfl, fun hc => by omega, fun j hj' => ?_⟩
    have ej : j = k := by omega
    subst ej
    exact ⟨rfl, aI_take hI (by omega), by rw [e 0 (by omega) (by omega)]; exact h9, dR_list hd (by omega) w2 (fun i v1 v2 => e i v1 v2) rfl rfl rfl rfl, hw2, hj⟩
theorem k_read (h : UR u a) {s t : Int} (hs : 0 ≤ s ∧ s ≤ 7) (ht : 1 ≤ t ∧ t ≤ 200) (hc : a 0 + t ≤ 99999) : ∃ r, q_X6_read u (zI s) (zI t) = some r ∧ r.1 = zI (aRead a s t).1 ∧ UR (r.2.1, u.2.1, r.2.2, u.2.2.2) (aRead a s t).2 := by
  obtain ⟨hI, h9, hd, hh, hj⟩ := h
  obtain ⟨rows', hdr, hy⟩ := h_keep hI hd hh
  obtain ⟨d', k1, k2⟩ := c_hostReads hI hd hs ht hc
  obtain ⟨i1, i2, i3⟩ := aI_read hI hs ht.1 hc
  obtain ⟨w', hw1, hw2⟩ := hy (aRead a s t).1 (zr_s (by omega))
  refine ⟨(zI (aRead a s t).1, d', w'), ?_, rfl, i1, by rw [i2]; exact hc, k2, hw2, hj⟩
  unfold q_X6_read
  rw [hdr, zb_some, k1, zb_some]
  dsimp only
  rw [hw1, zb_some]
theorem k_quiet (h : UR u a) {n : Nat} (hn : 1 ≤ n ∧ n ≤ 500) (hc : a 0 + n ≤ 99999) : ∃ r, q_X6_quiet u (zI n) = some r ∧ r.1 = zI (zsum (aEnds a) n) ∧ UR (r.2.1, u.2.1, r.2.2, u.2.2.2) (aTicks a n) := by
  obtain ⟨hI, h9, hd, hh, hj⟩ := h
  obtain ⟨rows', hdr, hy⟩ := h_keep hI hd hh
  obtain ⟨d', hq, hdq⟩ := c_passQuietTicks hI hn hc hd
  obtain ⟨hI', h0'⟩ := aTicks_I hI n (by omega)
  have hb := aEnds_b a n
  have e9 := aTicks_9 hI n (by omega)
  have ea : d'.2.2.2.2.2.2.2.2.2.2.2.2.2.1 - u.1.2.2.2.2.2.2.2.2.2.2.2.2.2.1 = zI (zsum (aEnds a) n) := by
    rw [hdq.2.2.2.2.2.2.2.2.2.2.2.2.2.1, hd.2.2.2.2.2.2.2.2.2.2.2.2.2.1, zI_sub, e9]
    congr 1
    omega
  obtain ⟨w', hw1, hw2⟩ := hy (zsum (aEnds a) n) (zr_s (by omega))
  refine ⟨(zI (zsum (aEnds a) n), d', w'), ?_, rfl, hI', by omega, hdq, hw2, hj⟩
  unfold q_X6_quiet
  rw [hdr, zb_some, hq, zb_some]
  dsimp only
  rw [ea, hw1, zb_some]
theorem aStop_e (a : Nat → Int) : aStop a 5 = -6 ∧ aStop a 6 = 0 ∧ aStop a 7 = 0 ∧ ∀ i, i ≠ 5 → i ≠ 6 → i ≠ 7 → aStop a i = a i := by
  unfold aStop
  refine ⟨?_, ?_, up_at _ _ _, fun i w1 w2 w3 => ?_⟩
  · rw [up_ne _ _ (by omega), up_ne _ _ (by omega), up_at]
  · rw [up_ne _ _ (by omega), up_at]
  · rw [up_ne _ _ w3, up_ne _ _ w2, up_ne _ _ w1]
theorem k_giveUp_no (h : UR u a) (h5 : a 5 = -6) : ∃ r, q_X6_giveUp u = some r ∧ r.1 = zI (-3) ∧ UR r.2 a := by
  obtain ⟨hI, h9, hd, hh, hj⟩ := h
  obtain ⟨rows', hdr, hy⟩ := h_keep hI hd hh
  obtain ⟨w', hw1, hw2⟩ := hy (-3) (zr_s (by omega))
  obtain ⟨q1, q2, q3, q4, q5, n1, n2, n3, n4, n5, n6, n7, n8, n9, n10, n11, n12⟩ := id hd
  unfold q_X6_giveUp q_X1_dropCheck
  rw [hdr, zb_some, if_pos (show u.1.2.2.2.2.2.2.2.2.2.1 = -6 by rw [n5, h5, z6]), zb_some]
  dsimp only
  rw [zm3, hw1, zb_some]
  exact ⟨_, rfl, rfl, hI, h9, hd, hw2, hj⟩
theorem k_giveUp (h : UR u a) (h5 : a 5 ≠ -6) : ∃ r, q_X6_giveUp u = some r ∧ r.1 = zI (a 6) ∧ UR r.2 (aStop a) := by
  obtain ⟨hI, h9, hd, hh, hj⟩ := h
  have hN := hI.2.1
  unfold aN at hN
  obtain ⟨rows', hdr, hy⟩ := h_keep hI hd hh
  obtain ⟨w', hw1, hw2⟩ := hy (a 6) (hI.1 6)
  obtain ⟨q1, q2, q3, q4, q5, n1, n2, n3, n4, n5, n6, n7, n8, n9, n10, n11, n12⟩ := id hd
  obtain ⟨e5, e6, e7, e⟩ := aStop_e a
  unfold q_X6_giveUp q_X1_dropCheck q_X1_clearCheck
  rw [hdr, zb_some, if_neg (show ¬ u.1.2.2.2.2.2.2.2.2.2.1 = -6 by rw [n5, z6]; exact zeq_n (hI.1 5) (zr_s (by omega)) h5), zb_some, zb_some]
  dsimp only
  rw [n6, hw1, zb_some]
  refine ⟨_, rfl, rfl, ?_, by rw [e 0 (by omega) (by omega) (by omega)]; exact h9, ?_, hw2, hj⟩
  · refine aI_num hI ?_ (zr_up (zr_up (zr_up hI.1 _ (zr_s (by omega))) _ (zr_s (by omega))) _ (zr_s (by omega))) (by rw [e 0 (by omega) (by omega) (by omega)]; omega) (e 2 (by omega) (by omega) (by omega)) (e 8 (by omega) (by omega) (by omega)) (e 14 (by omega) (by omega) (by omega)) (fun i w1 w2 => e i (by omega) (by omega) (by omega))
    unfold aN
    rw [e5, e6, e7, e 0 (by omega) (by omega) (by omega), e 1 (by omega) (by omega) (by omega), e 2 (by omega) (by omega) (by omega), e 3 (by omega) (by omega) (by omega), e 4 (by omega) (by omega) (by omega), e 8 (by omega) (by omega) (by omega), e 9 (by omega) (by omega) (by omega), e 10 (by omega) (by omega) (by omega), e 11 (by omega) (by omega) (by omega), e 12 (by omega) (by omega) (by omega), e 13 (by omega) (by omega) (by omega), e 14 (by omega) (by omega) (by omega), e 15 (by omega) (by omega) (by omega), e 16 (by omega) (by omega) (by omega), e 17 (by omega) (by omega) (by omega), e 18 (by omega) (by omega) (by omega), e 19 (by omega) (by omega) (by omega)]
    omega
  · refine dR_num hd (by omega) (by omega) (e 2 (by omega) (by omega) (by omega)) (e 8 (by omega) (by omega) (by omega)) (e 14 (by omega) (by omega) (by omega)) (fun i w1 w2 => e i (by omega) (by omega) (by omega)) ⟨rfl, rfl, rfl, rfl⟩ rfl ?_
    unfold nR
    dsimp only
    rw [e5, e6, e7, e 4 (by omega) (by omega) (by omega), e 3 (by omega) (by omega) (by omega), e 0 (by omega) (by omega) (by omega), e 1 (by omega) (by omega) (by omega), e 13 (by omega) (by omega) (by omega), e 9 (by omega) (by omega) (by omega), e 10 (by omega) (by omega) (by omega), e 11 (by omega) (by omega) (by omega), e 12 (by omega) (by omega) (by omega)]
    exact ⟨n1, n2, n3, n4, z6, rfl, rfl, n8, n9, n10, n11, n12⟩
end PX2
