/-! class and model side by side: giveUp, setWay, addSpares -/
theorem dR_num {d d' : tX1} {a b : Nat → Int} (h : dR d a) (h2 : 0 ≤ a 2 ∧ a 2 ≤ 20) (h8 : a 8 ≤ 6) (e2 : b 2 = a 2) (e8 : b 8 = a 8) (e14 : b 14 = a 14) (e : ∀ i, 15 ≤ i → i < 104 → b i = a i) (hd : d'.1 = d.1 ∧ d'.2.1 = d.2.1 ∧ d'.2.2.1 = d.2.2.1 ∧ d'.2.2.2.1 = d.2.2.2.1) (hl : d'.2.2.2.2.1 = d.2.2.2.2.1) (hn : nR d' b) : dR d' b := by
  obtain ⟨hk, hg⟩ := dR_k.mp h
  exact dR_k.mpr ⟨kR_num hk h2 h8 e2 e8 (fun i w1 w2 => e i w1 (by omega)) hd hn, by rw [hl]; exact lR_of hg e14 (fun i w1 w2 => e i (by omega) w2)⟩
section PS
variable {u : tX6} {v : tX7} {x y : Int32}
theorem t_8 (h : TR u v) : ∃ o, qL_8 x y u v = some o ∧ TR o.1 o.2 := by
  obtain ⟨a, hI, h9, hv, hd, hh, ht, hj⟩ := id h
  obtain ⟨st, kept, hs, rec, r⟩ := v
  dsimp only at hv hh ht
  subst hv
  have hN := hI.2.1
  unfold aN at hN
  obtain ⟨rows', hdr, hno, w', hh', rec', hrec, hhR, hyes⟩ := h_step (kept := kept) (r := r) hI h9 hd hh
  obtain ⟨q1, q2, q3, q4, q5, n1, n2, n3, n4, n5, n6, n7, n8, n9, n10, n11, n12⟩ := id hd
  unfold qL_8 q_X6_giveUp q_X7_giveUp q_X1_dropCheck q_X1_clearCheck
  rw [hdr, zb_some]
  dsimp only
  by_cases c1 : a 5 = -6
  · obtain ⟨k1, k2⟩ := hno (-3) (zr_s (by omega)) (by omega)
    rw [if_pos (show u.1.2.2.2.2.2.2.2.2.2.1 = -6 by rw [n5, c1, z6]), zb_some, zm3, k1, zb_some, zb_some, if_pos (show zM a 5 = -6 by rw [zM_at, c1, z6]), zb_some]
    dsimp only
    rw [if_pos rfl]
    exact ⟨_, rfl, a, hI, h9, rfl, hd, k2, ht, hj⟩
  · have hdn : (if u.1.2.2.2.2.2.2.2.2.2.1 = -6 then some ((-3 : Int32), u.1.2.2.2.2.2.2.2.2.2.1, u.1.2.2.2.2.2.2.2.2.2.2.1, u.1.2.2.2.2.2.2.2.2.2.2.2.1) else zb (some ((-6 : Int32), (0 : Int32), (0 : Int32))) fun r18 => some (u.1.2.2.2.2.2.2.2.2.2.2.1, r18.1, r18.2.1, r18.2.2)) = some (zI (a 6), zI (-6), zI 0, zI 0) := by
      rw [if_neg (show ¬ u.1.2.2.2.2.2.2.2.2.2.1 = -6 by rw [n5, z6]; exact zeq_n (hI.1 5) (zr_s (by omega)) c1), zb_some, n6, z6]
      rfl
    rw [hdn, zb_some]
    dsimp only
    rw [hyes (a 6) (hI.1 6) (by omega), zb_some, zb_some, if_neg (show ¬ zM a 5 = -6 by rw [z6]; exact zeq_n (hI.1 5) (zr_s (by omega)) c1), hrec, zb_some, m_stops, zb_some, zb_some]
    dsimp only
    rw [zM_at, if_pos rfl]
    have e : ∀ i, i ≠ 5 → i ≠ 6 → i ≠ 7 → aStop a i = a i := fun i w1 w2 w3 => by
      unfold aStop
      rw [up_ne _ _ w3, up_ne _ _ w2, up_ne _ _ w1]
    have e5 : aStop a 5 = -6 := by
      unfold aStop
      rw [up_ne _ _ (by omega), up_ne _ _ (by omega), up_at]
    have e6 : aStop a 6 = 0 := by
      unfold aStop
      rw [up_ne _ _ (by omega), up_at]
    have e7 : aStop a 7 = 0 := up_at _ _ _
    refine ⟨_, rfl, aStop a, ?_, by rw [e 0 (by omega) (by omega) (by omega)]; exact h9, rfl, ?_, hhR, ht, hj⟩
    · refine aI_num hI ?_ (zr_up (zr_up (zr_up hI.1 _ (zr_s (by omega))) _ (zr_s (by omega))) _ (zr_s (by omega))) (by rw [e 0 (by omega) (by omega) (by omega)]; omega) (e 2 (by omega) (by omega) (by omega)) (e 8 (by omega) (by omega) (by omega)) (e 14 (by omega) (by omega) (by omega)) (fun i w1 w2 => e i (by omega) (by omega) (by omega))
      unfold aN
      rw [e5, e6, e7, e 0 (by omega) (by omega) (by omega), e 1 (by omega) (by omega) (by omega), e 2 (by omega) (by omega) (by omega), e 3 (by omega) (by omega) (by omega), e 4 (by omega) (by omega) (by omega), e 8 (by omega) (by omega) (by omega), e 9 (by omega) (by omega) (by omega), e 10 (by omega) (by omega) (by omega), e 11 (by omega) (by omega) (by omega), e 12 (by omega) (by omega) (by omega), e 13 (by omega) (by omega) (by omega), e 14 (by omega) (by omega) (by omega), e 15 (by omega) (by omega) (by omega), e 16 (by omega) (by omega) (by omega), e 17 (by omega) (by omega) (by omega), e 18 (by omega) (by omega) (by omega), e 19 (by omega) (by omega) (by omega)]
      omega
    · refine dR_num hd (by omega) (by omega) (e 2 (by omega) (by omega) (by omega)) (e 8 (by omega) (by omega) (by omega)) (e 14 (by omega) (by omega) (by omega)) (fun i w1 w2 => e i (by omega) (by omega) (by omega)) ⟨rfl, rfl, rfl, rfl⟩ rfl ?_
      unfold nR
      dsimp only
      rw [e5, e6, e7, e 4 (by omega) (by omega) (by omega), e 3 (by omega) (by omega) (by omega), e 0 (by omega) (by omega) (by omega), e 1 (by omega) (by omega) (by omega), e 13 (by omega) (by omega) (by omega), e 9 (by omega) (by omega) (by omega), e 10 (by omega) (by omega) (by omega), e 11 (by omega) (by omega) (by omega), e 12 (by omega) (by omega) (by omega)]
      exact ⟨n1, n2, n3, n4, rfl, rfl, rfl, n8, n9, n10, n11, n12⟩
theorem t_1 (h : TR u v) : ∃ o, qL_1 x y u v = some o ∧ TR o.1 o.2 := by
  obtain ⟨a, hI, h9, hv, hd, hh, ht, hj⟩ := id h
  obtain ⟨st, kept, hs, rec, r⟩ := v
  dsimp only at hv hh ht
  subst hv
  have hN := hI.2.1
  unfold aN at hN
  obtain ⟨p, hp, rfl⟩ := zI_ex x
  obtain ⟨rows', hdr, hno, w', hh', rec', hrec, hhR, hyes⟩ := h_step (kept := kept) (r := r) hI h9 hd hh
  obtain ⟨q1, q2, q3, q4, q5, n1, n2, n3, n4, n5, n6, n7, n8, n9, n10, n11, n12⟩ := id hd
  have e1 : (zI p < 0) ↔ p < 0 := zI_lt (y := 0) hp (zr_s (by omega))
  have e2 : (zI p < 3) ↔ p < 3 := zI_lt (y := 3) hp (zr_s (by omega))
  unfold qL_1 q_X6_setWay q_X7_setWay
  rw [hdr, zb_some, show q_X7_within (zI p) 0 2 = _ from m_within hp (l := 0) (h := 2) (zr_s (by omega)) (zr_s (by omega)), zb_some]
  by_cases c1 : 0 ≤ p ∧ p ≤ 2
  · have hq : q_X1_changeWay u.1 (zI p) = some (zI (a 4), zI p) := by
      unfold q_X1_changeWay
      rw [if_neg (by rw [e1]; omega), if_pos (by rw [e2]; omega), n1]
    rw [hq, zb_some]
    dsimp only
    rw [hyes (a 4) (hI.1 4) (by omega), zb_some, zb_some, if_pos c1, if_neg (by decide)]
    unfold q_X7_sets
    rw [hrec, zb_some]
    dsimp only
    rw [zg_M (i := 4) (show (4 : Int32) = zI (4 : Nat) from rfl) (by omega), zs_M (i := 4) (z := p) (show (4 : Int32) = zI (4 : Nat) from rfl) rfl (by omega), zb_some, zb_some]
    dsimp only
    rw [if_pos rfl]
    have e : ∀ i, i ≠ 4 → up a 4 p i = a i := fun i w1 => up_ne _ _ w1
    refine ⟨_, rfl, up a 4 p, ?_, by rw [e 0 (by omega)]; exact h9, rfl, ?_, hhR, ht, hj⟩
    · refine aI_num hI ?_ (zr_up hI.1 _ hp) (by rw [e 0 (by omega)]; omega) (e 2 (by omega)) (e 8 (by omega)) (e 14 (by omega)) (fun i w1 w2 => e i (by omega))
      unfold aN
      rw [up_at, e 0 (by omega), e 1 (by omega), e 2 (by omega), e 3 (by omega), e 5 (by omega), e 6 (by omega), e 7 (by omega), e 8 (by omega), e 9 (by omega), e 10 (by omega), e 11 (by omega), e 12 (by omega), e 13 (by omega), e 14 (by omega), e 15 (by omega), e 16 (by omega), e 17 (by omega), e 18 (by omega), e 19 (by omega)]
      omega
    · refine dR_num hd (by omega) (by omega) (e 2 (by omega)) (e 8 (by omega)) (e 14 (by omega)) (fun i w1 w2 => e i (by omega)) ⟨rfl, rfl, rfl, rfl⟩ rfl ?_
      unfold nR
      dsimp only
      rw [up_at, e 3 (by omega), e 0 (by omega), e 1 (by omega), e 5 (by omega), e 6 (by omega), e 7 (by omega), e 13 (by omega), e 9 (by omega), e 10 (by omega), e 11 (by omega), e 12 (by omega)]
      exact ⟨rfl, n2, n3, n4, n5, n6, n7, n8, n9, n10, n11, n12⟩
  · have hq : q_X1_changeWay u.1 (zI p) = some (zI (-2), u.1.2.2.2.2.2.1) := by
      unfold q_X1_changeWay
      by_cases c3 : p < 0
      · rw [if_pos (by rw [e1]; exact c3), zm2]
      · rw [if_neg (by rw [e1]; exact c3), if_neg (by rw [e2]; omega), zm2]
    obtain ⟨k1, k2⟩ := hno (-2) (zr_s (by omega)) (by omega)
    rw [hq, zb_some]
    dsimp only
    rw [k1, zb_some, zb_some, if_neg c1, if_pos rfl, zb_some]
    dsimp only
    rw [if_pos zm2.symm]
    exact ⟨_, rfl, a, hI, h9, rfl, hd, k2, ht, hj⟩
theorem t_2 (h : TR u v) : ∃ o, qL_2 x y u v = some o ∧ TR o.1 o.2 := by
  obtain ⟨a, hI, h9, hv, hd, hh, ht, hj⟩ := id h
  obtain ⟨st, kept, hs, rec, r⟩ := v
  dsimp only at hv hh ht
  subst hv
  have hN := hI.2.1
  unfold aN at hN
  obtain ⟨p, hp, rfl⟩ := zI_ex x
  obtain ⟨rows', hdr, hno, w', hh', rec', hrec, hhR, hyes⟩ := h_step (kept := kept) (r := r) hI h9 hd hh
  obtain ⟨q1, q2, q3, q4, q5, n1, n2, n3, n4, n5, n6, n7, n8, n9, n10, n11, n12⟩ := id hd
  have e1 : (zI p < 1) ↔ p < 1 := zI_lt (y := 1) hp (zr_s (by omega))
  have e2 : (zI p ≤ 9) ↔ p ≤ 9 := zI_le (y := 9) hp (zr_s (by omega))
  unfold qL_2 q_X6_addSpares q_X7_addSpares
  rw [hdr, zb_some, show q_X7_within (zI p) 1 9 = _ from m_within hp (l := 1) (h := 9) (zr_s (by omega)) (zr_s (by omega)), zb_some]
  dsimp only
  by_cases c1 : 1 ≤ p ∧ p ≤ 9
  · have e3 : (zI (a 3 + p) ≤ 50) ↔ a 3 + p ≤ 50 := zI_le (y := 50) (zr_s (by omega)) (zr_s (by omega))
    by_cases c2 : a 3 + p ≤ 50
    · have hq : q_X1_takeSpares u.1 (zI p) = some (zI (a 3 + p), zI (a 3 + p)) := by
        unfold q_X1_takeSpares zn
        rw [if_neg (by rw [e1]; omega), if_pos (by rw [e2]; omega), n2, zI_add, if_pos (by rw [e3]; exact c2)]
      rw [hq, zb_some]
      dsimp only
      rw [hyes (a 3 + p) (zr_s (by omega)) (by omega), zb_some, zb_some, if_pos c1, if_neg (by decide), show zM a 3 + zI p = zI (a 3 + p) from zI_add _ _, if_pos (by rw [e3]; exact c2), hrec, zb_some]
      unfold zn
      dsimp only
      rw [zM_up, zb_some]
      dsimp only
      rw [zM_at, up_at, if_pos rfl]
      have e : ∀ i, i ≠ 3 → up a 3 (a 3 + p) i = a i := fun i w1 => up_ne _ _ w1
      refine ⟨_, rfl, up a 3 (a 3 + p), ?_, by rw [e 0 (by omega)]; exact h9, rfl, ?_, hhR, ht, hj⟩
      · refine aI_num hI ?_ (zr_up hI.1 _ (zr_s (by omega))) (by rw [e 0 (by omega)]; omega) (e 2 (by omega)) (e 8 (by omega)) (e 14 (by omega)) (fun i w1 w2 => e i (by omega))
        unfold aN
        rw [up_at, e 0 (by omega), e 1 (by omega), e 2 (by omega), e 4 (by omega), e 5 (by omega), e 6 (by omega), e 7 (by omega), e 8 (by omega), e 9 (by omega), e 10 (by omega), e 11 (by omega), e 12 (by omega), e 13 (by omega), e 14 (by omega), e 15 (by omega), e 16 (by omega), e 17 (by omega), e 18 (by omega), e 19 (by omega)]
        omega
      · refine dR_num hd (by omega) (by omega) (e 2 (by omega)) (e 8 (by omega)) (e 14 (by omega)) (fun i w1 w2 => e i (by omega)) ⟨rfl, rfl, rfl, rfl⟩ rfl ?_
        unfold nR
        dsimp only
        rw [up_at, e 4 (by omega), e 0 (by omega), e 1 (by omega), e 5 (by omega), e 6 (by omega), e 7 (by omega), e 13 (by omega), e 9 (by omega), e 10 (by omega), e 11 (by omega), e 12 (by omega)]
        exact ⟨n1, rfl, n3, n4, n5, n6, n7, n8, n9, n10, n11, n12⟩
    · have hq : q_X1_takeSpares u.1 (zI p) = some (zI (-4), u.1.2.2.2.2.2.2.1) := by
        unfold q_X1_takeSpares zn
        rw [if_neg (by rw [e1]; omega), if_pos (by rw [e2]; omega), n2, zI_add, if_neg (by rw [e3]; exact c2), zm4]
      obtain ⟨k1, k2⟩ := hno (-4) (zr_s (by omega)) (by omega)
      rw [hq, zb_some]
      dsimp only
      rw [k1, zb_some, zb_some, if_pos c1, if_neg (by decide), show zM a 3 + zI p = zI (a 3 + p) from zI_add _ _, if_neg (by rw [e3]; exact c2), zb_some]
      dsimp only
      rw [if_pos zm4.symm]
      exact ⟨_, rfl, a, hI, h9, rfl, hd, k2, ht, hj⟩
  · have hq : q_X1_takeSpares u.1 (zI p) = some (zI (-2), u.1.2.2.2.2.2.2.1) := by
      unfold q_X1_takeSpares
      by_cases c3 : p < 1
      · rw [if_pos (by rw [e1]; exact c3), zm2]
      · rw [if_neg (by rw [e1]; exact c3), if_neg (by rw [e2]; omega), zm2]
    obtain ⟨k1, k2⟩ := hno (-2) (zr_s (by omega)) (by omega)
    rw [hq, zb_some]
    dsimp only
    rw [k1, zb_some, zb_some, if_neg c1, if_pos rfl, zb_some]
    dsimp only
    rw [if_pos zm2.symm]
    exact ⟨_, rfl, a, hI, h9, rfl, hd, k2, ht, hj⟩
end PS
