/-! class and model side by side: unask -/
section PU
variable {u : tX6} {v : tX7} {x y : Int32}
theorem t_5 (h : TR u v) : ∃ o, qL_5 x y u v = some o ∧ TR o.1 o.2 := by
  obtain ⟨a, hI, h9, hv, hd, hh, ht, hj⟩ := id h
  obtain ⟨st, kept, hs, rec, r⟩ := v
  dsimp only at hv hh ht
  subst hv
  have hN := hI.2.1
  unfold aN at hN
  obtain ⟨p, hp, rfl⟩ := zI_ex x
  obtain ⟨rows', hdr, hno, w', hh', rec', hrec, hhR, hyes⟩ := h_step (kept := kept) (r := r) hI h9 hd hh
  obtain ⟨q1, q2, q3, q4, q5, n1, n2, n3, n4, n5, n6, n7, n8, n9, n10, n11, n12⟩ := id hd
  unfold qL_5 q_X6_unask q_X7_unask q_X1_withdraw
  rw [hdr, zb_some, c_isSpan hp, zb_some, m_isSpan hp, zb_some]
  dsimp only
  by_cases c1 : 0 ≤ p ∧ p ≤ 7
  · rw [if_pos c1, if_neg (by decide)]
    have hpl : aPlace a p = pl a p (a 8).toNat := rfl
    rcases pl_cases a p (a 8).toNat with ⟨k1, -⟩ | ⟨k, k1, k2, k3⟩
    · have hz : aPlace a p = -6 := k1
      obtain ⟨k4, k5⟩ := hno (-3) (zr_s (by omega)) (by omega)
      rw [c_drop_no hI hp q4 hz, zb_some]
      dsimp only
      rw [if_pos rfl, zb_some]
      dsimp only
      rw [zm3, k4, zb_some, zb_some, if_neg (by decide), m_placeOf hI hp, zb_some, hz, if_pos (show zI (-6) = -6 from z6.symm), zb_some]
      dsimp only
      rw [if_pos rfl]
      exact ⟨_, rfl, a, hI, h9, rfl, hd, k5, ht, hj⟩
    · have hz : aPlace a p = k := k3
      obtain ⟨q', w1, w2⟩ := c_drop_yes hI hp q4 hz (by omega)
      have hI' := aI_take (p := k) hI (by omega)
      have e : ∀ i, i ≠ 8 → (i < 28 ∨ 34 ≤ i) → aTake a k i = a i := fun i v1 v2 => aTake_ne a k (by omega) (by omega) v1 v2
      rw [w1, zb_some]
      dsimp only
      rw [if_neg (show ¬ (1 : Int32) = 0 by decide), zb_some]
      dsimp only
      rw [w2.2, aTake_8, hyes (a 8 - 1) (zr_s (by omega)) (by omega), zb_some, zb_some, if_neg (show ¬ (1 : Int32) = 0 by decide), m_placeOf hI hp, zb_some, hz, if_neg (show ¬ zI (k : Nat) = -6 by rw [z6]; exact zeq_n (zr_s (by omega)) (zr_s (by omega)) (by omega)), hrec, zb_some, show q_X7_takesOut (zM a, _) (zI k) = _ from m_takesOut (by omega) (by omega), zb_some, zb_some]
      dsimp only
      rw [zM_at, aTake_8, if_pos rfl]
      refine ⟨_, rfl, aTake a k, hI', by rw [e 0 (by omega) (by omega)]; exact h9, rfl, ⟨fun j hj => ?_, fun j hj => ?_, sR_of q3 (e 2 (by omega) (by omega)) (by omega) (fun i v1 v2 => e i (by omega) (by omega)), w2, lR_of q5 (e 14 (by omega) (by omega)) (fun i v1 v2 => e i (by omega) (by omega)), ?_⟩, hhR, ht, hj⟩
      · dsimp only
        rw [e _ (by omega) (by omega)]
        exact q1 j hj
      · dsimp only
        rw [e _ (by omega) (by omega)]
        exact q2 j hj
      · unfold nR
        dsimp only
        rw [e 4 (by omega) (by omega), e 3 (by omega) (by omega), e 0 (by omega) (by omega), e 1 (by omega) (by omega), e 5 (by omega) (by omega), e 6 (by omega) (by omega), e 7 (by omega) (by omega), e 13 (by omega) (by omega), e 9 (by omega) (by omega), e 10 (by omega) (by omega), e 11 (by omega) (by omega), e 12 (by omega) (by omega)]
        exact ⟨n1, n2, n3, n4, n5, n6, n7, n8, n9, n10, n11, n12⟩
  · obtain ⟨k4, k5⟩ := hno (-1) (zr_s (by omega)) (by omega)
    rw [if_neg c1, if_pos rfl, zb_some]
    dsimp only
    rw [zm1, k4, zb_some, zb_some, if_pos rfl, zb_some]
    dsimp only
    rw [if_pos rfl]
    exact ⟨_, rfl, a, hI, h9, rfl, hd, k5, ht, hj⟩
end PU
