/-! class and model side by side: quiet, giveUp -/
section PQ
variable {u : tX6} {v : tX7} {x y : Int32}
theorem zm2 : (-2 : Int32) = zI (-2) := by decide +kernel
theorem zm3 : (-3 : Int32) = zI (-3) := by decide +kernel
theorem zm4 : (-4 : Int32) = zI (-4) := by decide +kernel
theorem zm1 : (-1 : Int32) = zI (-1) := by decide +kernel
theorem aEnds_b (a : Nat → Int) (n : Nat) : 0 ≤ zsum (aEnds a) n ∧ zsum (aEnds a) n ≤ 1 * n := zsum_le (fun k _ => by unfold aEnds; split <;> omega)
theorem t_7 (h : TR u v) : ∃ o, qL_7 x y u v = some o ∧ TR o.1 o.2 := by
  obtain ⟨a, hI, h9, hv, hd, hh, ht, hj⟩ := id h
  obtain ⟨st, kept, hs, rec, r⟩ := v
  dsimp only at hv hh ht
  subst hv
  have hN := hI.2.1
  unfold aN at hN
  obtain ⟨p, hp, rfl⟩ := zI_ex x
  obtain ⟨rows', hdr, hno, w', hh', rec', hrec, hhR, hyes⟩ := h_step (kept := kept) (r := r) hI h9 hd hh
  have n3 := hd.2.2.2.2.2.2.2.1
  have e1 : (zI p < 1) ↔ p < 1 := zI_lt (y := 1) hp (zr_s (by omega))
  have e2 : (zI p ≤ 500) ↔ p ≤ 500 := zI_le (y := 500) hp (zr_s (by omega))
  unfold qL_7 q_X6_quiet q_X7_quiet q_X7_whyNotQuiet
  rw [hdr, zb_some, show q_X7_within (zI p) 1 500 = _ from m_within hp (l := 1) (h := 500) (zr_s (by omega)) (zr_s (by omega)), zb_some]
  dsimp only
  by_cases c1 : 1 ≤ p ∧ p ≤ 500
  · obtain ⟨n, rfl⟩ : ∃ n : Nat, p = n := ⟨p.toNat, by omega⟩
    rw [if_pos c1, if_neg (by decide), show zM a 0 + zI (n : Nat) = zI (a 0 + n) from zI_add _ _]
    by_cases c2 : a 0 + n ≤ 99999
    · obtain ⟨d', hq, hdq⟩ := c_passQuietTicks hI (by omega) c2 hd
      obtain ⟨hI', h0'⟩ := aTicks_I hI n (by omega)
      have hb := aEnds_b a n
      have e9 := aTicks_9 hI n (by omega)
      have ea : d'.2.2.2.2.2.2.2.2.2.2.2.2.2.1 - u.1.2.2.2.2.2.2.2.2.2.2.2.2.2.1 = zI (zsum (aEnds a) n) := by
        rw [hdq.2.2.2.2.2.2.2.2.2.2.2.2.2.1, hd.2.2.2.2.2.2.2.2.2.2.2.2.2.1, zI_sub, e9]
        congr 1
        omega
      rw [hq, zb_some]
      dsimp only
      rw [ea, hyes _ (zr_s (by omega)) hb.1, zb_some, zb_some, if_pos (show zI (a 0 + n) ≤ 99999 from zle_p (y := 99999) (zr_s (by omega)) (zr_s (by omega)) c2), zb_some, if_pos (show (0 : Int32) ≤ 0 by decide), hrec, zb_some, show q_X7_passes (zM a, _) (zI n) = _ from m_passes hI (by omega), zb_some, zb_some]
      dsimp only
      rw [if_pos rfl]
      exact ⟨_, rfl, aTicks a n, hI', by omega, rfl, hdq, hhR, ht, hj⟩
    · have hq : q_X1_passQuietTicks u.1 (zI n) = some (zI (-4), u.1) := by
        unfold q_X1_passQuietTicks
        rw [if_neg (by rw [e1]; omega), if_pos (by rw [e2]; omega), n3, zI_add, if_neg (show ¬ zI (a 0 + n) ≤ 99999 from zle_n (y := 99999) (zr_s (by omega)) (zr_s (by omega)) (by omega)), zm4]
      obtain ⟨k1, k2⟩ := hno (-4) (zr_s (by omega)) (by omega)
      rw [hq, zb_some]
      dsimp only
      rw [k1, zb_some, zb_some, if_neg (show ¬ zI (a 0 + n) ≤ 99999 from zle_n (y := 99999) (zr_s (by omega)) (zr_s (by omega)) (by omega)), zb_some, if_neg (show ¬ (0 : Int32) ≤ -4 by decide), zb_some]
      dsimp only
      rw [if_pos zm4.symm]
      exact ⟨_, rfl, a, hI, h9, rfl, hd, k2, ht, hj⟩
  · have hq : q_X1_passQuietTicks u.1 (zI p) = some (zI (-2), u.1) := by
      unfold q_X1_passQuietTicks
      by_cases c3 : p < 1
      · rw [if_pos (by rw [e1]; exact c3), zm2]
      · rw [if_neg (by rw [e1]; exact c3), if_neg (by rw [e2]; omega), zm2]
    obtain ⟨k1, k2⟩ := hno (-2) (zr_s (by omega)) (by omega)
    rw [hq, zb_some]
    dsimp only
    rw [k1, zb_some, zb_some, if_neg c1, if_pos rfl, zb_some, if_neg (show ¬ (0 : Int32) ≤ -2 by decide), zb_some]
    dsimp only
    rw [if_pos zm2.symm]
    exact ⟨_, rfl, a, hI, h9, rfl, hd, k2, ht, hj⟩
end PQ
