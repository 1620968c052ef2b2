/-! class and model side by side: set -/
section PD
variable {u : tX6} {v : tX7} {x y : Int32} {a : Nat → Int}
def loS (k : Nat) : Int := if k = 0 then 0 else if k = 1 then 1 else if k = 2 then 1 else if k = 3 then 2 else 50
def hiS (k : Nat) : Int := if k = 0 then 50 else if k = 1 then 40 else if k = 2 then 9 else if k = 3 then 9 else 2000
theorem loS_b (k : Nat) : 0 ≤ loS k ∧ loS k ≤ 50 := by
  unfold loS
  split
  · omega
  · split
    · omega
    · split
      · omega
      · split <;> omega
theorem hiS_b (k : Nat) : 9 ≤ hiS k ∧ hiS k ≤ 2000 := by
  unfold hiS
  split
  · omega
  · split
    · omega
    · split
      · omega
      · split <;> omega
theorem m_fits {k : Nat} {q : Int} (hk : k < 5) (hq : zr q) : q_X7_fits (zI k) (zI q) = some (if loS k ≤ q ∧ q ≤ hiS k then 1 else 0) := by
  have w : ∀ l h : Int, zr l → zr h → zb (q_X7_within (zI q) (zI l) (zI h)) (fun r => zq (r = 0 ∨ r = 1) (some r)) = some (if l ≤ q ∧ q ≤ h then 1 else 0) := fun l h hl hh => by
    rw [m_within hq hl hh, zb_some, zq_01]
  unfold q_X7_fits
  rcases (show k = 0 ∨ k = 1 ∨ k = 2 ∨ k = 3 ∨ k = 4 by omega) with rfl | rfl | rfl | rfl | rfl
  · rw [if_pos (show zI ((0 : Nat) : Int) = 0 by decide +kernel)]
    exact w 0 50 (zr_s (by omega)) (zr_s (by omega))
  · rw [if_neg (show ¬ zI ((1 : Nat) : Int) = 0 by decide +kernel), if_pos (show zI ((1 : Nat) : Int) = 1 by decide +kernel)]
    exact w 1 40 (zr_s (by omega)) (zr_s (by omega))
  · rw [if_neg (show ¬ zI ((2 : Nat) : Int) = 0 by decide +kernel), if_neg (show ¬ zI ((2 : Nat) : Int) = 1 by decide +kernel), if_pos (show zI ((2 : Nat) : Int) = 2 by decide +kernel)]
    exact w 1 9 (zr_s (by omega)) (zr_s (by omega))
  · rw [if_neg (show ¬ zI ((3 : Nat) : Int) = 0 by decide +kernel), if_neg (show ¬ zI ((3 : Nat) : Int) = 1 by decide +kernel), if_neg (show ¬ zI ((3 : Nat) : Int) = 2 by decide +kernel), if_pos (show zI ((3 : Nat) : Int) = 3 by decide +kernel)]
    exact w 2 9 (zr_s (by omega)) (zr_s (by omega))
  · rw [if_neg (show ¬ zI ((4 : Nat) : Int) = 0 by decide +kernel), if_neg (show ¬ zI ((4 : Nat) : Int) = 1 by decide +kernel), if_neg (show ¬ zI ((4 : Nat) : Int) = 2 by decide +kernel), if_neg (show ¬ zI ((4 : Nat) : Int) = 3 by decide +kernel)]
    exact w 50 2000 (zr_s (by omega)) (zr_s (by omega))
theorem c_change {d : tX1} {k : Nat} {q : Int} (hk : k < 5) (hq : zr q) (hd : dR d a) : q_X1_changeSetting d (zI k) (zI q) = some (if loS k ≤ q ∧ q ≤ hiS k then (zI (a (15 + k)), upd d.1 k (zI q)) else (zI (-2), d.1)) := by
  have hlo : zLowI k = zI (loS k) := by
    rcases (show k = 0 ∨ k = 1 ∨ k = 2 ∨ k = 3 ∨ k = 4 by omega) with rfl | rfl | rfl | rfl | rfl <;> decide +kernel
  have hhi : zHighI k = zI (hiS k) := by
    rcases (show k = 0 ∨ k = 1 ∨ k = 2 ∨ k = 3 ∨ k = 4 by omega) with rfl | rfl | rfl | rfl | rfl <;> decide +kernel
  have b1 := loS_b k
  have b2 := hiS_b k
  unfold q_X1_changeSetting
  rw [c_isSetting (zr_s (by omega)), zb_some, if_pos (show 0 ≤ (k : Int) ∧ (k : Int) ≤ 4 by omega), if_neg (by decide), zg_N (by omega) (by omega), hlo]
  by_cases c1 : q < loS k
  · rw [if_pos (zlt_p hq (zr_s (by omega)) c1), if_neg (by omega), zm2]
  · rw [if_neg (zlt_n hq (zr_s (by omega)) (by omega)), zg_N (by omega) (by omega), hhi]
    by_cases c2 : q ≤ hiS k
    · rw [if_pos (zle_p hq (zr_s (by omega)) c2), zg_N (by omega) (by omega), zs_N (by omega) (by omega), hd.1 k hk, if_pos (by omega)]
    · rw [if_neg (zle_n hq (zr_s (by omega)) (by omega)), if_neg (by omega), zm2]
theorem aN_set {k : Nat} {q : Int} (h : aN 0 a) (hk : k < 5) (hq : loS k ≤ q ∧ q ≤ hiS k) : aN 0 (up a (15 + k) q) := by
  unfold aN at h ⊢
  have e : ∀ i, i ≠ 15 + k → up a (15 + k) q i = a i := fun i w => up_ne _ _ w
  rw [e 0 (by omega), e 1 (by omega), e 2 (by omega), e 3 (by omega), e 4 (by omega), e 5 (by omega), e 6 (by omega), e 7 (by omega), e 8 (by omega), e 9 (by omega), e 10 (by omega), e 11 (by omega), e 12 (by omega), e 13 (by omega), e 14 (by omega)]
  rcases (show k = 0 ∨ k = 1 ∨ k = 2 ∨ k = 3 ∨ k = 4 by omega) with rfl | rfl | rfl | rfl | rfl
  · have hq' : (0 : Int) ≤ q ∧ q ≤ 50 := hq
    rw [show up a (15 + 0) q 15 = q from up_at _ _ _, e 16 (by omega), e 17 (by omega), e 18 (by omega), e 19 (by omega)]
    omega
  · have hq' : (1 : Int) ≤ q ∧ q ≤ 40 := hq
    rw [show up a (15 + 1) q 16 = q from up_at _ _ _, e 15 (by omega), e 17 (by omega), e 18 (by omega), e 19 (by omega)]
    omega
  · have hq' : (1 : Int) ≤ q ∧ q ≤ 9 := hq
    rw [show up a (15 + 2) q 17 = q from up_at _ _ _, e 15 (by omega), e 16 (by omega), e 18 (by omega), e 19 (by omega)]
    omega
  · have hq' : (2 : Int) ≤ q ∧ q ≤ 9 := hq
    rw [show up a (15 + 3) q 18 = q from up_at _ _ _, e 15 (by omega), e 16 (by omega), e 17 (by omega), e 19 (by omega)]
    omega
  · have hq' : (50 : Int) ≤ q ∧ q ≤ 2000 := hq
    rw [show up a (15 + 4) q 19 = q from up_at _ _ _, e 15 (by omega), e 16 (by omega), e 17 (by omega), e 18 (by omega)]
    omega
theorem aN_s0 {k : Nat} (h : aN 0 a) (hk : k < 5) : 0 ≤ a (15 + k) := by
  unfold aN at h
  rcases (show k = 0 ∨ k = 1 ∨ k = 2 ∨ k = 3 ∨ k = 4 by omega) with rfl | rfl | rfl | rfl | rfl
  · show 0 ≤ a 15
    omega
  · show 0 ≤ a 16
    omega
  · show 0 ≤ a 17
    omega
  · show 0 ≤ a 18
    omega
  · show 0 ≤ a 19
    omega
theorem t_0 (h : TR u v) : ∃ o, qL_0 x y u v = some o ∧ TR o.1 o.2 := by
  obtain ⟨a, hI, h9, hv, hd, hh, ht, hj⟩ := id h
  obtain ⟨st, kept, hs, rec, r⟩ := v
  dsimp only at hv hh ht
  subst hv
  have hN := hI.2.1
  unfold aN at hN
  obtain ⟨p, hp, rfl⟩ := zI_ex x
  obtain ⟨q, hq, rfl⟩ := zI_ex y
  obtain ⟨rows', hdr, hno, w', hh', rec', hrec, hhR, hyes⟩ := h_step (kept := kept) (r := r) hI h9 hd hh
  obtain ⟨q1, q2, q3, q4, q5, q6⟩ := id hd
  unfold qL_0 q_X6_set q_X7_set
  by_cases c1 : 0 ≤ p ∧ p ≤ 4
  · obtain ⟨k, rfl⟩ : ∃ k : Nat, p = k := ⟨p.toNat, by omega⟩
    have hk : k < 5 := by omega
    by_cases c2 : loS k ≤ q ∧ q ≤ hiS k
    · rw [hdr, zb_some, c_change hk hq hd, if_pos c2, zb_some]
      dsimp only
      rw [hyes (a (15 + k)) (hI.1 _) (aN_s0 hI.2.1 hk), zb_some, zb_some, m_isSetting hp, zb_some, if_pos c1, if_neg (by decide), m_fits hk hq, zb_some, if_pos c2, if_neg (by decide)]
      unfold q_X7_sets
      rw [hrec, zb_some]
      dsimp only
      rw [zg_M (i := 15 + k) (show (15 : Int32) + zI k = _ from zI_k 15 k) (by omega), zs_M (i := 15 + k) (z := q) (show (15 : Int32) + zI k = _ from zI_k 15 k) rfl (by omega), zb_some, zb_some]
      dsimp only
      rw [if_pos rfl]
      have e : ∀ i, i ≠ 15 + k → up a (15 + k) q i = a i := fun i w1 => up_ne _ _ w1
      refine ⟨_, rfl, up a (15 + k) q, ?_, by rw [e 0 (by omega)]; exact h9, rfl, ⟨fun j hj => ?_, fun j hj => ?_, sR_of q3 (e 2 (by omega)) (by omega) (fun i v1 v2 => e i (by omega)), qR_of q4 (e 8 (by omega)) (by omega) (fun j hj => e _ (by omega)), lR_of q5 (e 14 (by omega)) (fun i v1 v2 => e i (by omega)), nR_of (show nR _ a from q6) (fun i hi => e i (by omega))⟩, hhR, ht, hj⟩
      · exact aI_num hI (aN_set hI.2.1 hk c2) (zr_up hI.1 _ hq) (by rw [e 0 (by omega)]; omega) (e 2 (by omega)) (e 8 (by omega)) (e 14 (by omega)) (fun i w1 w2 => e i (by omega))
      · dsimp only
        by_cases c3 : j = k
        · rw [c3, upd_at, up_at]
        · rw [upd_ne' _ _ c3, e _ (by omega)]
          exact q1 j hj
      · dsimp only
        rw [e _ (by omega)]
        exact q2 j hj
    · obtain ⟨k1, k2⟩ := hno (-2) (zr_s (by omega)) (by omega)
      rw [hdr, zb_some, c_change hk hq hd, if_neg c2, zb_some]
      dsimp only
      rw [k1, zb_some, zb_some, m_isSetting hp, zb_some, if_pos c1, if_neg (by decide), m_fits hk hq, zb_some, if_neg c2, if_pos rfl, zb_some]
      dsimp only
      rw [if_pos zm2.symm]
      exact ⟨_, rfl, a, hI, h9, rfl, hd, k2, ht, hj⟩
  · obtain ⟨k1, k2⟩ := hno (-1) (zr_s (by omega)) (by omega)
    have hq1 : q_X1_changeSetting u.1 (zI p) (zI q) = some (zI (-1), u.1.1) := by
      unfold q_X1_changeSetting
      rw [c_isSetting hp, zb_some, if_neg c1, if_pos rfl, zm1]
    rw [hdr, zb_some, hq1, zb_some]
    dsimp only
    rw [k1, zb_some, zb_some, m_isSetting hp, zb_some, if_neg c1, if_pos rfl, zb_some]
    dsimp only
    rw [if_pos zm1.symm]
    exact ⟨_, rfl, a, hI, h9, rfl, hd, k2, ht, hj⟩
end PD
