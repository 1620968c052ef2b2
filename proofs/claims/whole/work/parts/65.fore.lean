/-! class and model side by side: forecasts -/
section PF
variable {u : tX6} {v : tX7} {x y : Int32} {a : Nat → Int}
theorem aI_way {w : Int} (h : aI 0 a) (hw : 0 ≤ w ∧ w ≤ 2) : aI 0 (up a 4 w) := by
  have hN := h.2.1
  unfold aN at hN
  have e : ∀ i, i ≠ 4 → up a 4 w i = a i := fun i w1 => up_ne _ _ w1
  refine aI_num h ?_ (zr_up h.1 _ (zr_s (by omega))) (by rw [e 0 (by omega)]; omega) (e 2 (by omega)) (e 8 (by omega)) (e 14 (by omega)) (fun i w1 w2 => e i (by omega))
  unfold aN
  rw [up_at, e 0 (by omega), e 1 (by omega), e 2 (by omega), e 3 (by omega), e 5 (by omega), e 6 (by omega), e 7 (by omega), e 8 (by omega), e 9 (by omega), e 10 (by omega), e 11 (by omega), e 12 (by omega), e 13 (by omega), e 14 (by omega), e 15 (by omega), e 16 (by omega), e 17 (by omega), e 18 (by omega), e 19 (by omega)]
  omega
/-- a forecast of overdue spans -/
theorem c_over {w : Int} {n : Nat} (h : aI 0 a) (h9 : a 0 ≤ 99999) (hd : dR u.1 a) (hw : 0 ≤ w ∧ w ≤ 2) (hn : n ≤ 3000) : ∃ d' : tX1, q_X6_overdueAfter u (zI n) (zI w) = some (zI (aOver (aTicks (up a 4 w) n)), d') := by
  have hN := h.2.1
  unfold aN at hN
  have hb := aI_way h hw
  have eb0 : up a 4 w 0 = a 0 := up_ne _ _ (by omega)
  obtain ⟨d1, hc, hd1⟩ := c_copyFrom (d := u.2.1) (by omega) (by omega) hd
  obtain ⟨-, -, -, -, -, n1, n2, n3, n4, n5, n6, n7, n8, n9, n10, n11, n12⟩ := id hd1
  have e : ∀ i, i ≠ 4 → up a 4 w i = a i := fun i w1 => up_ne _ _ w1
  have hd2 : dR (d1.1, d1.2.1, d1.2.2.1, d1.2.2.2.1, d1.2.2.2.2.1, zI w, d1.2.2.2.2.2.2) (up a 4 w) := by
    refine dR_num hd1 (by omega) (by omega) (e 2 (by omega)) (e 8 (by omega)) (e 14 (by omega)) (fun i w1 w2 => e i (by omega)) ⟨rfl, rfl, rfl, rfl⟩ rfl ?_
    unfold nR
    dsimp only
    rw [up_at, e 3 (by omega), e 0 (by omega), e 1 (by omega), e 5 (by omega), e 6 (by omega), e 7 (by omega), e 13 (by omega), e 9 (by omega), e 10 (by omega), e 11 (by omega), e 12 (by omega)]
    exact ⟨rfl, n2, n3, n4, n5, n6, n7, n8, n9, n10, n11, n12⟩
  obtain ⟨b, hb1, hq⟩ := zl_rel (B := q_X6_overdueAfter_L21 (zI n)) (fun k x => x.1 = zI k ∧ dR x.2 (aTicks (up a 4 w) k)) (fun b => dR b (aTicks (up a 4 w) n)) n (fun k x hk hx => by
      obtain ⟨x1, x2⟩ := x
      obtain ⟨w1, w2⟩ := hx
      dsimp only at w1 w2
      subst w1
      obtain ⟨i1, i2⟩ := aTicks_I hb k (by omega)
      obtain ⟨d', v1, v2⟩ := c_passQuietTick i1 (by omega) w2
      unfold q_X6_overdueAfter_L21
      dsimp only
      rw [if_neg (show ¬ zI n ≤ zI k from zle_n (zr_s (by omega)) (zr_s (by omega)) (by omega)), v1, zb_some]
      exact ⟨_, rfl, by rw [zI_1], v2⟩) (fun x hx => by
      obtain ⟨x1, x2⟩ := x
      obtain ⟨w1, w2⟩ := hx
      dsimp only at w1 w2
      subst w1
      unfold q_X6_overdueAfter_L21
      dsimp only
      rw [if_pos (show zI n ≤ zI n from zle_p (zr_s (by omega)) (zr_s (by omega)) (by omega))]
      exact ⟨_, rfl, w2⟩) 1000000 0 (0, (d1.1, d1.2.1, d1.2.2.1, d1.2.2.2.1, d1.2.2.2.2.1, zI w, d1.2.2.2.2.2.2)) ⟨rfl, hd2⟩ (by omega) (by omega)
  obtain ⟨hI', -⟩ := aTicks_I hb n (by omega)
  refine ⟨b, ?_⟩
  unfold q_X6_overdueAfter
  rw [hc, zb_some, hb1, zb_some]
  unfold q_X6_overdueAfter_J40
  rw [c_overdueSpans hI' hq, zb_some]
theorem m_over {w : Int} {n : Nat} {kept : Nat → Int32} {r : (Nat → Int32) × Int32 × (Nat → Int32) × Int32 × Int32 × Int32 × Int32 × Int32 × Int32} (h : aI 0 a) (h9 : a 0 ≤ 99999) (hw : 0 ≤ w ∧ w ≤ 2) (hn : n ≤ 3000) : ∃ st' kept' : Nat → Int32, q_X7_overdueIn (zM a, kept, r) (zI n) (zI w) = some (zI (aOver (aTicks (up a 4 w) n)), st', kept') ∧ ∀ i, i < 104 → st' i = zM a i := by
  have hb := aI_way h hw
  have eb0 : up a 4 w 0 = a 0 := up_ne _ _ (by omega)
  obtain ⟨hI', -⟩ := aTicks_I hb n (by omega)
  refine ⟨fun i => if 0 ≤ i ∧ i < 0 + 104 then (fun i => if 0 ≤ i ∧ i < 0 + 104 then zM a (0 + (i - 0)) else kept i) (0 + (i - 0)) else zM (aTicks (up a 4 w) n) i, fun i => if 0 ≤ i ∧ i < 0 + 104 then zM a (0 + (i - 0)) else kept i, ?_, ?_⟩
  · unfold q_X7_overdueIn zn
    dsimp only
    rw [show q_X7_copies 104 104 (zM a) kept 0 0 = _ from m_copies (p1 := 0) (p3 := 0) (zM a) kept (by omega) (by omega) (by omega) (by omega), zb_some, zM_up, show q_X7_passes (zM (up a 4 w), _) (zI n) = _ from m_passes hb (by omega), zb_some]
    dsimp only
    rw [show q_X7_overdueMany (zM (aTicks (up a 4 w) n), _) = _ from m_overdueMany hI', zb_some, show ∀ f g : Nat → Int32, q_X7_copies 104 104 f g 0 0 = _ from fun f g => m_copies (p1 := 0) (p3 := 0) f g (by omega) (by omega) (by omega) (by omega), zb_some]
  · intro i hi
    dsimp only
    rw [if_pos (by omega), if_pos (by omega), show 0 + (0 + (i - 0) - 0) = i by omega]
theorem t_19 (h : TR u v) : ∃ o, qL_19 x y u v = some o ∧ TR o.1 o.2 := by
  obtain ⟨a, hI, h9, hv, hd, hh, ht, hj⟩ := id h
  obtain ⟨st, kept, r⟩ := v
  dsimp only at hv hh ht
  subst hv
  have hN := hI.2.1
  unfold aN at hN
  obtain ⟨p, hp, rfl⟩ := zI_ex x
  have e1 : (zI p < 0) ↔ p < 0 := zI_lt (y := 0) hp (zr_s (by omega))
  have e2 : (zI p ≤ 3000) ↔ p ≤ 3000 := zI_le (y := 3000) hp (zr_s (by omega))
  unfold qL_19 q_X6_ifQuiet q_X7_ifQuiet
  rw [show q_X7_within (zI p) 0 3000 = _ from m_within hp (l := 0) (h := 3000) (zr_s (by omega)) (zr_s (by omega))]
  by_cases c1 : 0 ≤ p ∧ p ≤ 3000
  · obtain ⟨n, rfl⟩ : ∃ n : Nat, p = n := ⟨p.toNat, by omega⟩
    obtain ⟨d', w1⟩ := c_over (u := u) (w := a 4) (n := n) hI h9 hd (by omega) (by omega)
    obtain ⟨st', kept', w2, w3⟩ := m_over (w := a 4) (n := n) (kept := kept) (r := r) hI h9 (by omega) (by omega)
    obtain ⟨b, hb, be, bz⟩ := row_ex hI w3
    rw [if_neg (by rw [e1]; omega), if_pos (by rw [e2]; omega), hd.2.2.2.2.2.1, w1, zb_some, zb_some, zb_some, if_pos c1, if_neg (by decide)]
    dsimp only
    rw [show zM a 4 = zI (a 4) from rfl, w2, zb_some, zb_some]
    dsimp only
    rw [if_pos rfl]
    exact ⟨_, rfl, b, aI_row hI bz be, by rw [be 0 (by omega)]; exact h9, hb, dR_row hI hd be, hh, ht, hj⟩
  · have hq : (if zI p < 0 then some ((-2 : Int32), u.2.1) else if zI p ≤ 3000 then zb (q_X6_overdueAfter u (zI p) u.1.2.2.2.2.2.1) fun r23 => some (r23.1, r23.2) else some (-2, u.2.1)) = some ((-2 : Int32), u.2.1) := by
      by_cases c3 : p < 0
      · rw [if_pos (by rw [e1]; exact c3)]
      · rw [if_neg (by rw [e1]; exact c3), if_neg (by rw [e2]; omega)]
    rw [hq, zb_some, zb_some, if_neg c1, if_pos rfl, zb_some]
    dsimp only
    rw [if_pos rfl]
    exact ⟨_, rfl, a, hI, h9, rfl, hd, hh, ht, hj⟩
end PF
