/-! class and model side by side: forecasts -/
section PF
variable {u : tX6} {x y : Int32} {a : Nat → Int}
theorem aI_way {w : Int} (h : aI 0 a) (hw : 0 ≤ w ∧ w ≤ 2) : aI 0 (up a 4 w) := by
  have hN := h.2.1
  unfold aN at hN
  have e : ∀ i, i ≠ 4 → up a 4 w i = a i := fun i w1 => up_ne _ _ w1
  refine aI_num h ?_ (zr_up h.1 _ (zr_s (by omega))) (by rw [e 0 (by omega)]; omega) (e 2 (by omega)) (e 8 (by omega)) (e 14 (by omega)) (fun i w1 w2 => e i (by omega))
  unfold aN
  rw [up_at, e 0 (by omega), e 1 (by omega), e 2 (by omega), e 3 (by omega), e 5 (by omega), e 6 (by omega), e 7 (by omega), e 8 (by omega), e 9 (by omega), e 10 (by omega), e 11 (by omega), e 12 (by omega), e 13 (by omega), e 14 (by omega), e 15 (by omega), e 16 (by omega), e 17 (by omega), e 18 (by omega), e 19 (by omega)]
  omega
/-- a forecast of overdue spans -/
theorem c_over {w : Int} {n : Nat} (h : aI 0 a) (h9 : a 0 ≤ 99999) (hd : dR u.1 a) (hw : 0 ≤ w ∧ w ≤ 2) (hn : n ≤ 3000) : ∃ d' : tX1, q_X6_overdueAfter u (zI n) (zI w) = some (zI (aOver (aTicks (up a 4 w) n)), d') := by
  have hN := h.2.1
  unfold aN at hN
  have hb := aI_way h hw
  have eb0 : up a 4 w 0 = a 0 := up_ne _ _ (by omega)
  obtain ⟨d1, hc, hd1⟩ := c_copyFrom (d := u.2.1) (by omega) (by omega) hd
  obtain ⟨-, -, -, -, -, n1, n2, n3, n4, n5, n6, n7, n8, n9, n10, n11, n12⟩ := id hd1
  have e : ∀ i, i ≠ 4 → up a 4 w i = a i := fun i w1 => up_ne _ _ w1
  have hd2 : dR (d1.1, d1.2.1, d1.2.2.1, d1.2.2.2.1, d1.2.2.2.2.1, zI w, d1.2.2.2.2.2.2) (up a 4 w) := by
    refine dR_num hd1 (by omega) (by omega) (e 2 (by omega)) (e 8 (by omega)) (e 14 (by omega)) (fun i w1 w2 => e i (by omega)) ⟨rfl, rfl, rfl, rfl⟩ rfl ?_
    unfold nR
    dsimp only
    rw [up_at, e 3 (by omega), e 0 (by omega), e 1 (by omega), e 5 (by omega), e 6 (by omega), e 7 (by omega), e 13 (by omega), e 9 (by omega), e 10 (by omega), e 11 (by omega), e 12 (by omega)]
    exact ⟨rfl, n2, n3, n4, n5, n6, n7, n8, n9, n10, n11, n12⟩
  obtain ⟨b, hb1, hq⟩ := zl_rel (B := q_X6_overdueAfter_L21 (zI n)) (fun k x => x.1 = zI k ∧ dR x.2 (aTicks (up a 4 w) k)) (fun b => dR b (aTicks (up a 4 w) n)) n (fun k x hk hx => by
      obtain ⟨x1, x2⟩ := x
      obtain ⟨w1, w2⟩ := hx
      dsimp only at w1 w2
      subst w1
      obtain ⟨i1, i2⟩ := aTicks_I hb k (by omega)
      obtain ⟨d', v1, v2⟩ := c_passQuietTick i1 (by omega) w2
      unfold q_X6_overdueAfter_L21
      dsimp only
      rw [if_neg (show ¬ zI n ≤ zI k from zle_n (zr_s (by omega)) (zr_s (by omega)) (by omega)), v1, zb_some]
      exact ⟨_, rfl, by rw [zI_1], v2⟩) (fun x hx => by
      obtain ⟨x1, x2⟩ := x
      obtain ⟨w1, w2⟩ := hx
      dsimp only at w1 w2
      subst w1
      unfold q_X6_overdueAfter_L21
      dsimp only
      rw [if_pos (show zI n ≤ zI n from zle_p (zr_s (by omega)) (zr_s (by omega)) (by omega))]
      exact ⟨_, rfl, w2⟩) 1000000 0 (0, (d1.1, d1.2.1, d1.2.2.1, d1.2.2.2.1, d1.2.2.2.2.1, zI w, d1.2.2.2.2.2.2)) ⟨rfl, hd2⟩ (by omega) (by omega)
  obtain ⟨hI', -⟩ := aTicks_I hb n (by omega)
  refine ⟨b, ?_⟩
  unfold q_X6_overdueAfter
  rw [hc, zb_some, hb1, zb_some]
  unfold q_X6_overdueAfter_J40
  rw [c_overdueSpans hI' hq, zb_some]
end PF
