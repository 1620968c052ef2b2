/-! the class: the end of a check -/
section PC4
variable {a : Nat → Int}
theorem sRn_of {s : tX5} {a b : Nat → Int} {n : Nat} (h : sRn s a n) (e : ∀ i, 34 ≤ i → i < 34 + 2 * n → b i = a i) : sRn s b n := fun k hk => by
  rw [e _ (by omega) (by omega), e _ (by omega) (by omega)]
  exact h k hk
theorem c_look {u : tX1} {b : Nat → Int} {sp : Int} {n k : Nat} (hr : ∀ i, zr (b i)) (hset : u.1 3 = zI (b 18)) (hsp : u.2.2.2.2.2.2.1 = zI (b 3)) (htk : u.2.2.2.2.2.2.2.1 = zI (b 0)) (hrp : u.2.2.2.2.2.2.2.2.2.2.2.2.2.2.2.1 = zI (b 11)) (hs : sRn u.2.2.1 b n) (hsz : u.2.2.1.2.2 = zI n) (hl : lR u.2.2.2.2.1 b) (h14 : 0 ≤ b 14 ∧ b 14 < 3000000) (hz : zr sp) (hn : n ≤ k) (hk : k < 20) :
    ∃ (s' : tX5) (g' : tX3), q_X1_lookAtSpot u (zI sp) (zI (b (34 + 2 * k))) (zI (b (34 + 2 * k + 1))) = some (s', g', zI ((eStep sp k (n, b)).2 3), zI ((eStep sp k (n, b)).2 11)) ∧ sRn s' (eStep sp k (n, b)).2 (eStep sp k (n, b)).1 ∧ s'.2.2 = zI ((eStep sp k (n, b)).1 : Nat) ∧ (∀ j, k < j → s'.1 j = u.2.2.1.1 j ∧ s'.2.1 j = u.2.2.1.2.1 j) ∧ lR g' (eStep sp k (n, b)).2 := by
  have hlo : ∀ m : Int, ∀ i, i < 74 → i ≠ 14 → aLogs b m sp i = b i := fun m i w1 w2 => aLogs_lo b m sp w1 w2
  have lput : ∀ (g : tX3) (w : Nat → Int) (x y : Int), lR g w → lR g (ePut w n x y) := fun g w x y hg => lR_of hg (ePut_ne (by omega)) (fun i w1 w2 => ePut_ne (by omega))
  unfold q_X1_lookAtSpot eStep
  dsimp only
  by_cases c1 : b (34 + 2 * k) = sp
  · rw [if_pos (show zI (b (34 + 2 * k)) = zI sp by rw [c1]), if_pos c1, hset]
    by_cases c2 : b 18 ≤ b (34 + 2 * k + 1)
    · rw [if_pos (zle_p (hr 18) (hr _) c2), if_pos c2, hsp]
      by_cases c3 : 0 < b 3
      · obtain ⟨g', w1, w2⟩ := c_log (a := b) (k := 4) (s := sp) h14 hl
        rw [if_neg (show ¬ zI (b 3) ≤ 0 from zle_n (y := 0) (hr 3) (zr_s (by omega)) c3), if_pos c3, hrp, htk]
        unfold zn
        rw [show q_X3_append u.2.2.2.2.1 (zI (b 0)) 4 (zI sp) = some g' from w1]
        dsimp only
        rw [zb_some]
        have e : ∀ i, i ≠ 3 → i ≠ 11 → eRep b sp i = aLogs b 4 sp i := fun i h1 h2 => by
          unfold eRep
          rw [up_ne _ _ h2, up_ne _ _ h1]
        have e3 : eRep b sp 3 = b 3 - 1 := by
          unfold eRep
          rw [up_ne _ _ (by omega), up_at]
        have e11 : eRep b sp 11 = b 11 + 1 := up_at _ _ _
        refine ⟨u.2.2.1, g', ?_, sRn_of hs (fun i v1 v2 => by rw [e i (by omega) (by omega), hlo 4 i (by omega) (by omega)]), hsz, fun j _ => ⟨rfl, rfl⟩, lR_of w2 (e 14 (by omega) (by omega)) (fun i v1 v2 => e i (by omega) (by omega))⟩
        rw [e3, e11, zI_a1, show zI (b 3) - 1 = zI (b 3 - 1) from zI_sub _ 1]
      · obtain ⟨g', w1, w2⟩ := c_log (a := b) (k := 5) (s := sp) h14 hl
        obtain ⟨s', v1, v2, v3, v4⟩ := c_append (sp := b (34 + 2 * k)) (t := b (34 + 2 * k + 1)) (show n < 20 by omega) hs hsz
        rw [if_pos (show zI (b 3) ≤ 0 from zle_p (y := 0) (hr 3) (zr_s (by omega)) (by omega)), if_neg c3, v1, zb_some, htk, show q_X3_append u.2.2.2.2.1 (zI (b 0)) 5 (zI sp) = some g' from w1, zb_some]
        refine ⟨s', g', ?_, fun j hj => ?_, v3, fun j hj => v4 j (by omega), lput _ _ _ _ w2⟩
        · dsimp only
          rw [ePut_ne (by omega), ePut_ne (by omega), hlo 5 3 (by omega) (by omega), hlo 5 11 (by omega) (by omega), hrp]
        · dsimp only at hj ⊢
          have := v2 j hj
          by_cases c4 : j = n
          · subst c4
            rw [ePut_0, ePut_1] at this ⊢
            exact this
          · rw [ePut_ne (by omega), ePut_ne (by omega)] at this ⊢
            rw [hlo 5 _ (by omega) (by omega), hlo 5 _ (by omega) (by omega)]
            exact this
    · obtain ⟨s', v1, v2, v3, v4⟩ := c_append (sp := b (34 + 2 * k)) (t := b (34 + 2 * k + 1) + 1) (show n < 20 by omega) hs hsz
      rw [if_neg (zle_n (hr 18) (hr _) (by omega)), if_neg c2, zI_a1, v1, zb_some]
      refine ⟨s', u.2.2.2.2.1, ?_, v2, v3, fun j hj => v4 j (by omega), lput _ _ _ _ hl⟩
      dsimp only
      rw [ePut_ne (by omega), ePut_ne (by omega), hrp, hsp]
  · obtain ⟨s', v1, v2, v3, v4⟩ := c_append (sp := b (34 + 2 * k)) (t := b (34 + 2 * k + 1)) (show n < 20 by omega) hs hsz
    rw [if_neg (zeq_n (hr _) hz c1), if_neg c1, v1, zb_some]
    refine ⟨s', u.2.2.2.2.1, ?_, v2, v3, fun j hj => v4 j (by omega), lput _ _ _ _ hl⟩
    dsimp only
    rw [ePut_ne (by omega), ePut_ne (by omega), hrp, hsp]
theorem c_endCheck {d : tX1} {c : Int} (h : aI (c + 21) a) (hc : 0 ≤ c) (h5 : 0 ≤ a 5 ∧ a 5 ≤ 7) (hR : dR d a) : ∃ d' : tX1, q_X1_endCheck d (zI (a 5)) = some d' ∧ dR d' (aEnd a) := by
  have hr := h.1
  have hN := h.2.1
  unfold aN at hN
  obtain ⟨h0, ⟨e2, e0, e5⟩, hk⟩ := aEnd_facts h hc h5
  have hN0 := h0.2.1
  unfold aN at hN0
  have e14 := aEnd0_14 a
  obtain ⟨q1, q2, q3, q4, q5, n1, n2, n3, n4, n5, n6, n7, n8, n9, n10, n11, n12⟩ := id hR
  obtain ⟨p, hp⟩ : ∃ p : Nat, p = (a 5).toNat := ⟨_, rfl⟩
  have hp5 : a 5 = (p : Int) := by omega
  have eN : ∀ i, i < 74 → i ≠ 14 → aEnd0 a i = if i = 9 then a 9 + 1 else if i = 13 then a 5 else if i = 20 + (a 5).toNat then a 0 else if i = 7 then 0 else if i = 6 then 0 else if i = 5 then -6 else a i := fun i w1 w2 => aEnd0_lo a h5 w1 w2
  have eo : ∀ i, i < 74 → i ≠ 14 → i ≠ 9 → i ≠ 13 → (i < 20 ∨ 28 ≤ i) → i ≠ 7 → i ≠ 6 → i ≠ 5 → aEnd0 a i = a i := fun i w1 w2 w3 w4 w5 w6 w7 w8 => by
    rw [eN i w1 w2, if_neg w3, if_neg w4, if_neg (by omega), if_neg w6, if_neg w7, if_neg w8]
  -- the entry 'ends'
  have hpre : ∀ i, i ≠ 5 → i ≠ 6 → i ≠ 7 → i ≠ 20 + (a 5).toNat → i ≠ 13 → i ≠ 9 → up (up (up (aStop a) (20 + (a 5).toNat) (a 0)) 13 (a 5)) 9 (a 9 + 1) i = a i := fun i w1 w2 w3 w4 w5 w6 => by
    unfold aStop
    rw [up_ne _ _ w6, up_ne _ _ w5, up_ne _ _ w4, up_ne _ _ w3, up_ne _ _ w2, up_ne _ _ w1]
  have hp0 := hpre 0 (by omega) (by omega) (by omega) (by omega) (by omega) (by omega)
  have hp14 := hpre 14 (by omega) (by omega) (by omega) (by omega) (by omega) (by omega)
  obtain ⟨g1, hg1, hg2⟩ := c_log (a := up (up (up (aStop a) (20 + (a 5).toNat) (a 0)) 13 (a 5)) 9 (a 9 + 1)) (g := d.2.2.2.2.1) (k := 3) (s := a 5) (by omega) (lR_of q5 hp14 (fun i w1 w2 => hpre i (by omega) (by omega) (by omega) (by omega) (by omega) (by omega)))
  rw [hp0] at hg1
  have hg2 : lR g1 (aEnd0 a) := hg2
  unfold q_X1_endCheck q_X1_clearCheck zn
  rw [c_isSpan (zr_s (by omega)), zb_some, if_pos h5, if_neg (by decide), zb_some]
  have hst : (fun K : (Nat → Int32) → Option tX1 => zs 8 d.2.1 (zI (a 5)) d.2.2.2.2.2.2.2.1 K) = fun K => K (upd d.2.1 p (zI (a 0))) := by
    funext K
    rw [hp5, zs_N (by omega) (by omega), n3]
  rw [show ∀ K : (Nat → Int32) → Option tX1, zs 8 d.2.1 (zI (a 5)) d.2.2.2.2.2.2.2.1 K = K (upd d.2.1 p (zI (a 0))) from fun K => congrFun hst K]
  dsimp only
  rw [n3, show q_X3_append d.2.2.2.2.1 (zI (a 0)) 3 (zI (a 5)) = some g1 from hg1, zb_some]
  -- the loop over the spots
  have hloop := zl_rel (B := q_X1_endCheck_L73 d (zI (a 5)) ((-6), 0, 0) (upd d.2.1 p (zI (a 0))) (zI (a 5) + 1 - (zI (a 5) + 1) / 8 * 8) (d.2.2.2.2.2.2.2.2.2.2.2.2.2.1 + 1))
    (fun k x => x.1 = zI k ∧ sRn x.2.1 (eLoop (a 5) (aEnd0 a) k).2 (eLoop (a 5) (aEnd0 a) k).1 ∧ x.2.1.2.2 = zI ((eLoop (a 5) (aEnd0 a) k).1 : Nat) ∧ (∀ j, k ≤ j → x.2.1.1 j = d.2.2.1.1 j ∧ x.2.1.2.1 j = d.2.2.1.2.1 j) ∧ lR x.2.2.1 (eLoop (a 5) (aEnd0 a) k).2 ∧ x.2.2.2.1 = zI ((eLoop (a 5) (aEnd0 a) k).2 3) ∧ x.2.2.2.2 = zI ((eLoop (a 5) (aEnd0 a) k).2 11))
    (fun b => sRn b.1 (aEnd1 a).2 (aEnd1 a).1 ∧ b.1.2.2 = zI ((aEnd1 a).1 : Nat) ∧ lR b.2.1 (aEnd1 a).2 ∧ b.2.2.1 = zI ((aEnd1 a).2 3) ∧ b.2.2.2 = zI ((aEnd1 a).2 11)) (a 2).toNat ?_ ?_ 1000000 0 (0, (d.2.2.1.1, d.2.2.1.2.1, 0), g1, d.2.2.2.2.2.2.1, d.2.2.2.2.2.2.2.2.2.2.2.2.2.2.2.1) ⟨rfl, fun k hk => absurd hk (Nat.not_lt_zero k), rfl, fun j _ => ⟨rfl, rfl⟩, hg2, ?_, ?_⟩ (by omega) (by omega)
  · obtain ⟨b, hb, w1, w2, w3, w4, w5⟩ := hloop
    rw [hb, zb_some]
    refine ⟨_, rfl, ?_⟩
    obtain ⟨⟨i1, i2, i3, i4, i5, i6, i7⟩, i8, i9⟩ := hk (a 2).toNat (by omega)
    have e21 : aEnd1 a = eLoop (a 5) (aEnd0 a) (a 2).toNat := rfl
    rw [← e21] at i1 i2 i3 i4 i5 i6 i7 i8 i9
    unfold aEnd
    generalize aEnd1 a = L at i1 i2 i3 i4 i5 i6 i7 i8 i9 w1 w2 w3 w4 w5 ⊢
    obtain ⟨n, f⟩ := L
    dsimp only at i1 i2 i3 i4 i5 i6 i7 i8 i9 w1 w2 w3 w4 w5 ⊢
    have ez : ∀ i, (i < 34 + 2 * n ∨ 74 ≤ i) → i ≠ 2 → zr0 (up f 2 n) n ((a 2).toNat - n) i = f i := fun i h1 h2 => by
      rw [zr0_ne _ _ _ h1 (by omega), up_ne _ _ h2]
    have ez2 : zr0 (up f 2 n) n ((a 2).toNat - n) 2 = n := by
      rw [zr0_ne _ _ _ (by omega) (by omega), up_at]
    have el : ∀ i, i < 34 → i ≠ 2 → i ≠ 3 → i ≠ 11 → i ≠ 14 → zr0 (up f 2 n) n ((a 2).toNat - n) i = aEnd0 a i := fun i h1 h2 h3 h4 h5 => by
      rw [ez i (by omega) h2]
      exact i6 i h1 h3 h4 h5
    refine ⟨fun k hk => ?_, fun k hk => ?_, ⟨?_, ?_⟩, ?_, lR_of w3 (ez 14 (by omega) (by omega)) (fun i v1 v2 => ez i (Or.inr v1) (by omega)), ?_⟩
    · rw [el _ (by omega) (by omega) (by omega) (by omega) (by omega), eo _ (by omega) (by omega) (by omega) (by omega) (by omega) (by omega) (by omega) (by omega)]
      exact q1 k hk
    · dsimp only
      rw [el _ (by omega) (by omega) (by omega) (by omega) (by omega), eN _ (by omega) (by omega), if_neg (by omega), if_neg (by omega)]
      by_cases c1 : k = p
      · rw [c1, upd_at, if_pos (by omega)]
      · rw [upd_ne' _ _ c1, if_neg (by omega), if_neg (by omega), if_neg (by omega), if_neg (by omega)]
        exact q2 k hk
    · rw [ez2]
      exact sRn_of w1 (fun i v1 v2 => ez i (by omega) (by omega))
    · rw [ez2]
      exact w2
    · exact qR_of q4 (by rw [el 8 (by omega) (by omega) (by omega) (by omega) (by omega), eo 8 (by omega) (by omega) (by omega) (by omega) (by omega) (by omega) (by omega) (by omega)]) (by omega) (fun k hk => by rw [el _ (by omega) (by omega) (by omega) (by omega) (by omega), eo _ (by omega) (by omega) (by omega) (by omega) (by omega) (by omega) (by omega) (by omega)])
    · have e9 : aEnd0 a 9 = a 9 + 1 := by rw [eN 9 (by omega) (by omega), if_pos rfl]
      have e13 : aEnd0 a 13 = a 5 := by rw [eN 13 (by omega) (by omega), if_neg (by omega), if_pos rfl]
      have e7 : aEnd0 a 7 = 0 := by rw [eN 7 (by omega) (by omega), if_neg (by omega), if_neg (by omega), if_neg (by omega), if_pos rfl]
      have e6 : aEnd0 a 6 = 0 := by rw [eN 6 (by omega) (by omega), if_neg (by omega), if_neg (by omega), if_neg (by omega), if_neg (by omega), if_pos rfl]
      unfold nR
      dsimp only
      rw [ez 3 (by omega) (by omega), ez 11 (by omega) (by omega), el 4 (by omega) (by omega) (by omega) (by omega) (by omega), el 0 (by omega) (by omega) (by omega) (by omega) (by omega), el 1 (by omega) (by omega) (by omega) (by omega) (by omega), el 5 (by omega) (by omega) (by omega) (by omega) (by omega), el 6 (by omega) (by omega) (by omega) (by omega) (by omega), el 7 (by omega) (by omega) (by omega) (by omega) (by omega), el 13 (by omega) (by omega) (by omega) (by omega) (by omega), el 9 (by omega) (by omega) (by omega) (by omega) (by omega), el 10 (by omega) (by omega) (by omega) (by omega) (by omega), el 12 (by omega) (by omega) (by omega) (by omega) (by omega), e5, e6, e7, e9, e13, e0, eo 4 (by omega) (by omega) (by omega) (by omega) (by omega) (by omega) (by omega) (by omega), eo 1 (by omega) (by omega) (by omega) (by omega) (by omega) (by omega) (by omega) (by omega), eo 10 (by omega) (by omega) (by omega) (by omega) (by omega) (by omega) (by omega) (by omega), eo 12 (by omega) (by omega) (by omega) (by omega) (by omega) (by omega) (by omega) (by omega)]
      refine ⟨n1, w4, rfl, n4, z6, rfl, rfl, ?_, by rw [n9, zI_a1], n10, w5, n12⟩
      rw [zI_a1, show zI (a 5 + 1) - zI (a 5 + 1) / 8 * 8 = _ from zmod 8 (by omega) (by omega)]
      congr 1
      unfold rs
      rw [if_neg (by omega)]
      omega
  · intro k x hk2 hx
    obtain ⟨x1, ⟨xs, xt, xn⟩, x3, x4, x5⟩ := x
    obtain ⟨w1, w2, w3, w4, w5, w6, w7⟩ := hx
    dsimp only at w1 w2 w3 w4 w5 w6 w7
    obtain ⟨⟨i1, i2, i3, i4, i5, i6, i7⟩, i8, i9⟩ := hk k (by omega)
    have hsrc := q3.1 k (by omega)
    have b18 : (eLoop (a 5) (aEnd0 a) k).2 18 = a 18 := by rw [i6 18 (by omega) (by omega) (by omega) (by omega), eo 18 (by omega) (by omega) (by omega) (by omega) (by omega) (by omega) (by omega) (by omega)]
    have b0 : (eLoop (a 5) (aEnd0 a) k).2 0 = a 0 := by rw [i6 0 (by omega) (by omega) (by omega) (by omega), e0]
    have bs : (eLoop (a 5) (aEnd0 a) k).2 (34 + 2 * k) = a (34 + 2 * k) := by rw [i7 _ (by omega) (by omega), eo _ (by omega) (by omega) (by omega) (by omega) (by omega) (by omega) (by omega) (by omega)]
    have bt : (eLoop (a 5) (aEnd0 a) k).2 (34 + 2 * k + 1) = a (34 + 2 * k + 1) := by rw [i7 _ (by omega) (by omega), eo _ (by omega) (by omega) (by omega) (by omega) (by omega) (by omega) (by omega) (by omega)]
    unfold q_X1_endCheck_L73
    dsimp only
    subst w1
    rw [if_neg (show ¬ d.2.2.1.2.2 ≤ zI k by rw [q3.2]; exact zle_n (hr 2) (zr_s (by omega)) (by omega)), if_neg (show ¬ (20 : Int32) ≤ zI k from zle_n (x := 20) (zr_s (by omega)) (zr_s (by omega)) (by omega)), zg_N (by omega) (by omega), zg_N (by omega) (by omega), (w4 k (Nat.le_refl k)).1, (w4 k (Nat.le_refl k)).2, hsrc.1, hsrc.2, ← bs, ← bt]
    obtain ⟨s', g', v1, v2, v3, v4, v5⟩ := c_look (u := (d.1, upd d.2.1 p (zI (a 0)), (xs, xt, xn), d.2.2.2.1, x3, d.2.2.2.2.2.1, x4, d.2.2.2.2.2.2.2.1, d.2.2.2.2.2.2.2.2.1, (-6), 0, 0, (zI (a 5) + 1 - (zI (a 5) + 1) / 8 * 8), (d.2.2.2.2.2.2.2.2.2.2.2.2.2.1 + 1), d.2.2.2.2.2.2.2.2.2.2.2.2.2.2.1, x5, d.2.2.2.2.2.2.2.2.2.2.2.2.2.2.2.2)) (b := (eLoop (a 5) (aEnd0 a) k).2) (sp := a 5) (n := (eLoop (a 5) (aEnd0 a) k).1) (k := k) i2 (by rw [b18]; exact q1 3 (by omega)) w6 (by rw [b0]; exact n3) w7 w2 w3 w5 (by omega) (zr_s (by omega)) i1 (by omega)
    rw [v1, zb_some]
    refine ⟨_, rfl, by rw [zI_1], v2, v3, fun j hj => ?_, v5, rfl, rfl⟩
    have := v4 j (by omega)
    have h9 := w4 j (by omega)
    exact ⟨this.1.trans h9.1, this.2.trans h9.2⟩
  · intro x hx
    obtain ⟨x1, ⟨xs, xt, xn⟩, x3, x4, x5⟩ := x
    obtain ⟨w1, w2, w3, w4, w5, w6, w7⟩ := hx
    dsimp only at w1 w2 w3 w4 w5 w6 w7
    unfold q_X1_endCheck_L73
    dsimp only
    subst w1
    rw [if_pos (show d.2.2.1.2.2 ≤ zI ((a 2).toNat : Nat) by rw [q3.2]; exact zle_p (hr 2) (zr_s (by omega)) (by omega))]
    exact ⟨_, rfl, w2, w3, w5, w6, w7⟩
  · show _ = zI (aEnd0 a 3)
    rw [eo 3 (by omega) (by omega) (by omega) (by omega) (by omega) (by omega) (by omega) (by omega)]
    exact n2
  · show _ = zI (aEnd0 a 11)
    rw [eo 11 (by omega) (by omega) (by omega) (by omega) (by omega) (by omega) (by omega) (by omega)]
    exact n11
end PC4
