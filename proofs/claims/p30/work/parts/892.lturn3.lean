/-! the law's acts: a read of the host; a turn -/
section PG3
variable {a b : Nat → Int} {q t l p e : Nat → Int32} {u : tX6} {m : Int}
theorem g_slow {s : Nat} {w : Nat → Int32} {c : Int} (h : aI c b) (hQ : vQ w b) (hP : vP p b) (hs : s < 8) : zl 1000000 (q_L_turn_L563 p (zI s) w) (0, 0) = some (zI (wk b s (b 2).toNat)) := by
  have hN := h.2.1
  unfold aN at hN
  refine zl_run (fun k => (zI (wk b s k), zI k)) (a := ((0 : Int32), (0 : Int32))) (b := zI (wk b s (b 2).toNat)) (b 2).toNat rfl (by omega) (fun k hk => ?_) ?_
  · have hpk := h.2.2.2.2.1 k (by omega)
    obtain ⟨v1, v2⟩ := pv hpk.1 (T := b (34 + 2 * k + 1)) (by omega)
    have e : wk b s (k + 1) = if wk b s k = 1 then 1 else if wkP b s k then 1 else 0 := rfl
    unfold q_L_turn_L563
    dsimp only
    rw [if_neg (show ¬ w 2 ≤ zI k by rw [hQ 2 (by omega)]; exact zle_n (h.1 2) (zr_s (by omega)) (by omega)), zI_1, e]
    rcases wk_b b s k with d | d
    · rw [d, if_pos (show zI 0 = 0 from rfl), if_neg (show ¬ (0 : Int) = 1 by omega), zg_N (by omega) (by omega), hP k (by omega), v1]
      by_cases c1 : b (34 + 2 * k) = s
      · rw [if_pos (show zI (b (34 + 2 * k)) = zI s by rw [c1]), zg_N (by omega) (by omega), hP k (by omega), v2]
        by_cases c2 : b 18 ≤ b (34 + 2 * k + 1)
        · rw [if_neg (show ¬ zI (b (34 + 2 * k + 1)) < w 18 by rw [hQ 18 (by omega)]; exact zlt_n (h.1 _) (h.1 18) c2), if_pos (show wkP b s k from ⟨c1, c2⟩)]
          rfl
        · rw [if_pos (show zI (b (34 + 2 * k + 1)) < w 18 by rw [hQ 18 (by omega)]; exact zlt_p (h.1 _) (h.1 18) (by omega)), if_neg (show ¬ wkP b s k from fun q => c2 q.2)]
          rfl
      · rw [if_neg (zeq_n (h.1 _) (zr_s (by omega)) c1), if_neg (show ¬ wkP b s k from fun q => c1 q.1)]
        rfl
    · rw [d, if_neg (show ¬ zI 1 = 0 by decide), if_pos rfl]
      rfl
  · unfold q_L_turn_L563
    dsimp only
    rw [if_pos (show w 2 ≤ zI ((b 2).toNat : Nat) by rw [hQ 2 (by omega)]; exact zle_p (h.1 2) (zr_s (by omega)) (by omega))]
theorem g_560 {s : Nat} {T : Int32} {w : Nat → Int32} {c : Int} {r : Int32 × tX1 × tX2} (h : aI (c + 1) b) (hc : 0 ≤ c) (hQ : vQ w b) (hT : vT t b) (hL : vL l b) (hP : vP p b) (hE : vE e b) (hs : s < 8) (hm : b 0 ≤ m)
    (r1 : q_X6_read u (zI s) (1 + T) = some r) (r2 : r.1 = zI (aSl b s).1) (r3 : UR (r.2.1, u.2.1, r.2.2, u.2.2.2) (aSl b s).2) : okT m (q_L_turn_J560 t l p u (zI s) T w e) := by
  have hN := h.2.1
  unfold aN at hN
  have hz : zr (s : Int) := zr_s (by omega)
  have j682 : ∀ w0 w1 w2 : Nat → Int32, ∀ x : Int, x = (aSl b s).1 → (x = 0 ∨ x = 1) → vQ w0 (aSl b s).2 → vT t (aSl b s).2 → vL w1 (aSl b s).2 → vP p (aSl b s).2 → vE w2 (aSl b s).2 → (aSl b s).2 0 ≤ m → okT m (q_L_turn_J682 t p u (zI s) T (zI x) w0 w1 w2) := by
    intro w0 w1 w2 x hx hx1 g1 g2 g3 g4 g5 g6
    unfold q_L_turn_J682
    rw [r1, zb_some]
    rcases hx1 with d | d
    · rw [d, if_pos (show zI 0 = 0 from rfl), if_pos (show r.1 = 0 by rw [r2, ← hx, d]; rfl)]
      exact ⟨_, (aSl b s).2, rfl, ⟨r3, g1, g2, g3, g4, g5⟩, g6⟩
    · rw [d, if_neg (show ¬ zI 1 = 0 by decide), if_pos (show r.1 = 1 by rw [r2, ← hx, d]; rfl)]
      exact ⟨_, (aSl b s).2, rfl, ⟨r3, g1, g2, g3, g4, g5⟩, g6⟩
  unfold q_L_turn_J560
  rw [g_slow h hQ hP hs, zb_some]
  unfold q_L_turn_J617
  rcases wk_b b s (b 2).toNat with d | d
  · have ea : aSl b s = (0, b) := by unfold aSl; rw [if_pos d]
    rw [ea] at j682
    rw [d, if_pos (show zI 0 = 0 from rfl)]
    exact j682 _ _ _ 0 rfl (Or.inl rfl) hQ hT hL hP hE hm
  · obtain ⟨B, hB⟩ : ∃ B, B = aLogs (up b 12 (b 12 + 1)) 6 s := ⟨_, rfl⟩
    have ea : aSl b s = (1, aAsk' B s) := by unfold aSl; rw [if_neg (by omega), hB]
    rw [ea] at j682
    have hB1 : aI c B := by rw [hB]; exact aI_log1 (k := 6) (j := 12) h hc (by omega) (by omega) (Or.inr rfl)
    have hB0 : aI 0 B := aI_mono hB1 hc
    have ep : ∀ i, i ≠ 12 → up b 12 (b 12 + 1) i = b i := fun i w => up_ne _ _ w
    have el : ∀ i, i < 74 → i ≠ 14 → i ≠ 12 → B i = b i := fun i w1 w2 w3 => by rw [hB, aLogs_lo _ _ _ w1 w2, ep i w3]
    have hQ1 : vQ (upd w 12 (w 12 + 1)) (up b 12 (b 12 + 1)) := by
      rw [hQ 12 (by omega), zI_a1]
      exact vQ_up hQ
    rw [d, if_neg (show ¬ zI 1 = 0 by decide)]
    unfold zn
    generalize upd w 12 (w 12 + 1) = w1 at hQ1 ⊢
    dsimp only
    obtain ⟨e', k1, k2⟩ := j_log (a := up b 12 (b 12 + 1)) (q := w1) (e := e) (k := 6) (s := (s : Int)) (hQ1 14 (by omega)) (hQ1 0 (by omega)) (by rw [ep 14 (by omega)]; omega)
    have hQ2 := vQ_logs (k := 6) (s := (s : Int)) hQ1
    have hE2 := k2 (vE_of hE (by omega) (ep 14 (by omega)) (fun i u1 u2 => ep i (by omega)))
    rw [← hB] at hQ2 hE2
    have hT2 : vT t B := vT_of hT (fun k hk => el _ (by omega) (by omega) (by omega))
    have hL2 : vL l B := vL_of hL (el 8 (by omega) (by omega) (by omega)) (by omega) (fun k hk => el _ (by omega) (by omega) (by omega))
    have hP2 : vP p B := vP_of hP (el 2 (by omega) (by omega) (by omega)) (by omega) (fun i u1 u2 => el i (by omega) (by omega) (by omega))
    have hNB := hB0.2.1
    unfold aN at hNB
    have hm2 : B 0 ≤ m := by rw [el 0 (by omega) (by omega) (by omega)]; exact hm
    have hpl := aPl_b B s (by omega)
    rw [show q_L_log w1 e 6 (zI s) = _ from k1, zb_some]
    generalize upd w1 14 (zI (up b 12 (b 12 + 1) 14 + 1)) = w2 at hQ2 ⊢
    dsimp only
    rw [j_place hB0 hz hQ2 hL2, zb_some]
    have no : aWhy B s ≠ 0 → okT m (q_L_turn_J682 t p u (zI s) T (zI 1) w2 l e') := by
      intro hw
      have e9 : aAsk' B s = B := by unfold aAsk'; rw [if_neg hw]
      rw [e9] at j682
      exact j682 _ _ _ 1 rfl (Or.inr rfl) hQ2 hT2 hL2 hP2 hE2 hm2
    by_cases c1 : aPlace B s = -6
    · rw [if_neg (show ¬ 0 ≤ zI (aPlace B s) from zle_n (x := 0) (zr_s (by omega)) (zr_s (by omega)) (by omega))]
      by_cases c2 : B 5 = s
      · rw [if_pos (show w2 5 = zI s by rw [hQ2 5 (by omega), c2])]
        exact no (by unfold aWhy; rw [if_pos (by omega), if_pos c1, if_pos c2]; omega)
      · rw [if_neg (show ¬ w2 5 = zI s by rw [hQ2 5 (by omega)]; exact zeq_n (hB0.1 5) hz c2)]
        by_cases c3 : B 8 = 6
        · rw [if_pos (show 6 ≤ w2 8 by rw [hQ2 8 (by omega)]; exact zle_p (x := 6) (zr_s (by omega)) (hB0.1 8) (by omega))]
          exact no (by unfold aWhy; rw [if_pos (by omega), if_pos c1, if_neg c2, if_pos c3]; omega)
        · have hw : aWhy B s = 0 := by unfold aWhy; rw [if_pos (by omega), if_pos c1, if_neg c2, if_neg c3]
          have e9 : aAsk' B s = aAsk B s := if_pos hw
          rw [e9] at j682
          obtain ⟨n, hn⟩ : ∃ n : Nat, n = (B 8).toNat := ⟨_, rfl⟩
          have en : B 8 = (n : Int) := by omega
          obtain ⟨g1, g2, g3, g4, g5⟩ := GR_ask (s := s) (v := (s : Int)) hQ2 hT2 hL2 hP2 hE2 hB0 (by omega)
          rw [if_neg (show ¬ 6 ≤ w2 8 by rw [hQ2 8 (by omega)]; exact zle_n (x := 6) (zr_s (by omega)) (hB0.1 8) (by omega)), hQ2 8 (by omega), zI_a1, en, zs_N (by omega) (by omega), ← en, hn]
          exact j682 _ _ _ 1 rfl (Or.inr rfl) g1 g2 g3 g4 g5 (by dsimp only; rw [aAsk_ne (by omega) (by omega) (by omega)]; exact hm2)
    · rw [if_pos (show 0 ≤ zI (aPlace B s) from zle_p (x := 0) (zr_s (by omega)) (zr_s (by omega)) (by omega))]
      exact no (by unfold aWhy; rw [if_pos (by omega), if_neg c1]; omega)
theorem g_read {s y : Nat} {x : Int32} (h : GR (q, t, l, p, e, u) a) (hs : s < 8) (hy : 1 ≤ y ∧ y ≤ 200) (h9 : a 0 + 300 ≤ 99999) (hm : a 0 + 300 ≤ m) : okT m (q_L_turn_J493 q t l p e u x (zI s) (zI y)) := by
  obtain ⟨hU, hQ, hT, hL, hP, hE⟩ := h
  dsimp only at hU hQ hT hL hP hE
  have hI := hU.1
  have hN := hI.2.1
  unfold aN at hN
  obtain ⟨n, hn, k1⟩ := j_low (x >>> (3 &&& 31)) (n := y) (by omega)
  have e1 : (1 : Int32) + zI n = zI (1 + (n : Int)) := zI_add 1 n
  obtain ⟨r, r1, r2, r3⟩ := k_read hU (s := (s : Int)) (t := 1 + (n : Int)) (by omega) (by omega) (by omega)
  rw [← e1] at r1
  have hI0 := aI_rd0 hI (t := 1 + (n : Int)) (by omega) (by omega)
  have hr2 : aRead a s (1 + (n : Int)) = aSl (aRd1 (aRd0 a (1 + (n : Int)))) s := rfl
  rw [hr2] at r2 r3
  have b0 : aRd0 a (1 + (n : Int)) 0 = a 0 + (1 + (n : Int)) := up_at _ _ _
  have b1 : aRd0 a (1 + (n : Int)) 1 = 0 := by
    unfold aRd0
    rw [up_ne _ _ (by omega), up_at]
  have be : ∀ i, i ≠ 0 → i ≠ 1 → aRd0 a (1 + (n : Int)) i = a i := fun i w1 w2 => by
    unfold aRd0
    rw [up_ne _ _ w1, up_ne _ _ w2]
  have hs5 : vQ (upd (upd q 0 (q 0 + (1 + zI n))) 1 0) (aRd0 a (1 + (n : Int))) := fun i hi => by
    by_cases d1 : i = 1
    · rw [d1, upd_at, b1]
      rfl
    · rw [upd_ne' _ _ d1]
      by_cases d0 : i = 0
      · rw [d0, upd_at, b0, hQ 0 (by omega), e1, zI_add]
      · rw [upd_ne' _ _ d0, be i d0 d1]
        exact hQ i hi
  unfold q_L_turn_J493
  rw [k1, zb_some]
  unfold zn
  dsimp only
  generalize upd (upd q 0 (q 0 + (1 + zI n))) 1 0 = w at hs5 ⊢
  have hT0 : vT t (aRd0 a (1 + (n : Int))) := vT_of hT (fun k hk => be _ (by omega) (by omega))
  have hL0 : vL l (aRd0 a (1 + (n : Int))) := vL_of hL (be 8 (by omega) (by omega)) (by omega) (fun k hk => be _ (by omega) (by omega))
  have hP0 : vP p (aRd0 a (1 + (n : Int))) := vP_of hP (be 2 (by omega) (by omega)) (by omega) (fun i u1 u2 => be i (by omega) (by omega))
  have hE0 : vE e (aRd0 a (1 + (n : Int))) := vE_of hE (by omega) (be 14 (by omega) (by omega)) (fun i u1 u2 => be i (by omega) (by omega))
  have hm0 : aRd0 a (1 + (n : Int)) 0 ≤ m := by rw [b0]; omega
  generalize aRd0 a (1 + (n : Int)) = b at *
  have hNb := hI0.2.1
  unfold aN at hNb
  by_cases c1 : b 5 = -6
  · have eR : aRd1 b = b := if_pos c1
    rw [eR] at r2 r3
    rw [if_pos (show w 5 < 0 by rw [hs5 5 (by omega)]; exact zlt_p (y := 0) (hI0.1 5) (zr_s (by omega)) (by omega))]
    exact g_560 (c := 21) hI0 (by omega) hs5 hT0 hL0 hP0 hE0 hs hm0 r1 r2 r3
  · obtain ⟨z, hz⟩ : ∃ z : Int, z = (if 2 ≤ b 6 then b 6 - 2 else 0) := ⟨_, rfl⟩
    have eR : aRd1 b = aLogs (up (up b 6 z) 10 (b 10 + 1)) 2 (b 5) := by
      unfold aRd1
      rw [if_neg c1, hz]
    obtain ⟨i1, i2⟩ := aI_rd1 (c := 21) hI0 (by omega)
    have ep : ∀ i, i ≠ 6 → i ≠ 10 → up (up b 6 z) 10 (b 10 + 1) i = b i := fun i w1 w2 => by rw [up_ne _ _ w2, up_ne _ _ w1]
    have el : ∀ i, i < 74 → i ≠ 14 → i ≠ 6 → i ≠ 10 → aRd1 b i = b i := fun i w1 w2 w3 w4 => by rw [eR, aLogs_lo _ _ _ w1 w2, ep i w3 w4]
    have j541 : ∀ y : Int32, y = zI z → okT m (q_L_turn_J541 t l p e u (zI s) (zI n) w y) := by
      intro y hy
      subst hy
      have hQ1 : vQ (upd (upd w 6 (zI z)) 10 (upd w 6 (zI z) 10 + 1)) (up (up b 6 z) 10 (b 10 + 1)) := by
        rw [upd_ne' _ _ (by omega), hs5 10 (by omega), zI_a1]
        exact vQ_up (vQ_up hs5)
      unfold q_L_turn_J541 zn
      dsimp only
      generalize upd (upd w 6 (zI z)) 10 (upd w 6 (zI z) 10 + 1) = w1 at hQ1 ⊢
      obtain ⟨e', k1, k2⟩ := j_log (a := up (up b 6 z) 10 (b 10 + 1)) (q := w1) (e := e) (k := 2) (s := b 5) (hQ1 14 (by omega)) (hQ1 0 (by omega)) (by rw [ep 14 (by omega) (by omega)]; omega)
      have hQ2 := vQ_logs (k := 2) (s := b 5) hQ1
      have hE2 := k2 (vE_of hE0 (by omega) (ep 14 (by omega) (by omega)) (fun i u1 u2 => ep i (by omega) (by omega)))
      rw [← eR] at hQ2 hE2
      rw [hQ1 5 (by omega), ep 5 (by omega) (by omega), show q_L_log w1 e 2 (zI (b 5)) = _ from k1, zb_some]
      dsimp only
      exact g_560 (c := 20) i1 (by omega) hQ2 (vT_of hT0 (fun k hk => el _ (by omega) (by omega) (by omega) (by omega))) (vL_of hL0 (el 8 (by omega) (by omega) (by omega) (by omega)) (by omega) (fun k hk => el _ (by omega) (by omega) (by omega) (by omega))) (vP_of hP0 (el 2 (by omega) (by omega) (by omega) (by omega)) (by omega) (fun i u1 u2 => el i (by omega) (by omega) (by omega) (by omega))) hE2 hs (by rw [i2]; exact hm0) r1 r2 r3
    rw [if_neg (show ¬ w 5 < 0 by rw [hs5 5 (by omega)]; exact zlt_n (y := 0) (hI0.1 5) (zr_s (by omega)) (by omega))]
    by_cases c2 : b 6 ≤ 2
    · rw [if_pos (show w 6 ≤ 2 by rw [hs5 6 (by omega)]; exact zle_p (y := 2) (hI0.1 6) (zr_s (by omega)) c2)]
      refine j541 0 ?_
      have : z = 0 := by
        rw [hz]
        split <;> omega
      rw [this]
      rfl
    · rw [if_neg (show ¬ w 6 ≤ 2 by rw [hs5 6 (by omega)]; exact zle_n (y := 2) (hI0.1 6) (zr_s (by omega)) (by omega)), hs5 6 (by omega)]
      refine j541 _ ?_
      rw [hz, if_pos (by omega)]
      exact zI_sub _ 2
theorem g_160 {kd y : Nat} {x8 x9 : Int32} (h : GR (q, t, l, p, e, u) a) (hk : kd < 16) (hy : 1 ≤ y ∧ y ≤ 8) (h9 : a 0 + 300 ≤ 99999) (hm : a 0 + 300 ≤ m) : okT m (q_L_turn_J160 q t l p e u x8 x9 (zI kd) (zI y)) := by
  obtain ⟨s, hs, k1⟩ := j_low x9 (n := y) (by omega)
  have hkz : zr (kd : Int) := zr_s (by omega)
  unfold q_L_turn_J160
  rw [k1, zb_some]
  by_cases c3 : kd < 3
  · obtain ⟨n, hn, k2⟩ := j_low (x9 >>> (4 &&& 31)) (n := 9) (by omega)
    rw [if_neg (show ¬ 3 ≤ zI kd from zle_n (x := 3) (zr_s (by omega)) hkz (by omega)), show q_L_low (x9 >>> (4 &&& 31)) 9 = _ from k2, zb_some]
    exact g_spot h (by omega) (by omega) hn
  rw [if_pos (show 3 ≤ zI kd from zle_p (x := 3) (zr_s (by omega)) hkz (by omega))]
  by_cases c4 : kd = 3
  · rw [if_pos (show zI kd = 3 by rw [c4]; rfl)]
    exact g_ask h (by omega) (by omega)
  rw [if_neg (show ¬ zI kd = 3 from zeq_n (y := 3) hkz (zr_s (by omega)) (by omega))]
  by_cases c5 : kd = 4
  · rw [if_pos (show zI kd = 4 by rw [c5]; rfl)]
    exact g_unask h (by omega) (by omega)
  rw [if_neg (show ¬ zI kd = 4 from zeq_n (y := 4) hkz (zr_s (by omega)) (by omega))]
  by_cases c8 : kd < 8
  · obtain ⟨n, hn, k2⟩ := j_low (x8 >>> (6 &&& 31)) (n := 3) (by omega)
    rw [if_neg (show ¬ 8 ≤ zI kd from zle_n (x := 8) (zr_s (by omega)) hkz (by omega)), show q_L_low (x8 >>> (6 &&& 31)) 3 = _ from k2, zb_some]
    split
    · exact g_read (y := 200) h (by omega) (by omega) h9 hm
    · exact g_read (y := 20) h (by omega) (by omega) h9 hm
  rw [if_pos (show 8 ≤ zI kd from zle_p (x := 8) (zr_s (by omega)) hkz (by omega))]
  by_cases c12 : kd < 12
  · obtain ⟨n, hn, k2⟩ := j_low (x8 >>> (6 &&& 31)) (n := 3) (by omega)
    have jq : ∀ z : Nat, 1 ≤ z ∧ z ≤ 300 → okT m (q_L_turn_J740 q t l p e u x9 (zI z)) := by
      intro z hz
      obtain ⟨n, hn, k3⟩ := j_low (x9 >>> (3 &&& 31)) (n := z) (by omega)
      unfold q_L_turn_J740
      rw [k3, zb_some]
      exact g_quiet h (by omega) h9 hm
    rw [if_neg (show ¬ 12 ≤ zI kd from zle_n (x := 12) (zr_s (by omega)) hkz (by omega)), show q_L_low (x8 >>> (6 &&& 31)) 3 = _ from k2, zb_some]
    split
    · exact jq 300 (by omega)
    · exact jq 40 (by omega)
  rw [if_pos (show 12 ≤ zI kd from zle_p (x := 12) (zr_s (by omega)) hkz (by omega))]
  by_cases d12 : kd = 12
  · rw [if_pos (show zI kd = 12 by rw [d12]; rfl)]
    exact g_giveUp h (by omega)
  rw [if_neg (show ¬ zI kd = 12 from zeq_n (y := 12) hkz (zr_s (by omega)) (by omega))]
  by_cases d13 : kd = 13
  · rw [if_pos (show zI kd = 13 by rw [d13]; rfl)]
    obtain ⟨n, hn, k2⟩ := j_low x9 (n := 3) (by omega)
    obtain ⟨hU, hQ, hT, hL, hP, hE⟩ := h
    dsimp only at hU hQ hT hL hP hE
    obtain ⟨r, r1, r2, r3⟩ := k_setWay hU (p := (n : Int)) (by omega)
    have e9 : ∀ i, i ≠ 4 → up a 4 (n : Int) i = a i := fun i w1 => up_ne _ _ w1
    obtain ⟨g1, g2, g3, g4⟩ := GR_num (b := up a 4 (n : Int)) hT hL hP hE hU.1 (e9 2 (by omega)) (e9 8 (by omega)) (e9 14 (by omega)) (fun i u1 u2 => e9 i (by omega))
    rw [show q_L_low x9 3 = _ from k2, zb_some, r1, zb_some, if_pos (show r.1 = q 4 by rw [r2, hQ 4 (by omega)])]
    exact ⟨_, up a 4 (n : Int), rfl, ⟨r3, vQ_up hQ, g1, g2, g3, g4⟩, by rw [e9 0 (by omega)]; omega⟩
  rw [if_neg (show ¬ zI kd = 13 from zeq_n (y := 13) hkz (zr_s (by omega)) (by omega))]
  by_cases d14 : kd = 14
  · rw [if_pos (show zI kd = 14 by rw [d14]; rfl)]
    obtain ⟨n, hn, k2⟩ := j_low x9 (n := 2) (by omega)
    rw [show q_L_low x9 2 = _ from k2, zb_some]
    exact g_spares h (by omega) hn
  rw [if_neg (show ¬ zI kd = 14 from zeq_n (y := 14) hkz (zr_s (by omega)) (by omega))]
  obtain ⟨n, hn, k2⟩ := j_low x9 (n := 5) (by omega)
  rw [show q_L_low x9 5 = _ from k2, zb_some]
  rcases (show n = 0 ∨ n = 1 ∨ n = 2 ∨ n = 3 ∨ n = 4 by omega) with rfl | rfl | rfl | rfl | rfl
  · obtain ⟨z, hz, k3⟩ := j_low (x9 >>> (3 &&& 31)) (n := 12) (by omega)
    rw [if_pos (show zI ((0 : Nat) : Int) = 0 from rfl), show q_L_low (x9 >>> (3 &&& 31)) 12 = _ from k3, zb_some]
    exact g_set (k := 0) h (by omega) (by omega) (by unfold loS hiS; rw [if_pos rfl, if_pos rfl]; omega)
  · obtain ⟨z, hz, k3⟩ := j_low (x9 >>> (3 &&& 31)) (n := 20) (by omega)
    rw [if_neg (show ¬ zI ((1 : Nat) : Int) = 0 by decide), if_pos (show zI ((1 : Nat) : Int) = 1 from rfl), show q_L_low (x9 >>> (3 &&& 31)) 20 = _ from k3, zb_some, show (1 : Int32) + zI z = zI (1 + (z : Int)) from zI_add 1 z]
    exact g_set (k := 1) h (by omega) (by omega) ⟨by show (1 : Int) ≤ _; omega, by show _ ≤ (40 : Int); omega⟩
  · obtain ⟨z, hz, k3⟩ := j_low (x9 >>> (3 &&& 31)) (n := 9) (by omega)
    rw [if_neg (show ¬ zI ((2 : Nat) : Int) = 0 by decide), if_neg (show ¬ zI ((2 : Nat) : Int) = 1 by decide), if_pos (show zI ((2 : Nat) : Int) = 2 from rfl), show q_L_low (x9 >>> (3 &&& 31)) 9 = _ from k3, zb_some, show (1 : Int32) + zI z = zI (1 + (z : Int)) from zI_add 1 z]
    exact g_set (k := 2) h (by omega) (by omega) ⟨by show (1 : Int) ≤ _; omega, by show _ ≤ (9 : Int); omega⟩
  · obtain ⟨z, hz, k3⟩ := j_low (x9 >>> (3 &&& 31)) (n := 8) (by omega)
    rw [if_neg (show ¬ zI ((3 : Nat) : Int) = 0 by decide), if_neg (show ¬ zI ((3 : Nat) : Int) = 1 by decide), if_neg (show ¬ zI ((3 : Nat) : Int) = 2 by decide), if_pos (show zI ((3 : Nat) : Int) = 3 from rfl), show q_L_low (x9 >>> (3 &&& 31)) 8 = _ from k3, zb_some, show (2 : Int32) + zI z = zI (2 + (z : Int)) from zI_add 2 z]
    exact g_set (k := 3) h (by omega) (by omega) ⟨by show (2 : Int) ≤ _; omega, by show _ ≤ (9 : Int); omega⟩
  · obtain ⟨z, hz, k3⟩ := j_low (x9 >>> (3 &&& 31)) (n := 500) (by omega)
    rw [if_neg (show ¬ zI ((4 : Nat) : Int) = 0 by decide), if_neg (show ¬ zI ((4 : Nat) : Int) = 1 by decide), if_neg (show ¬ zI ((4 : Nat) : Int) = 2 by decide), if_neg (show ¬ zI ((4 : Nat) : Int) = 3 by decide), show q_L_low (x9 >>> (3 &&& 31)) 500 = _ from k3, zb_some, show (50 : Int32) + zI z = zI (50 + (z : Int)) from zI_add 50 z]
    exact g_set (k := 4) h (by omega) (by omega) ⟨by show (50 : Int) ≤ _; omega, by show _ ≤ (2000 : Int); omega⟩
theorem g_139 {kd : Nat} {x8 x9 : Int32} (h : GR (q, t, l, p, e, u) a) (hk : kd < 16) (h9 : a 0 + 300 ≤ 99999) (hm : a 0 + 300 ≤ m) : okT m (q_L_turn_J139 q t l p e u x8 x9 (zI kd)) := by
  obtain ⟨n, hn, k2⟩ := j_low (x8 >>> (5 &&& 31)) (n := 3) (by omega)
  unfold q_L_turn_J139
  rw [show q_L_low (x8 >>> (5 &&& 31)) 3 = _ from k2, zb_some]
  split
  · exact g_160 (y := 8) h hk (by omega) h9 hm
  · exact g_160 (y := 3) h hk (by omega) h9 hm
theorem g_turn (x7 x8 x9 : Int32) (h : GR (q, t, l, p, e, u) a) (h9 : a 0 + 300 ≤ 99999) (hm : a 0 + 300 ≤ m) : okT m (q_L_turn q t l p e u x7 x8 x9) := by
  unfold q_L_turn
  split
  · exact g_139 (kd := 8) h (by omega) h9 hm
  · split
    · obtain ⟨n, hn, k2⟩ := j_low x8 (n := 16) (by omega)
      rw [show q_L_low x8 16 = _ from k2, zb_some]
      exact g_139 h hn h9 hm
    · exact g_139 (kd := 0) h (by omega) h9 hm
end PG3
