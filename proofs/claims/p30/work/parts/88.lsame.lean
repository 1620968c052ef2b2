/-! the law compares the class with its own disk -/
section PZ6
variable {a : Nat → Int} {q t l p e : Nat → Int32} {u : tX6}
theorem s_counts (hU : UR u a) (hQ : vQ q a) : zl 1000000 (q_L_same_L3 q u) 0 = some () := by
  refine zl_run (fun k => zI k) (a := (0 : Int32)) (b := ()) 13 rfl (by omega) (fun k hk => ?_) ?_
  · unfold q_L_same_L3
    rw [if_neg (show ¬ (13 : Int32) ≤ zI k from zle_n (x := 13) (zr_s (by omega)) (zr_s (by omega)) (by omega)), k_count hU hk, zb_some, zg_N (by omega) (by omega), hQ k (by omega), if_pos rfl, zI_1]
  · unfold q_L_same_L3
    rw [if_pos (show (13 : Int32) ≤ zI (13 : Nat) from zle_p (x := 13) (zr_s (by omega)) (zr_s (by omega)) (by omega))]
theorem s_settings (hU : UR u a) (hQ : vQ q a) : zl 1000000 (q_L_same_L34 q u) 0 = some () := by
  refine zl_run (fun k => zI k) (a := (0 : Int32)) (b := ()) 5 rfl (by omega) (fun k hk => ?_) ?_
  · unfold q_L_same_L34
    rw [if_neg (show ¬ (5 : Int32) ≤ zI k from zle_n (x := 5) (zr_s (by omega)) (zr_s (by omega)) (by omega)), k_setting hU hk, zb_some, show (15 : Int32) + zI k = zI ((15 + k : Nat) : Int) from zI_k 15 k, zg_N (by omega) (by omega), hQ (15 + k) (by omega), if_pos rfl, zI_1]
  · unfold q_L_same_L34
    rw [if_pos (show (5 : Int32) ≤ zI (5 : Nat) from zle_p (x := 5) (zr_s (by omega)) (zr_s (by omega)) (by omega))]
theorem s_tries (hU : UR u a) (hQ : vQ q a) (hP : vP p a) {s : Nat} (hs : s < 8) : zl 1000000 (q_L_same_L90 q p u (zI s)) (0, 0) = some (zI (aCnt a s)) := by
  have hI := hU.1
  have hN := hI.2.1
  unfold aN at hN
  refine zl_run (fun k => (zI (cN a s k), zI k)) (a := ((0 : Int32), (0 : Int32))) (b := zI (cN a s (a 2).toNat)) (a 2).toNat rfl (by omega) (fun k hk => ?_) ?_
  · have hpk := hI.2.2.2.2.1 k (by omega)
    obtain ⟨v1, v2⟩ := pv hpk.1 (T := a (34 + 2 * k + 1)) (by omega)
    unfold q_L_same_L90
    dsimp only
    rw [if_neg (show ¬ q 2 ≤ zI k by rw [hQ 2 (by omega)]; exact zle_n (hI.1 2) (zr_s (by omega)) (by omega)), zg_N (by omega) (by omega), hP k (by omega), v1, zI_1, cN_s]
    by_cases c1 : a (34 + 2 * k) = s
    · rw [if_pos (show zI (a (34 + 2 * k)) = zI s by rw [c1]), k_tries hU hs hk c1 rfl, zb_some, zg_N (by omega) (by omega), hP k (by omega), v2, if_pos rfl, if_pos c1, zI_a1]
    · rw [if_neg (zeq_n (hI.1 _) (zr_s (by omega)) c1), if_neg c1, Int.add_zero]
  · unfold q_L_same_L90
    dsimp only
    rw [if_pos (show q 2 ≤ zI ((a 2).toNat : Nat) by rw [hQ 2 (by omega)]; exact zle_p (hI.1 2) (zr_s (by omega)) (by omega))]
theorem s_spans (hU : UR u a) (hQ : vQ q a) (hT : vT t a) (hL : vL l a) (hP : vP p a) : zl 1000000 (q_L_same_L67 q t l p u) 0 = some () := by
  have hI := hU.1
  have hN := hI.2.1
  unfold aN at hN
  refine zl_run (fun k => zI k) (a := (0 : Int32)) (b := ()) 8 rfl (by omega) (fun k hk => ?_) ?_
  · have hz : zr (k : Int) := zr_s (by omega)
    have hS := hI.2.2.1 k hk
    have f0 := k_span hU hk (w := 0) (by omega)
    have f1 := k_span hU hk (w := 1) (by omega)
    have f2 := k_span hU hk (w := 2) (by omega)
    have f3 := k_span hU hk (w := 3) (by omega)
    have f4 := k_span hU hk (w := 4) (by omega)
    have f5 := k_span hU hk (w := 5) (by omega)
    have f6 := k_span hU hk (w := 6) (by omega)
    change q_X6_span u (zI k) 0 = some (zI (a (20 + k))) at f0
    change q_X6_span u (zI k) 1 = some (zI (aAge a k)) at f1
    change q_X6_span u (zI k) 2 = some (zI (aCnt a k)) at f2
    change q_X6_span u (zI k) 3 = some (zI (aSum a k 9)) at f3
    change q_X6_span u (zI k) 4 = some (zI (if a 19 < aAge a k then 2 else if aDue a k then 1 else 0)) at f4
    change q_X6_span u (zI k) 5 = some (zI (a 16 + a 17 * aSum a k (a 18))) at f5
    change q_X6_span u (zI k) 6 = some (zI (aPlace a k)) at f6
    have j238 : ∀ y : Int32, y = zI (if a 19 < aAge a k then 2 else if aDue a k then 1 else 0) → q_L_same_J238 q l p u (zI k) (zI (aCnt a k)) (zI (if a 19 < aAge a k then 2 else if aDue a k then 1 else 0)) y = some (Sum.inl (zI ((k + 1 : Nat) : Int))) := by
      intro y hy
      subst hy
      unfold q_L_same_J238
      rw [if_pos rfl, f5, zb_some, hQ 18 (by omega), j_sum hI hz (hI.1 18) hQ hP, zb_some, if_pos (show zI (a 16 + a 17 * aSum a k (a 18)) = q 16 + q 17 * zI (aSum a k (a 18)) by rw [hQ 16 (by omega), hQ 17 (by omega), zI_mul, zI_add]), f6, zb_some, j_place hI hz hQ hL, zb_some, if_pos rfl, k_tries_no hU hk, zb_some, if_pos rfl, zI_1]
    have ha : q 0 - zI (a (20 + k)) = zI (aAge a k) := by rw [hQ 0 (by omega), zI_sub]; rfl
    have hb : 0 ≤ aAge a k ∧ aAge a k ≤ 110000 := by unfold aAge; omega
    unfold q_L_same_L67
    rw [if_neg (show ¬ (8 : Int32) ≤ zI k from zle_n (x := 8) (zr_s (by omega)) (zr_s (by omega)) (by omega)), zg_N (by omega) (by omega), s_tries hU hQ hP hk, zb_some]
    unfold q_L_same_J144
    rw [f0, zb_some, zg_N (by omega) (by omega), hT k hk, if_pos rfl, f1, zb_some, ha, if_pos rfl, f2, zb_some, if_pos rfl, f3, zb_some, show q_L_sum q p (zI k) 9 = _ from j_sum (mo := 9) hI hz (zr_s (by omega)) hQ hP, zb_some, if_pos rfl, f4, zb_some]
    by_cases c1 : a 19 < aAge a k
    · rw [if_neg (show ¬ zI (aAge a k) ≤ q 19 by rw [hQ 19 (by omega)]; exact zle_n (zr_s (by omega)) (hI.1 19) c1)]
      exact j238 2 (by rw [if_pos c1]; rfl)
    · rw [if_pos (show zI (aAge a k) ≤ q 19 by rw [hQ 19 (by omega)]; exact zle_p (zr_s (by omega)) (hI.1 19) (by omega))]
      have e2 : q 19 / 2 = zI (a 19 / 2) := by rw [hQ 19 (by omega)]; exact zI_div (y := 2) (by omega) (by omega)
      by_cases c2 : aDue a k
      · rw [if_neg (show ¬ zI (aAge a k) < q 19 / 2 by rw [e2]; exact zlt_n (zr_s (by omega)) (zr_s (by omega)) c2)]
        exact j238 1 (by rw [if_neg c1, if_pos c2]; rfl)
      · rw [if_pos (show zI (aAge a k) < q 19 / 2 by rw [e2]; exact zlt_p (zr_s (by omega)) (zr_s (by omega)) (Int.not_le.mp c2))]
        exact j238 0 (by rw [if_neg c1, if_neg c2]; rfl)
  · unfold q_L_same_L67
    rw [if_pos (show (8 : Int32) ≤ zI (8 : Nat) from zle_p (x := 8) (zr_s (by omega)) (zr_s (by omega)) (by omega))]
theorem s_log {g : tJ4} (hU : UR u a) (hE : vE e a) (hg : jR g) : ∃ g', zl 1000000 (q_L_same_L385 e u (zI (aMany a))) (0, g) = some g' ∧ jR g' := by
  have hI := hU.1
  have hN := hI.2.1
  unfold aN at hN
  have hM : 0 ≤ aMany a ∧ aMany a ≤ 10 := by
    unfold aMany
    split <;> omega
  exact zl_rel (B := q_L_same_L385 e u (zI (aMany a))) (fun k x => x.1 = zI k ∧ jR x.2) (fun r => jR r) (aMany a).toNat (fun k x hk hx => by
    obtain ⟨x1, x2⟩ := x
    obtain ⟨h1, h2⟩ := hx
    dsimp only at h1 h2
    subst h1
    obtain ⟨g', r1, r2⟩ := j_entry (i := k) hU hE (by omega) h2
    unfold q_L_same_L385
    dsimp only
    rw [if_neg (show ¬ zI (aMany a) ≤ zI k from zle_n (zr_s (by omega)) (zr_s (by omega)) (by omega)), r1]
    exact ⟨_, rfl, rfl, r2⟩) (fun x hx => by
    obtain ⟨x1, x2⟩ := x
    obtain ⟨h1, h2⟩ := hx
    dsimp only at h1 h2
    subst h1
    unfold q_L_same_L385
    dsimp only
    rw [if_pos (show zI (aMany a) ≤ zI ((aMany a).toNat : Nat) from zle_p (zr_s (by omega)) (zr_s (by omega)) (by omega))]
    exact ⟨_, rfl, h2⟩) 1000000 0 (0, g) ⟨rfl, hg⟩ (by omega) (by omega)
theorem s_fore {g : tJ4} {x : Int32} (hU : UR u a) (hQ : vQ q a) (hT : vT t a) (hL : vL l a) (hP : vP p a) (hg : jR g) : ∃ d', q_L_same_J656 q t l p u x g = some (1, d', g) := by
  have hI := hU.1
  have h9 := hU.2.1
  have hN := hI.2.1
  unfold aN at hN
  obtain ⟨n, hn, m1⟩ := j_low x (n := 120) (by omega)
  obtain ⟨s, hs, m2⟩ := j_low (x >>> (4 &&& 31)) (n := 8) (by omega)
  obtain ⟨r, hr, m3⟩ := j_low (x >>> (8 &&& 31)) (n := 4) (by omega)
  unfold q_L_same_J656
  rw [show q_L_low x 120 = _ from m1, zb_some, show q_L_low (x >>> (4 &&& 31)) 8 = _ from m2, zb_some, show q_L_low (x >>> (8 &&& 31)) 4 = _ from m3, zb_some]
  by_cases c1 : r = 0
  · rw [if_pos (show zI (r : Nat) ≤ 0 from zle_p (y := 0) (zr_s (by omega)) (zr_s (by omega)) (by omega))]
    rw [show q_L_then q t l p (zI n) 0 (-1) = _ from j_over (w := 0) hI h9 (by omega) (by omega) hQ hT hL hP, zb_some, show q_L_then q t l p (zI n) 1 (-1) = _ from j_over (w := 1) hI h9 (by omega) (by omega) hQ hT hL hP, zb_some, show q_L_then q t l p (zI n) 2 (-1) = _ from j_over (w := 2) hI h9 (by omega) (by omega) hQ hT hL hP, zb_some]
    have b0 : 0 ≤ xW a n 0 ∧ xW a n 0 ≤ 8 := aOver_b _
    have b1 : 0 ≤ xW a n 1 ∧ xW a n 1 ≤ 8 := aOver_b _
    have b2 : 0 ≤ xW a n 2 ∧ xW a n 2 ≤ 8 := aOver_b _
    obtain ⟨B, hB⟩ : ∃ B : Int, B = (if (if xW a n 0 ≤ xW a n 1 then xW a n 0 else xW a n 1) ≤ xW a n 2 then (if xW a n 0 ≤ xW a n 1 then 0 else 1) else 2) := ⟨_, rfl⟩
    obtain ⟨d1, k1⟩ := k_ifQuiet (UR_line (t := u.2.1) (p := u.2.2.2.1) hU hg) (n := n) (by omega)
    obtain ⟨d2, k2⟩ := k_bestWay (UR_line (t := d1) (p := u.2.2.2.1) hU hg) (n := n) (by omega)
    rw [← hB] at k2
    have fin : ∃ d' : tX1, zb (q_X6_checkedIn (u.1, d2, u.2.2.1, u.2.2.2.1, g) (zI s)) (fun r812 => zb (q_L_then q t l p 3000 (q 4) (zI s)) fun r829 => if r812.1 = r829 then some ((1 : Int32), r812.2, g) else none) = some (1, d', g) := by
      obtain ⟨u1, u2⟩ := k_checkedIn (UR_line (t := d2) (p := u.2.2.2.1) hU hg) hs
      obtain ⟨w1, w2⟩ := j_in hI h9 hs hQ hT hL hP
      rw [hQ 4 (by omega)]
      rcases zfirst (cIn a s) 3000 with ⟨k, k1, k2, k3⟩ | hno
      · obtain ⟨d', e1⟩ := u1 k k1 k2 k3
        rw [e1, zb_some, w1 k k1 k2 k3, zb_some]
        dsimp only
        rw [if_pos rfl]
        exact ⟨_, rfl⟩
      · obtain ⟨d', e1⟩ := u2 hno
        rw [e1, zb_some, w2 hno, zb_some]
        dsimp only
        rw [if_pos rfl]
        exact ⟨_, rfl⟩
    have j795 : ∀ y : Int32, y = zI (xW a n (a 4)) → ∃ d', q_L_same_J795 q t l p u g (zI n) (zI s) (zI B) (zI (xW a n (a 4)), d1) y = some (1, d', g) := by
      intro y hy
      subst hy
      unfold q_L_same_J795
      dsimp only
      rw [if_pos rfl, k2, zb_some]
      dsimp only
      rw [if_pos rfl]
      exact fin
    have j762 : ∀ y : Int32, y = zI B → ∃ d', q_L_same_J762 q t l p u g (zI n) (zI s) (zI (xW a n 0)) (zI (xW a n 1)) (zI (xW a n 2)) y = some (1, d', g) := by
      intro y hy
      subst hy
      unfold q_L_same_J762
      rw [k1, zb_some]
      by_cases c2 : a 4 = 0
      · rw [if_pos (show q 4 = 0 by rw [hQ 4 (by omega), c2]; rfl)]
        exact j795 _ (by rw [c2])
      · rw [if_neg (show ¬ q 4 = 0 by rw [hQ 4 (by omega)]; exact zeq_n (y := 0) (hI.1 4) (zr_s (by omega)) c2)]
        by_cases c3 : a 4 = 1
        · rw [if_pos (show q 4 = 1 by rw [hQ 4 (by omega), c3]; rfl)]
          exact j795 _ (by rw [c3])
        · rw [if_neg (show ¬ q 4 = 1 by rw [hQ 4 (by omega)]; exact zeq_n (y := 1) (hI.1 4) (zr_s (by omega)) c3)]
          exact j795 _ (by rw [show a 4 = 2 by omega])
    have j750 : (if xW a n 0 ≤ xW a n 1 then xW a n 0 else xW a n 1) ≤ xW a n 2 → ∃ d', q_L_same_J750 q t l p u g (zI n) (zI s) (zI (xW a n 0)) (zI (xW a n 1)) (zI (xW a n 2)) = some (1, d', g) := by
      intro hm
      rw [if_pos hm] at hB
      unfold q_L_same_J750
      by_cases c2 : xW a n 0 ≤ xW a n 1
      · rw [if_pos (zle_p (zr_s (by omega)) (zr_s (by omega)) c2)]
        rw [if_pos c2] at hB
        exact j762 0 (by rw [hB]; rfl)
      · rw [if_neg (zle_n (zr_s (by omega)) (zr_s (by omega)) (by omega))]
        rw [if_neg c2] at hB
        exact j762 1 (by rw [hB]; rfl)
    by_cases c2 : xW a n 0 ≤ xW a n 2
    · rw [if_pos (zle_p (zr_s (by omega)) (zr_s (by omega)) c2)]
      exact j750 (by split <;> omega)
    · rw [if_neg (zle_n (zr_s (by omega)) (zr_s (by omega)) (by omega))]
      by_cases c3 : xW a n 1 ≤ xW a n 2
      · rw [if_pos (zle_p (zr_s (by omega)) (zr_s (by omega)) c3)]
        exact j750 (by split <;> omega)
      · rw [if_neg (zle_n (zr_s (by omega)) (zr_s (by omega)) (by omega))]
        refine j762 2 ?_
        rw [hB, if_neg (by split <;> omega)]
        rfl
  · rw [if_neg (show ¬ zI (r : Nat) ≤ 0 from zle_n (y := 0) (zr_s (by omega)) (zr_s (by omega)) (by omega))]
    exact ⟨_, rfl⟩
theorem j_same (x : Int32) (hU : UR u a) (hQ : vQ q a) (hT : vT t a) (hL : vL l a) (hP : vP p a) (hE : vE e a) : ∃ r, q_L_same q t l p e u x = some r ∧ r.1 = 1 ∧ UR (u.1, r.2.1, u.2.2.1, u.2.2.2.1, r.2.2) a := by
  have hI := hU.1
  have hN := hI.2.1
  unfold aN at hN
  have hj := hU.2.2.2.2
  obtain ⟨g', g1, g2⟩ := s_log hU hE hj
  obtain ⟨d', f1⟩ := s_fore (x := x) hU hQ hT hL hP g2
  refine ⟨(1, d', g'), ?_, rfl, UR_line hU g2⟩
  have j330 : q_L_same_J330 q t l p e u x (zI (aMany a)) = some (1, d', g') := by
    unfold q_L_same_J330
    rw [k_entries hU, zb_some, if_pos rfl, k_overdue hU, zb_some, j_late hI hQ hT, zb_some, if_pos rfl, k_nextCheck hU, zb_some, j_next hI hQ hT hL hP, zb_some, if_pos rfl, k_entry_no hU, zb_some]
    dsimp only
    rw [if_pos rfl, g1, zb_some]
    exact f1
  unfold q_L_same
  rw [s_counts hU hQ, zb_some]
  unfold q_L_same_J31
  rw [s_settings hU hQ, zb_some]
  unfold q_L_same_J64
  rw [s_spans hU hQ hT hL hP, zb_some]
  unfold q_L_same_J312
  by_cases c : 10 ≤ a 14
  · rw [if_pos (show 10 ≤ q 14 by rw [hQ 14 (by omega)]; exact zle_p (x := 10) (zr_s (by omega)) (hI.1 14) c)]
    have : aMany a = 10 := if_pos c
    rw [this] at j330
    exact j330
  · rw [if_neg (show ¬ 10 ≤ q 14 by rw [hQ 14 (by omega)]; exact zle_n (x := 10) (zr_s (by omega)) (hI.1 14) (by omega)), hQ 14 (by omega)]
    have : aMany a = a 14 := if_neg c
    rw [this] at j330
    exact j330
end PZ6
