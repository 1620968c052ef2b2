/-! class and model side by side: checkedIn, bestWay, undo -/
section PV
variable {u : tX6} {v : tX7} {x y : Int32} {a : Nat → Int}
/-- the first of the first n that has P, or none -/
theorem zfirst (P : Nat → Prop) (n : Nat) : (∃ k, k < n ∧ P k ∧ ∀ j, j < k → ¬ P j) ∨ ∀ j, j < n → ¬ P j := by
  induction n with
  | zero => exact Or.inr (fun j hj => by omega)
  | succ n ih =>
    rcases ih with ⟨k, k1, k2, k3⟩ | h
    · exact Or.inl ⟨k, by omega, k2, k3⟩
    · by_cases c : P n
      · exact Or.inl ⟨n, by omega, c, h⟩
      · refine Or.inr (fun j hj => ?_)
        by_cases c1 : j = n
        · rw [c1]; exact c
        · exact h j (by omega)
abbrev cIn (a : Nat → Int) (s : Int) (k : Nat) : Prop := (aTick (aTicks a k)).1 = s
theorem aTick_b {s : Int} (h : aI 0 a) (h0 : a 0 < 110000) : zr (aTick a).1 := by
  obtain ⟨h2, h3, h36⟩ := aMid h h0
  unfold aTick
  split
  · generalize (if (up a 0 (a 0 + 1)) 5 = -6 then aBegin (up a 0 (a 0 + 1)) else up a 0 (a 0 + 1)) = f at h2 h3 h36 ⊢
    have hNf := h2.2.1
    unfold aN at hNf
    unfold aTick2
    by_cases c1 : f 5 = -6
    · rw [if_pos c1]
      exact zr_s (by dsimp only; omega)
    · rw [if_neg c1]
      split
      · exact zr_s (by dsimp only; omega)
      · exact zr_s (by dsimp only; omega)
  · exact zr_s (by dsimp only; omega)
theorem aTicks_s (a : Nat → Int) (k : Nat) : (aTick (aTicks a k)).2 = aTicks a (k + 1) := rfl
theorem c_checkedIn {s : Int} {d : tX1} (h : aI 0 a) (h9 : a 0 ≤ 99999) (hd : dR d a) (hs : zr s) : (∀ k : Nat, k < 3000 → cIn a s k → (∀ j, j < k → ¬ cIn a s j) → ∃ d' : tX1, zl 1000000 (q_X6_checkedIn_L22 (zI s)) (1, d) = some (Sum.inr (zI ((k + 1 : Nat) : Int), d'))) ∧ ((∀ j, j < 3000 → ¬ cIn a s j) → ∃ d' : tX1, zl 1000000 (q_X6_checkedIn_L22 (zI s)) (1, d) = some (Sum.inl d')) := by
  have step : ∀ (j : Nat) (x : Int32 × tX1), j < 3000 → (x.1 = zI ((j + 1 : Nat) : Int) ∧ dR x.2 (aTicks a j)) → ∃ d' : tX1, q_X6_checkedIn_L22 (zI s) x = (if cIn a s j then some (Sum.inr (Sum.inr (zI ((j + 1 : Nat) : Int), d'))) else some (Sum.inl (zI ((j + 1 + 1 : Nat) : Int), d'))) ∧ dR d' (aTicks a (j + 1)) := by
    intro j x hj hx
    obtain ⟨x1, x2⟩ := x
    obtain ⟨w1, w2⟩ := hx
    dsimp only at w1 w2
    subst w1
    obtain ⟨i1, i2⟩ := aTicks_I h j (by omega)
    obtain ⟨d', v1, v2⟩ := c_passQuietTick i1 (by omega) w2
    refine ⟨d', ?_, v2⟩
    unfold q_X6_checkedIn_L22
    dsimp only
    rw [if_neg (show ¬ (3000 : Int32) < zI ((j + 1 : Nat) : Int) from zlt_n (x := 3000) (zr_s (by omega)) (zr_s (by omega)) (by omega)), v1, zb_some]
    dsimp only
    by_cases c : cIn a s j
    · rw [if_pos (show zI (aTick (aTicks a j)).1 = zI s by rw [show (aTick (aTicks a j)).1 = s from c]), if_pos c]
    · rw [if_neg (zeq_n (aTick_b (s := s) i1 (by omega)) hs c), if_neg c, zI_1]
  constructor
  · intro k hk hc hno
    obtain ⟨b, hb, d', hq⟩ := zl_rel (B := q_X6_checkedIn_L22 (zI s)) (fun j x => x.1 = zI ((j + 1 : Nat) : Int) ∧ dR x.2 (aTicks a j)) (fun b => ∃ d' : tX1, b = Sum.inr (zI ((k + 1 : Nat) : Int), d')) k (fun j x hj hx => by
      obtain ⟨d', e1, e2⟩ := step j x (by omega) hx
      rw [e1, if_neg (hno j hj)]
      exact ⟨_, rfl, rfl, e2⟩) (fun x hx => by
      obtain ⟨d', e1, e2⟩ := step k x hk hx
      rw [e1, if_pos hc]
      exact ⟨_, rfl, d', rfl⟩) 1000000 0 (1, d) ⟨rfl, hd⟩ (by omega) (by omega)
    exact ⟨d', by rw [hb, hq]⟩
  · intro hno
    obtain ⟨b, hb, d', hq⟩ := zl_rel (B := q_X6_checkedIn_L22 (zI s)) (fun j x => x.1 = zI ((j + 1 : Nat) : Int) ∧ dR x.2 (aTicks a j)) (fun b => ∃ d' : tX1, b = Sum.inl d') 3000 (fun j x hj hx => by
      obtain ⟨d', e1, e2⟩ := step j x (by omega) hx
      rw [e1, if_neg (hno j hj)]
      exact ⟨_, rfl, rfl, e2⟩) (fun x hx => by
      obtain ⟨x1, x2⟩ := x
      obtain ⟨w1, w2⟩ := hx
      dsimp only at w1 w2
      subst w1
      unfold q_X6_checkedIn_L22
      dsimp only
      rw [if_pos (show (3000 : Int32) < zI ((3000 + 1 : Nat) : Int) from zlt_p (x := 3000) (zr_s (by omega)) (zr_s (by omega)) (by omega))]
      exact ⟨_, rfl, x2, rfl⟩) 1000000 0 (1, d) ⟨rfl, hd⟩ (by omega) (by omega)
    exact ⟨d', by rw [hb, hq]⟩
theorem m_checkedL {s : Int} {kept : Nat → Int32} {v : tX7} (h : aI 0 a) (h9 : a 0 ≤ 99999) (hs : zr s) : (∀ k : Nat, k < 3000 → cIn a s k → (∀ j, j < k → ¬ cIn a s j) → ∃ w : Nat → Int32, zl 1000000 (q_X7_checkedIn_L27 v (zI s) kept) (-6, 1, zM a) = some (zI ((k + 1 : Nat) : Int), w)) ∧ ((∀ j, j < 3000 → ¬ cIn a s j) → ∃ w : Nat → Int32, zl 1000000 (q_X7_checkedIn_L27 v (zI s) kept) (-6, 1, zM a) = some (-6, w)) := by
  have step : ∀ j : Nat, j < 3000 → q_X7_checkedIn_L27 v (zI s) kept (zI (-6), zI ((j + 1 : Nat) : Int), zM (aTicks a j)) = some (Sum.inl ((if cIn a s j then zI ((j + 1 : Nat) : Int) else zI (-6)), zI ((j + 1 + 1 : Nat) : Int), zM (aTicks a (j + 1)))) := by
    intro j hj
    obtain ⟨i1, i2⟩ := aTicks_I h j (by omega)
    unfold q_X7_checkedIn_L27
    dsimp only
    rw [if_neg (show ¬ (3000 : Int32) < zI ((j + 1 : Nat) : Int) from zlt_n (x := 3000) (zr_s (by omega)) (zr_s (by omega)) (by omega)), if_pos (show zI (-6) = -6 from z6.symm), show q_X7_passesTick (zM (aTicks a j), _) = _ from m_passesTick i1 (by omega), zb_some, zI_1]
    dsimp only
    by_cases c : cIn a s j
    · rw [if_pos (show zI (aTick (aTicks a j)).1 = zI s by rw [show (aTick (aTicks a j)).1 = s from c]), if_pos c]
      rfl
    · rw [if_neg (zeq_n (aTick_b (s := s) i1 (by omega)) hs c), if_neg c, z6]
      rfl
  constructor
  · intro k hk hc hno
    refine ⟨zM (aTicks a (k + 1)), ?_⟩
    refine zl_run (fun j => ((if j = k + 1 then zI ((k + 1 : Nat) : Int) else zI (-6)), zI ((j + 1 : Nat) : Int), zM (aTicks a j))) (a := (((-6 : Int32)), (1 : Int32), zM a)) (k + 1) ?_ (by omega) ?_ ?_
    · rw [if_neg (by omega), z6]
      rfl
    · intro j hj
      rw [if_neg (show ¬ j = k + 1 by omega), step j (by omega)]
      by_cases c : j = k
      · subst c
        rw [if_pos hc, if_pos rfl]
      · rw [if_neg (hno j (by omega)), if_neg (show ¬ j + 1 = k + 1 by omega)]
    · rw [if_pos rfl]
      unfold q_X7_checkedIn_L27
      dsimp only
      rw [if_neg (show ¬ zI ((k + 1 : Nat) : Int) = -6 by rw [z6]; exact zeq_n (zr_s (by omega)) (zr_s (by omega)) (by omega))]
      split <;> rfl
  · intro hno
    refine ⟨zM (aTicks a 3000), ?_⟩
    refine zl_run (fun j => (zI (-6), zI ((j + 1 : Nat) : Int), zM (aTicks a j))) (a := (((-6 : Int32)), (1 : Int32), zM a)) 3000 ?_ (by omega) ?_ ?_
    · rw [z6]
      rfl
    · intro j hj
      rw [step j hj, if_neg (hno j hj)]
    · unfold q_X7_checkedIn_L27
      dsimp only
      rw [if_pos (show (3000 : Int32) < zI ((3000 + 1 : Nat) : Int) from zlt_p (x := 3000) (zr_s (by omega)) (zr_s (by omega)) (by omega)), z6]
theorem t_18 (h : TR u v) : ∃ o, qL_18 x y u v = some o ∧ TR o.1 o.2 := by
  obtain ⟨a, hI, h9, hv, hd, hh, ht, hj⟩ := id h
  obtain ⟨st, kept, r⟩ := v
  dsimp only at hv hh ht
  subst hv
  have hN := hI.2.1
  unfold aN at hN
  obtain ⟨p, hp, rfl⟩ := zI_ex x
  unfold qL_18 q_X6_checkedIn q_X7_checkedIn
  rw [c_isSpan hp, zb_some, m_isSpan hp, zb_some]
  by_cases c1 : 0 ≤ p ∧ p ≤ 7
  · obtain ⟨d1, hc, hd1⟩ := c_copyFrom (d := u.2.1) (by omega) (by omega) hd
    rw [if_pos c1, if_neg (show ¬ (1 : Int32) = 0 by decide), if_neg (show ¬ (1 : Int32) = 0 by decide), hc, zb_some]
    dsimp only
    rw [show q_X7_copies 104 104 (zM a) kept 0 0 = _ from m_copies (p1 := 0) (p3 := 0) (zM a) kept (by omega) (by omega) (by omega) (by omega), zb_some]
    have fin : ∀ (z : Int32) (w : Nat → Int32) (d' : tX1), ∃ st' kept' : Nat → Int32, q_X7_checkedIn_J61 (fun i => if 0 ≤ i ∧ i < 0 + 104 then zM a (0 + (i - 0)) else kept i) z w = some (z, st', kept') ∧ ∀ i, i < 104 → st' i = zM a i := by
      intro z w d'
      refine ⟨fun i => if 0 ≤ i ∧ i < 0 + 104 then (fun i => if 0 ≤ i ∧ i < 0 + 104 then zM a (0 + (i - 0)) else kept i) (0 + (i - 0)) else w i, fun i => if 0 ≤ i ∧ i < 0 + 104 then zM a (0 + (i - 0)) else kept i, ?_, ?_⟩
      · unfold q_X7_checkedIn_J61
        rw [show q_X7_copies 104 104 _ w 0 0 = _ from m_copies (p1 := 0) (p3 := 0) _ w (by omega) (by omega) (by omega) (by omega), zb_some]
      · intro i hi
        dsimp only
        rw [if_pos (by omega), if_pos (by omega), show 0 + (0 + (i - 0) - 0) = i by omega]
    rcases zfirst (cIn a p) 3000 with ⟨k, k1, k2, k3⟩ | hno
    · obtain ⟨d', w1⟩ := (c_checkedIn hI h9 hd1 hp).1 k k1 k2 k3
      obtain ⟨w, w2⟩ := (m_checkedL (kept := fun i => if 0 ≤ i ∧ i < 0 + 104 then zM a (0 + (i - 0)) else kept i) (v := (zM a, kept, r)) hI h9 hp).1 k k1 k2 k3
      obtain ⟨st', kept', w3, w4⟩ := fin (zI ((k + 1 : Nat) : Int)) w d'
      obtain ⟨b, hb, be, bz⟩ := row_ex hI w4
      rw [w1, zb_some, w2, zb_some]
      unfold zm
      dsimp only
      rw [zb_some, w3, zb_some]
      dsimp only
      rw [if_pos rfl]
      exact ⟨_, rfl, b, aI_row hI bz be, by rw [be 0 (by omega)]; exact h9, hb, dR_row hI hd be, hh, ht, hj⟩
    · obtain ⟨d', w1⟩ := (c_checkedIn hI h9 hd1 hp).2 hno
      obtain ⟨w, w2⟩ := (m_checkedL (kept := fun i => if 0 ≤ i ∧ i < 0 + 104 then zM a (0 + (i - 0)) else kept i) (v := (zM a, kept, r)) hI h9 hp).2 hno
      obtain ⟨st', kept', w3, w4⟩ := fin (-6) w d'
      obtain ⟨b, hb, be, bz⟩ := row_ex hI w4
      rw [w1, zb_some, w2, zb_some]
      unfold zm
      dsimp only
      rw [zb_some, w3, zb_some]
      dsimp only
      rw [if_pos rfl]
      exact ⟨_, rfl, b, aI_row hI bz be, by rw [be 0 (by omega)]; exact h9, hb, dR_row hI hd be, hh, ht, hj⟩
  · rw [if_neg c1, if_pos rfl, if_pos rfl, zb_some, zb_some]
    dsimp only
    rw [if_pos rfl]
    exact ⟨_, rfl, a, hI, h9, rfl, hd, hh, ht, hj⟩
theorem zl_in {α β : Type} {B : α → Option (α ⊕ β)} {x y : α} {n : Nat} (h : B x = some (.inl y)) : zl (n + 1) B x = zl n B y := by
  show zb (B x) (zk (zl n B)) = _
  rw [h]
  rfl
theorem zl_out {α β : Type} {B : α → Option (α ⊕ β)} {x : α} {b : β} {n : Nat} (h : B x = some (.inr b)) : zl (n + 1) B x = some b := by
  show zb (B x) (zk (zl n B)) = _
  rw [h]
  rfl
theorem t_20 (h : TR u v) : ∃ o, qL_20 x y u v = some o ∧ TR o.1 o.2 := by
  obtain ⟨a, hI, h9, hv, hd, hh, ht, hj⟩ := id h
  obtain ⟨st, kept, r⟩ := v
  dsimp only at hv hh ht
  subst hv
  have hN := hI.2.1
  unfold aN at hN
  obtain ⟨p, hp, rfl⟩ := zI_ex x
  have e1 : (zI p < 0) ↔ p < 0 := zI_lt (y := 0) hp (zr_s (by omega))
  have e2 : (zI p ≤ 3000) ↔ p ≤ 3000 := zI_le (y := 3000) hp (zr_s (by omega))
  unfold qL_20 q_X6_bestWay q_X7_bestWay
  rw [show q_X7_within (zI p) 0 3000 = _ from m_within hp (l := 0) (h := 3000) (zr_s (by omega)) (zr_s (by omega)), zb_some]
  by_cases c1 : 0 ≤ p ∧ p ≤ 3000
  · obtain ⟨n, rfl⟩ : ∃ n : Nat, p = n := ⟨p.toNat, by omega⟩
    obtain ⟨st1, kept1, m1, m1e⟩ := m_over (w := 0) (n := n) (kept := kept) (r := r) hI h9 (by omega) (by omega)
    obtain ⟨b1, hb1, be1, bz1⟩ := row_ex hI m1e
    have hI1 := aI_row hI bz1 be1
    have h91 : b1 0 ≤ 99999 := by rw [be1 0 (by omega)]; exact h9
    have hd1 := dR_row hI hd be1
    obtain ⟨st2, kept2, m2, m2e⟩ := m_over (w := 1) (n := n) (kept := kept1) (r := r) hI1 h91 (by omega) (by omega)
    obtain ⟨b2, hb2, be2, bz2⟩ := row_ex hI1 m2e
    have hI2 := aI_row hI1 bz2 be2
    have h92 : b2 0 ≤ 99999 := by rw [be2 0 (by omega)]; exact h91
    have hd2 := dR_row hI1 hd1 be2
    obtain ⟨st3, kept3, m3, m3e⟩ := m_over (w := 2) (n := n) (kept := kept2) (r := r) hI2 h92 (by omega) (by omega)
    obtain ⟨b3, hb3, be3, bz3⟩ := row_ex hI2 m3e
    have hI3 := aI_row hI2 bz3 be3
    have h93 : b3 0 ≤ 99999 := by rw [be3 0 (by omega)]; exact h92
    have hd3 := dR_row hI2 hd2 be3
    subst hb1 hb2
    obtain ⟨d1, k1⟩ := c_over (u := u) (w := 0) (n := n) hI h9 hd (by omega) (by omega)
    obtain ⟨d2, k2⟩ := c_over (u := (u.1, d1, u.2.2.1, u.2.2.2.1, u.2.2.2.2)) (w := 1) (n := n) hI1 h91 hd1 (by omega) (by omega)
    obtain ⟨d3, k3⟩ := c_over (u := (u.1, d2, u.2.2.1, u.2.2.2.1, u.2.2.2.2)) (w := 2) (n := n) hI2 h92 hd2 (by omega) (by omega)
    generalize zI (aOver (aTicks (up a 4 0) n)) = x0 at m1 k1
    generalize zI (aOver (aTicks (up b1 4 1) n)) = x1 at m2 k2
    generalize zI (aOver (aTicks (up b2 4 2) n)) = x2 at m3 k3
    -- one step of each loop
    have cs1 : ∀ (g f : Int32), q_X6_bestWay_L26 u (zI (n : Nat)) (g, f, 1, d1) = some (Sum.inl ((if f ≤ x1 then g else 1), (if f ≤ x1 then f else x1), 2, d2)) := by
      intro g f
      unfold q_X6_bestWay_L26
      dsimp only
      rw [if_neg (show ¬ (3 : Int32) ≤ 1 by decide), show q_X6_overdueAfter (u.1, d1, u.2.2.1, u.2.2.2.1, u.2.2.2.2) (zI (n : Nat)) 1 = _ from k2, zb_some]
      dsimp only
      split
      · rfl
      · rfl
    have cs2 : ∀ (g f : Int32), q_X6_bestWay_L26 u (zI (n : Nat)) (g, f, 2, d2) = some (Sum.inl ((if f ≤ x2 then g else 2), (if f ≤ x2 then f else x2), 3, d3)) := by
      intro g f
      unfold q_X6_bestWay_L26
      dsimp only
      rw [if_neg (show ¬ (3 : Int32) ≤ 2 by decide), show q_X6_overdueAfter (u.1, d2, u.2.2.1, u.2.2.2.1, u.2.2.2.2) (zI (n : Nat)) 2 = _ from k3, zb_some]
      dsimp only
      split
      · rfl
      · rfl
    have cs3 : ∀ (g f : Int32), q_X6_bestWay_L26 u (zI (n : Nat)) (g, f, 3, d3) = some (Sum.inr (g, d3)) := by
      intro g f
      unfold q_X6_bestWay_L26
      dsimp only
      rw [if_pos (show (3 : Int32) ≤ 3 by decide)]
    have ms1 : ∀ (g f : Int32), q_X7_bestWay_L26 (zM a, kept, r) (zI (n : Nat)) (g, f, 1, zM b1, kept1) = some (Sum.inl ((if f ≤ x1 then g else 1), (if f ≤ x1 then f else x1), 2, zM b2, kept2)) := by
      intro g f
      unfold q_X7_bestWay_L26
      dsimp only
      rw [if_neg (show ¬ (2 : Int32) < 1 by decide), show q_X7_overdueIn (zM b1, kept1, _) (zI (n : Nat)) 1 = _ from m2, zb_some]
      unfold q_X7_bestWay_J53
      dsimp only
      split
      · rfl
      · rfl
    have ms2 : ∀ (g f : Int32), q_X7_bestWay_L26 (zM a, kept, r) (zI (n : Nat)) (g, f, 2, zM b2, kept2) = some (Sum.inl ((if f ≤ x2 then g else 2), (if f ≤ x2 then f else x2), 3, st3, kept3)) := by
      intro g f
      unfold q_X7_bestWay_L26
      dsimp only
      rw [if_neg (show ¬ (2 : Int32) < 2 by decide), show q_X7_overdueIn (zM b2, kept2, _) (zI (n : Nat)) 2 = _ from m3, zb_some]
      unfold q_X7_bestWay_J53
      dsimp only
      split
      · rfl
      · rfl
    have ms3 : ∀ (g f : Int32), q_X7_bestWay_L26 (zM a, kept, r) (zI (n : Nat)) (g, f, 3, st3, kept3) = some (Sum.inr (g, st3, kept3)) := by
      intro g f
      unfold q_X7_bestWay_L26
      dsimp only
      rw [if_pos (show (2 : Int32) < 3 by decide)]
    have cl : zl 1000000 (q_X6_bestWay_L26 u (zI (n : Nat))) (0, x0, 1, d1) = some ((if (if x0 ≤ x1 then x0 else x1) ≤ x2 then (if x0 ≤ x1 then (0 : Int32) else 1) else 2), d3) :=
      (zl_in (n := 999999) (cs1 _ _)).trans ((zl_in (n := 999998) (cs2 _ _)).trans (zl_out (n := 999997) (cs3 _ _)))
    have ml : zl 1000000 (q_X7_bestWay_L26 (zM a, kept, r) (zI (n : Nat))) (0, x0, 1, zM b1, kept1) = some ((if (if x0 ≤ x1 then x0 else x1) ≤ x2 then (if x0 ≤ x1 then (0 : Int32) else 1) else 2), st3, kept3) :=
      (zl_in (n := 999999) (ms1 _ _)).trans ((zl_in (n := 999998) (ms2 _ _)).trans (zl_out (n := 999997) (ms3 _ _)))
    rw [if_neg (by rw [e1]; omega), if_pos (by rw [e2]; omega), show q_X6_overdueAfter u (zI (n : Nat)) 0 = _ from k1, zb_some]
    dsimp only
    rw [cl, zb_some, zb_some, if_pos c1, if_neg (by decide), show q_X7_overdueIn (zM a, kept, r) (zI (n : Nat)) 0 = _ from m1, zb_some]
    dsimp only
    rw [ml, zb_some, zb_some]
    dsimp only
    rw [if_pos rfl]
    exact ⟨_, rfl, b3, hI3, h93, hb3, hd3, hh, ht, hj⟩
  · have hq : (if zI p < 0 then some ((-2 : Int32), u.2.1) else (if zI p ≤ 3000 then zb (q_X6_overdueAfter u (zI p) 0) fun r19 => zb (zl 1000000 (q_X6_bestWay_L26 u (zI p)) (0, r19.1, 1, r19.2)) (fun b26 => some (b26.1, b26.2)) else some ((-2), u.2.1))) = some ((-2 : Int32), u.2.1) := by
      by_cases c3 : p < 0
      · rw [if_pos (by rw [e1]; exact c3)]
      · rw [if_neg (by rw [e1]; exact c3), if_neg (by rw [e2]; omega)]
    rw [hq, zb_some, if_neg c1, if_pos rfl, zb_some]
    dsimp only
    rw [if_pos rfl]
    exact ⟨_, rfl, a, hI, h9, rfl, hd, hh, ht, hj⟩
theorem t_25 (h : TR u v) : ∃ o, qL_25 x y u v = some o ∧ TR o.1 o.2 := by
  obtain ⟨a, hI, h9, hv, hd, ⟨n, hn, hrec, hsz, hrows⟩, ht, hj⟩ := id h
  obtain ⟨st, kept, hs, rec, r⟩ := v
  dsimp only at hv hrec hrows ht
  subst hv hrec
  unfold qL_25 q_X6_undo q_X7_undo q_X2_restore
  rw [hsz]
  by_cases c1 : n = 0
  · subst c1
    rw [if_pos (show zI ((0 : Nat) : Int) = 0 from rfl), zb_some, zb_some]
    dsimp only
    rw [if_pos (show zI ((0 : Nat) : Int) = 0 from rfl), zb_some]
    dsimp only
    rw [if_pos rfl]
    exact ⟨_, rfl, a, hI, h9, rfl, hd, ⟨0, by omega, rfl, hsz.symm ▸ rfl, fun i hi => by omega⟩, ht, hj⟩
  · obtain ⟨m, rfl⟩ : ∃ m, n = m + 1 := ⟨n - 1, by omega⟩
    obtain ⟨b, b1, b2, b3, b4⟩ := hrows m (by omega)
    have hN := b1.2.1
    unfold aN at hN
    obtain ⟨d', hc, hd'⟩ := c_copyFrom (d := u.1) (by omega) (by omega) b3
    have e : zI ((m + 1 : Nat) : Int) - 1 = zI (m : Nat) := by
      rw [show (1 : Int32) = zI 1 from rfl, zI_sub]
      congr 1
      omega
    have ec : (zI (m : Nat)).toNatClampNeg = m := by rw [zI_clamp (zr_s (by omega))]; rfl
    have hnz : ¬ zI ((m + 1 : Nat) : Int) = 0 := zeq_n (y := 0) (zr_s (by omega)) (zr_s (by omega)) (by omega)
    rw [if_neg hnz, e, if_neg (show ¬ zI (m : Nat) < 0 from zlt_n (y := 0) (zr_s (by omega)) (zr_s (by omega)) (by omega)), ec, if_neg (by omega), hc, zb_some, zb_some, zb_some]
    dsimp only
    rw [if_neg hnz]
    unfold zn
    dsimp only
    rw [show zI (m : Nat) * 104 = zI ((104 * m : Nat) : Int) by rw [show (104 : Int32) = zI 104 from rfl, zI_mul]; congr 1; omega, show q_X7_copies 624 104 hs (zM a) (zI ((104 * m : Nat) : Int)) 0 = _ from m_copies (p3 := 0) hs (zM a) (by omega) (by omega) (by omega) (by omega), zb_some, zb_some]
    dsimp only
    rw [if_pos rfl]
    have hst : ∀ i, i < 104 → (fun i => if 0 ≤ i ∧ i < 0 + 104 then hs (104 * m + (i - 0)) else zM a i) i = zM b i := by
      intro i hi
      dsimp only
      rw [if_pos (by omega), Nat.sub_zero, b4 i hi, zM_at]
    obtain ⟨b', hb', be, bz⟩ := row_ex b1 hst
    exact ⟨_, rfl, b', aI_row b1 bz be, by rw [be 0 (by omega)]; exact b2, hb', dR_row b1 hd' be, ⟨m, by omega, rfl, rfl, fun i hi => hrows i (by omega)⟩, ht, hj⟩
end PV
