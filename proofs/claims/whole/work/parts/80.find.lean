/-! class and model side by side: syntaxError -/
section PZ
variable {u : tX6} {v : tX7} {p : tX4} {x y : Int32} {T : Nat → Int} {m : Nat} {F : Nat → Int32 × Nat × Int × Int × Int}
def stF (F : Nat → Int32 × Nat × Int × Int × Int) : Nat → Nat
  | 0 => 0
  | k + 1 => (F (stF F k)).2.1 + 1
abbrev goP (F : Nat → Int32 × Nat × Int × Int × Int) (T : Nat → Int) (m k : Nat) : Prop := (F (stF F k)).1 = 1 ∧ isC T m (F (stF F k)).2.1 59
def feZ (F : Nat → Int32 × Nat × Int × Int × Int) (m N : Nat) : Int := if (F (stF F N)).1 = 1 ∧ (F (stF F N)).2.1 = m then -6 else ((F (stF F N)).2.1 : Int)
def kst (F : Nat → Int32 × Nat × Int × Int × Int) (p : tX4) (j : Nat) : Prop := p.2.2.2.1 j = zI (F (stF F j)).2.2.1 ∧ p.2.2.2.2.1 j = zI (F (stF F j)).2.2.2.1 ∧ ((F (stF F j)).2.2.1 = 1 ∨ (F (stF F j)).2.2.1 = 4 → p.2.2.2.2.2.1 j = zI (F (stF F j)).2.2.2.2)
theorem st_b (hF : ∀ q, q ≤ m → cmA T m q (F q)) {k : Nat} (h : ∀ j, j < k → goP F T m j) : stF F k ≤ m ∧ 6 * k ≤ stF F k := by
  induction k with
  | zero => exact ⟨Nat.zero_le _, Nat.le_refl _⟩
  | succ k ih =>
    obtain ⟨h1, h2⟩ := ih (fun j hj => h j (by omega))
    obtain ⟨h3, h4⟩ := h k (by omega)
    have h5 := (hF _ h1).2.2.2.2 h3
    have h6 := h4.1
    have h7 := h5.1
    show (F (stF F k)).2.1 + 1 ≤ m ∧ 6 * (k + 1) ≤ (F (stF F k)).2.1 + 1
    omega
theorem st_ex (hm : m ≤ 80) (hF : ∀ q, q ≤ m → cmA T m q (F q)) : ∃ N, N < 14 ∧ ¬ goP F T m N ∧ ∀ j, j < N → goP F T m j := by
  rcases zfirst (fun k => ¬ goP F T m k) 14 with ⟨N, h1, h2, h3⟩ | h
  · exact ⟨N, h1, h2, fun j hj => Classical.not_not.mp (h3 j hj)⟩
  · have := st_b hF (k := 14) (fun j hj => Classical.not_not.mp (h j hj))
    omega
def plP (F : Nat → Int32 × Nat × Int × Int × Int) (P1 : Nat → Int32) (m k : Nat) (p : tX4) : Prop := p.1 = P1 ∧ p.2.1 = zI m ∧ p.2.2.1 = zI (stF F k : Nat) ∧ p.2.2.2.2.2.2.1 = zI k ∧ ∀ j, j < k → kst F p j
theorem c_feStep {P1 : Nat → Int32} {k : Nat} (hx : xT P1 T m) (hF : ∀ q, q ≤ m → cmA T m q (F q)) (hk : k < 16) (hs : stF F k ≤ m) (hp : plP F P1 m k p) (h1 : (F (stF F k)).1 = 1) : ∃ p' : tX4, q_X4_takeCommand p p.2.2.2.2.2.2.1 = some (1, p') ∧ p'.1 = P1 ∧ p'.2.1 = zI m ∧ p'.2.2.1 = zI ((F (stF F k)).2.1 : Nat) ∧ p'.2.2.2.2.2.2.1 = zI k ∧ ∀ j, j < k + 1 → kst F p' j := by
  obtain ⟨e1, e2, e3, e4, e5⟩ := hp
  obtain ⟨p', w1, w2, w3, w4, w5, w6, w7⟩ := (hF _ hs).1 p k (by rw [e1]; exact hx) e2 e3 hk
  rw [h1] at w1
  refine ⟨p', by rw [e4]; exact w1, w2.trans e1, w3.trans e2, w4, w5.trans e4, fun j hj => ?_⟩
  by_cases c : j = k
  · rw [c]
    exact w7 h1
  · obtain ⟨v1, v2, v3⟩ := w6 j c
    have := e5 j (by omega)
    unfold kst at this ⊢
    rw [v1, v2, v3]
    exact this
theorem c_findError {P1 : Nat → Int32} {N : Nat} (hx : xT P1 T m) (hF : ∀ q, q ≤ m → cmA T m q (F q)) (hN : N < 14) (hn : ¬ goP F T m N) (hj : ∀ j, j < N → goP F T m j) (h1 : p.1 = P1) (h2 : p.2.1 = zI m) : ∃ p' : tX4, q_X4_findError p = some (zI (feZ F m N), p') ∧ p'.1 = P1 ∧ p'.2.1 = zI m ∧ (feZ F m N = -6 → p'.2.2.2.2.2.2.1 = zI ((N + 1 : Nat) : Int) ∧ ∀ j, j < N + 1 → kst F p' j) := by
  have hm := hx.1
  have hst : ∀ k, k ≤ N → stF F k ≤ m ∧ 6 * k ≤ stF F k := fun k hk => st_b hF (fun j h => hj j (by omega))
  have e := zl_rel (B := q_X4_findError_L10) (fun k p => plP F P1 m k p) (fun b => ∃ p' : tX4, zm (fun e10_0 : tX4 => some (e10_0.2.2.1, e10_0)) (zm (fun e10_1 : tX4 => some (e10_1.2.2.1, e10_1)) (zm (fun e10_2 : tX4 => some ((-6 : Int32), e10_2)) (fun e10_3 : tX4 => some (e10_3.2.2.1, e10_3)))) b = some (zI (feZ F m N), p') ∧ p'.1 = P1 ∧ p'.2.1 = zI m ∧ (feZ F m N = -6 → p'.2.2.2.2.2.2.1 = zI ((N + 1 : Nat) : Int) ∧ ∀ j, j < N + 1 → kst F p' j)) N (fun k p hk hp => by
      obtain ⟨hs, -⟩ := hst k (by omega)
      obtain ⟨g1, g2⟩ := hj k hk
      obtain ⟨p', w1, w2, w3, w4, w5, w6⟩ := c_feStep hx hF (by omega) hs hp g1
      have hne : ¬ p'.2.2.1 = p'.2.1 := by
        rw [w3, w4]
        exact zeq_n (zr_s (by have := g2.1; omega)) (zr_s (by omega)) (by have := g2.1; omega)
      unfold q_X4_findError_L10 zn
      rw [hp.2.2.2.1, if_neg (show ¬ (16 : Int32) ≤ zI k from zle_n (x := 16) (zr_s (by omega)) (zr_s (by omega)) (by omega)), ← hp.2.2.2.1, w1, zb_some]
      dsimp only
      rw [if_neg z10, if_neg hne, show q_X4_takeSign (p'.1, p'.2.1, p'.2.2.1, p'.2.2.2.1, p'.2.2.2.2.1, p'.2.2.2.2.2.1, p'.2.2.2.2.2.2.1 + 1, p'.2.2.2.2.2.2.2) 59 = _ from c_sgY (c := 59) (by rw [w2]; exact hx) w3 w4 g2, zb_some]
      dsimp only
      rw [if_neg z10]
      refine ⟨_, rfl, w2, w3, rfl, ?_, fun j hj => w6 j hj⟩
      dsimp only
      rw [w5, zI_1]) (fun p hp => by
      obtain ⟨hs, -⟩ := hst N (by omega)
      have hB := (hF _ hs).2.2
      unfold q_X4_findError_L10 zn
      rw [hp.2.2.2.1, if_neg (show ¬ (16 : Int32) ≤ zI N from zle_n (x := 16) (zr_s (by omega)) (zr_s (by omega)) (by omega)), ← hp.2.2.2.1]
      rcases hB.1 with c0 | c0
      · obtain ⟨e1, e2, e3, e4, e5⟩ := hp
        obtain ⟨p', w1, w2, w3, w4, w5, w6, w7⟩ := (hF _ hs).1 p N (by rw [e1]; exact hx) e2 e3 (by omega)
        have hz : feZ F m N = ((F (stF F N)).2.1 : Int) := if_neg (fun h => by rw [c0] at h; exact z01 h.1)
        rw [c0] at w1
        rw [e4, w1, zb_some]
        dsimp only
        rw [if_pos rfl]
        refine ⟨_, rfl, p', ?_, w2.trans e1, w3.trans e2, fun h => by omega⟩
        rw [hz]
        show some (p'.2.2.1, p') = _
        rw [w4]
      · obtain ⟨p', w1, w2, w3, w4, w5, w6⟩ := c_feStep hx hF (by omega) hs hp c0
        rw [w1, zb_some]
        dsimp only
        rw [if_neg z10]
        by_cases c1 : (F (stF F N)).2.1 = m
        · have hz : feZ F m N = -6 := if_pos ⟨c0, c1⟩
          rw [if_pos (show p'.2.2.1 = p'.2.1 by rw [w3, w4, c1])]
          refine ⟨_, rfl, (p'.1, p'.2.1, p'.2.2.1, p'.2.2.2.1, p'.2.2.2.2.1, p'.2.2.2.2.2.1, p'.2.2.2.2.2.2.1 + 1, p'.2.2.2.2.2.2.2), ?_, w2, w3, fun _ => ⟨?_, fun j hj => w6 j hj⟩⟩
          · rw [hz, ← z6]
            rfl
          · dsimp only
            rw [w5, zI_1]
        · have hle := hB.2.1
          have hz : feZ F m N = ((F (stF F N)).2.1 : Int) := if_neg (fun h => c1 h.2)
          have hne : ¬ p'.2.2.1 = p'.2.1 := by
            rw [w3, w4]
            exact zeq_n (zr_s (by omega)) (zr_s (by omega)) (by omega)
          rw [if_neg hne, show q_X4_takeSign (p'.1, p'.2.1, p'.2.2.1, p'.2.2.2.1, p'.2.2.2.2.1, p'.2.2.2.2.2.1, p'.2.2.2.2.2.2.1 + 1, p'.2.2.2.2.2.2.2) 59 = _ from c_sgN (c := 59) (by rw [w2]; exact hx) w3 w4 hle (by omega) (fun h => hn ⟨c0, h⟩), zb_some]
          dsimp only
          rw [if_pos rfl]
          refine ⟨_, rfl, (p'.1, p'.2.1, zI ((F (stF F N)).2.1 : Nat), p'.2.2.2.1, p'.2.2.2.2.1, p'.2.2.2.2.2.1, p'.2.2.2.2.2.2.1 + 1, p'.2.2.2.2.2.2.2), ?_, w2, w3, fun h => by omega⟩
          · rw [hz]
            rfl) 1000000 0 (p.1, p.2.1, 0, p.2.2.2.1, p.2.2.2.2.1, p.2.2.2.2.2.1, 0, p.2.2.2.2.2.2.2) ⟨h1, h2, rfl, rfl, fun j hj => absurd hj (Nat.not_lt_zero j)⟩ (by omega) (by omega)
  obtain ⟨b, hb, p', hq⟩ := e
  refine ⟨p', ?_, hq.2⟩
  unfold q_X4_findError
  rw [hb, zb_some]
  exact hq.1
theorem m_findError {N : Nat} (hx : xT v.2.2.2.2.1 T m) (hl : v.2.2.2.2.2.1 = zI m) (hF : ∀ q, q ≤ m → cmA T m q (F q)) (hN : N < 14) (hn : ¬ goP F T m N) (hj : ∀ j, j < N → goP F T m j) : ∃ s : Int32 × Int32 × Int32 × Int32 × Int32, q_X7_findError v = some (zI (feZ F m N), s) := by
  have hm := hx.1
  have hst : ∀ k, k ≤ N → stF F k ≤ m ∧ 6 * k ≤ stF F k := fun k hk => st_b hF (fun j h => hj j (by omega))
  have e := zl_rel (B := q_X7_findError_L5 v) (fun k s => s.1 = zI (stF F k : Nat)) (fun b => ∃ s : Int32 × Int32 × Int32 × Int32 × Int32, zm (fun e5_0 : Int32 × Int32 × Int32 × Int32 × Int32 => some (e5_0.1, e5_0.1, e5_0.2.1, e5_0.2.2.1, e5_0.2.2.2.1, e5_0.2.2.2.2)) (zm (fun e5_1 : Int32 × Int32 × Int32 × Int32 × Int32 => some ((-6 : Int32), e5_1.1, e5_1.2.1, e5_1.2.2.1, e5_1.2.2.2.1, e5_1.2.2.2.2)) (fun e5_2 : Int32 × Int32 × Int32 × Int32 × Int32 => some (e5_2.1, e5_2.1, e5_2.2.1, e5_2.2.2.1, e5_2.2.2.2.1, e5_2.2.2.2.2))) b = some (zI (feZ F m N), s)) N (fun k s hk hs1 => by
      obtain ⟨hs, -⟩ := hst k (by omega)
      obtain ⟨g1, g2⟩ := hj k hk
      obtain ⟨c, one, two, num, w1, -⟩ := (hF _ hs).2.1 (v.1, v.2.1, v.2.2.1, v.2.2.2.1, v.2.2.2.2.1, v.2.2.2.2.2.1, s.1, s.2.1, s.2.2.1, s.2.2.2.1, s.2.2.2.2) hx hl hs1
      rw [g1] at w1
      unfold q_X7_findError_L5
      rw [w1, zb_some]
      dsimp only
      rw [if_neg z10, hl, if_neg (show ¬ zI ((F (stF F k)).2.1 : Nat) = zI (m : Nat) from zeq_n (zr_s (by have := g2.1; omega)) (zr_s (by omega)) (by have := g2.1; omega)), show q_X7_isNext (v.1, v.2.1, v.2.2.1, v.2.2.2.1, v.2.2.2.2.1, zI m, zI ((F (stF F k)).2.1 : Nat), c, one, two, num) 59 = _ from m_sgY (c := 59) hx rfl rfl g2, zb_some]
      dsimp only
      rw [if_neg z10]
      exact ⟨_, rfl, rfl⟩) (fun s hs1 => by
      obtain ⟨hs, -⟩ := hst N (by omega)
      have hB := (hF _ hs).2.2
      obtain ⟨c, one, two, num, w1, -⟩ := (hF _ hs).2.1 (v.1, v.2.1, v.2.2.1, v.2.2.2.1, v.2.2.2.2.1, v.2.2.2.2.2.1, s.1, s.2.1, s.2.2.1, s.2.2.2.1, s.2.2.2.2) hx hl hs1
      unfold q_X7_findError_L5
      rw [w1, zb_some]
      dsimp only
      rcases hB.1 with c0 | c0
      · have hz : feZ F m N = ((F (stF F N)).2.1 : Int) := if_neg (fun h => by rw [c0] at h; exact z01 h.1)
        rw [c0, if_pos rfl]
        refine ⟨_, rfl, (zI ((F (stF F N)).2.1 : Nat), c, one, two, num), ?_⟩
        rw [hz]
        rfl
      · have hle := hB.2.1
        rw [c0, if_neg z10, hl]
        by_cases c1 : (F (stF F N)).2.1 = m
        · have hz : feZ F m N = -6 := if_pos ⟨c0, c1⟩
          rw [if_pos (show zI ((F (stF F N)).2.1 : Nat) = zI (m : Nat) by rw [c1])]
          refine ⟨_, rfl, (zI ((F (stF F N)).2.1 : Nat), c, one, two, num), ?_⟩
          rw [hz, ← z6]
          rfl
        · have hz : feZ F m N = ((F (stF F N)).2.1 : Int) := if_neg (fun h => c1 h.2)
          rw [if_neg (show ¬ zI ((F (stF F N)).2.1 : Nat) = zI (m : Nat) from zeq_n (zr_s (by omega)) (zr_s (by omega)) (by omega)), show q_X7_isNext (v.1, v.2.1, v.2.2.1, v.2.2.2.1, v.2.2.2.2.1, zI m, zI ((F (stF F N)).2.1 : Nat), c, one, two, num) 59 = _ from m_sgN (c := 59) hx rfl rfl hle (by omega) (fun h => hn ⟨c0, h⟩), zb_some]
          dsimp only
          rw [if_pos rfl]
          refine ⟨_, rfl, (zI ((F (stF F N)).2.1 : Nat), c, one, two, num), ?_⟩
          rw [hz]
          rfl) 1000000 0 (0, v.2.2.2.2.2.2.2.1, v.2.2.2.2.2.2.2.2.1, v.2.2.2.2.2.2.2.2.2.1, v.2.2.2.2.2.2.2.2.2.2) rfl (by omega) (by omega)
  obtain ⟨b, hb, s, hq⟩ := e
  refine ⟨s, ?_⟩
  unfold q_X7_findError
  rw [hb, zb_some]
  exact hq
theorem F_ex (T : Nat → Int) (m : Nat) : ∃ F : Nat → Int32 × Nat × Int × Int × Int, ∀ q, q ≤ m → cmA T m q (F q) := by
  have h : ∀ q : Nat, ∃ o : Int32 × Nat × Int × Int × Int, q ≤ m → cmA T m q o := fun q => by
    by_cases hq : q ≤ m
    · obtain ⟨o, ho⟩ := cmd_ex T m q hq
      exact ⟨o, fun _ => ho⟩
    · exact ⟨(0, 0, 0, 0, 0), fun h => absurd h hq⟩
  exact ⟨fun q => Classical.choose (h q), fun q => Classical.choose_spec (h q)⟩
theorem tR_x {t : Nat → Int32} {len : Int32} (h : tR p t len) : ∃ (T : Nat → Int) (m : Nat), xT p.1 T m ∧ xT t T m ∧ p.2.1 = zI m ∧ len = zI m := by
  obtain ⟨m, hm, e1, e2, hc⟩ := h
  have key : ∀ k, k < m → (32 ≤ (t k).toInt ∧ (t k).toInt ≤ 126) ∧ p.1 k = zI (t k).toInt ∧ t k = zI (t k).toInt := fun k hk => by
    obtain ⟨c, w1, w2, w3⟩ := hc k hk
    have : (t k).toInt = c := by rw [w3, zI_toInt (zr_s (by omega))]
    rw [this]
    exact ⟨w1, w2, w3⟩
  exact ⟨fun k => (t k).toInt, m, ⟨hm, fun k hk => ⟨(key k hk).1, (key k hk).2.1⟩⟩, ⟨hm, fun k hk => ⟨(key k hk).1, (key k hk).2.2⟩⟩, e1, e2⟩
theorem tR_of {p' : tX4} {t : Nat → Int32} {len : Int32} (h : tR p t len) (e1 : p'.1 = p.1) (e2 : p'.2.1 = p.2.1) : tR p' t len := by
  obtain ⟨m, hm, w1, w2, hc⟩ := h
  exact ⟨m, hm, e2.trans w1, w2, fun k hk => by rw [e1]; exact hc k hk⟩
theorem t_23 (h : TR u v) : ∃ o, qL_23 x y u v = some o ∧ TR o.1 o.2 := by
  obtain ⟨a, hI, h9, hv, hd, hh, ht, hj⟩ := id h
  obtain ⟨T, m, x1, x2, l1, l2⟩ := tR_x ht
  obtain ⟨F, hF⟩ := F_ex T m
  obtain ⟨N, hN, hn, hg⟩ := st_ex x1.1 hF
  obtain ⟨p', w1, w2, w3, -⟩ := c_findError (p := u.2.2.2.1) x1 hF hN hn hg rfl l1
  obtain ⟨s, v1⟩ := m_findError (v := v) x2 l2 hF hN hn hg
  unfold qL_23 q_X6_syntaxError q_X7_syntaxError
  rw [w1, zb_some, zb_some, v1, zb_some, zb_some]
  dsimp only
  rw [if_pos rfl]
  exact ⟨_, rfl, a, hI, h9, hv, hd, hh, tR_of ht w2 (w3.trans l1.symm), hj⟩
end PZ
