/-! the law's forecasts by copies -/
section PZ4
variable {a b : Nat → Int} {q t l p e : Nat → Int32}
def cpy (f : Nat → Int32) (m k : Nat) : Nat → Int32 := fun i => if i < k ∧ i < m then f i else 0
theorem cpy_s (f : Nat → Int32) {m k : Nat} (h : k < m) : upd (cpy f m k) k (f k) = cpy f m (k + 1) := by
  funext i
  unfold upd cpy
  by_cases c : i = k
  · rw [c, if_pos rfl, if_pos (by omega)]
  · rw [if_neg c]
    by_cases c2 : i < k ∧ i < m
    · rw [if_pos c2, if_pos (by omega)]
    · rw [if_neg c2, if_neg (by omega)]
theorem cpy_o (f : Nat → Int32) {m k : Nat} (h : m ≤ k) : cpy f m k = cpy f m (k + 1) := by
  funext i
  unfold cpy
  by_cases c2 : i < k ∧ i < m
  · rw [if_pos c2, if_pos (by omega)]
  · rw [if_neg c2, if_neg (by omega)]
theorem cpy_at (f : Nat → Int32) {m i : Nat} (h : i < m) (hm : m ≤ 20) : cpy f m 20 i = f i := if_pos (by omega)
theorem j_copy : zl 1000000 (q_L_then_L33 q t l p) (0, (fun _ => 0), (fun _ => 0), (fun _ => 0), (fun _ => 0)) = some (cpy q 20 20, cpy t 8 20, cpy l 6 20, cpy p 20 20) := by
  refine zl_run (fun k => (zI k, cpy q 20 k, cpy t 8 k, cpy l 6 k, cpy p 20 k)) (a := ((0 : Int32), (fun _ => 0), (fun _ => 0), (fun _ => 0), (fun _ => 0))) (b := (cpy q 20 20, cpy t 8 20, cpy l 6 20, cpy p 20 20)) 20 ?_ (by omega) ?_ ?_
  · have z : ∀ (f : Nat → Int32) (m : Nat), cpy f m 0 = fun _ => 0 := fun f m => by
      funext i
      unfold cpy
      rw [if_neg (by omega)]
    rw [z, z, z, z]
    rfl
  · intro k hk
    have j76 : ∀ w : Nat → Int32, w = cpy t 8 (k + 1) → q_L_then_J76 l (zI k, cpy q 20 k, cpy t 8 k, cpy l 6 k, cpy p 20 k) (cpy q 20 (k + 1)) (cpy p 20 (k + 1)) w = some (Sum.inl (zI ((k + 1 : Nat) : Int), cpy q 20 (k + 1), cpy t 8 (k + 1), cpy l 6 (k + 1), cpy p 20 (k + 1))) := by
      intro w hw
      subst hw
      unfold q_L_then_J76
      dsimp only
      by_cases c : k < 6
      · rw [if_neg (show ¬ (6 : Int32) ≤ zI k from zle_n (x := 6) (zr_s (by omega)) (zr_s (by omega)) (by omega)), zg_N c (by omega), zs_N c (by omega), cpy_s l c, zI_1]
      · rw [if_pos (show (6 : Int32) ≤ zI k from zle_p (x := 6) (zr_s (by omega)) (zr_s (by omega)) (by omega)), zI_1, ← cpy_o l (show 6 ≤ k by omega)]
    unfold q_L_then_L33
    dsimp only
    rw [if_neg (show ¬ (20 : Int32) ≤ zI k from zle_n (x := 20) (zr_s (by omega)) (zr_s (by omega)) (by omega)), zg_N hk (by omega), zs_N hk (by omega), cpy_s q hk, zg_N hk (by omega), zs_N hk (by omega), cpy_s p hk]
    by_cases c : k < 8
    · rw [if_neg (show ¬ (8 : Int32) ≤ zI k from zle_n (x := 8) (zr_s (by omega)) (zr_s (by omega)) (by omega)), zg_N c (by omega), zs_N c (by omega)]
      exact j76 _ (cpy_s t c)
    · rw [if_pos (show (8 : Int32) ≤ zI k from zle_p (x := 8) (zr_s (by omega)) (zr_s (by omega)) (by omega))]
      exact j76 _ (cpy_o t (by omega))
  · unfold q_L_then_L33
    dsimp only
    rw [if_pos (show (20 : Int32) ≤ zI (20 : Nat) from zle_p (x := 20) (zr_s (by omega)) (zr_s (by omega)) (by omega))]
def vD (a : Nat → Int) (x : (Nat → Int32) × (Nat → Int32) × (Nat → Int32) × (Nat → Int32) × (Nat → Int32)) : Prop := vQ x.1 a ∧ vT x.2.1 a ∧ vL x.2.2.1 a ∧ vP x.2.2.2.1 a
theorem vD_copy {w : Int} (h : aI 0 a) (hQ : vQ q a) (hT : vT t a) (hL : vL l a) (hP : vP p a) : vD (up a 4 w) (upd (cpy q 20 20) 4 (zI w), cpy t 8 20, cpy l 6 20, cpy p 20 20, fun _ => 0) := by
  have hN := h.2.1
  unfold aN at hN
  have e : ∀ i, i ≠ 4 → up a 4 w i = a i := fun i w1 => up_ne _ _ w1
  refine ⟨vQ_up (fun i hi => by rw [cpy_at q hi (by omega)]; exact hQ i hi), fun k hk => ?_, fun k hk => ?_, fun k hk => ?_⟩
  · dsimp only
    rw [cpy_at t hk (by omega), e _ (by omega), hT k hk]
  · dsimp only
    rw [e 8 (by omega)] at hk
    rw [cpy_at l (by omega) (by omega), e _ (by omega), hL k hk]
  · dsimp only
    rw [e 2 (by omega)] at hk
    rw [cpy_at p (by omega) (by omega), e _ (by omega), e _ (by omega), hP k hk]
/-- one round of the law's ticks -/
theorem j_round {n k : Nat} {s : Int} {x : Int32 × (Nat → Int32) × (Nat → Int32) × (Nat → Int32) × (Nat → Int32) × (Nat → Int32)} (h : aI 0 b) (h9 : b 0 + n ≤ 110000) (hs : zr s) (hn : n ≤ 3000) (hk : k < n) (hx : x.1 = zI ((k + 1 : Nat) : Int) ∧ vD (aTicks b k) x.2) : ∃ y : (Nat → Int32) × (Nat → Int32) × (Nat → Int32) × (Nat → Int32) × (Nat → Int32), q_L_then_L107 (zI n) (zI s) x = (if cIn b s k ∧ 0 ≤ s then some (Sum.inr (Sum.inr (zI ((k + 1 : Nat) : Int), y))) else some (Sum.inl (zI ((k + 1 + 1 : Nat) : Int), y))) ∧ vD (aTicks b (k + 1)) y := by
  obtain ⟨x1, x2, x3, x4, x5, x6⟩ := x
  obtain ⟨h1, h2, h3, h4, h5⟩ := hx
  dsimp only at h1 h2 h3 h4 h5
  subst h1
  obtain ⟨i1, i2⟩ := aTicks_I h k (by omega)
  obtain ⟨q', t', l', p', e', k1, k2, k3, k4, k5, -⟩ := j_tick (e := x6) i1 (by omega) h2 h3 h4 h5
  refine ⟨(q', t', l', p', e'), ?_, k2, k3, k4, k5⟩
  unfold q_L_then_L107
  dsimp only
  rw [if_neg (show ¬ zI n < zI ((k + 1 : Nat) : Int) from zlt_n (zr_s (by omega)) (zr_s (by omega)) (by omega)), k1, zb_some, zI_1]
  dsimp only
  by_cases c : cIn b s k
  · rw [if_pos (show zI (aTick (aTicks b k)).1 = zI s by rw [show (aTick (aTicks b k)).1 = s from c])]
    by_cases c2 : 0 ≤ s
    · rw [if_neg (show ¬ zI s < 0 from zlt_n (y := 0) hs (zr_s (by omega)) c2), if_pos ⟨c, c2⟩]
    · rw [if_pos (show zI s < 0 from zlt_p (y := 0) hs (zr_s (by omega)) (by omega)), if_neg (fun w => c2 w.2)]
  · rw [if_neg (zeq_n (aTick_b (s := s) i1 (by omega)) hs c), if_neg (fun w => c w.1)]
theorem j_over {n : Nat} {w : Int} (h : aI 0 a) (h9 : a 0 ≤ 99999) (hn : n ≤ 3000) (hw : 0 ≤ w ∧ w ≤ 2) (hQ : vQ q a) (hT : vT t a) (hL : vL l a) (hP : vP p a) : q_L_then q t l p (zI n) (zI w) (-1) = some (zI (xW a n w)) := by
  have hb := aI_way h hw
  have eb0 : up a 4 w 0 = a 0 := up_ne _ _ (by omega)
  obtain ⟨b, hb1, b1, b2⟩ := zl_rel (B := q_L_then_L107 (zI n) (zI (-1))) (fun k x => x.1 = zI ((k + 1 : Nat) : Int) ∧ vD (aTicks (up a 4 w) k) x.2) (fun r => ∃ y, r = Sum.inl y ∧ vD (aTicks (up a 4 w) n) y) n (fun k x hk hx => by
    obtain ⟨y, y1, y2⟩ := j_round hb (by rw [eb0]; omega) (zr_s (x := -1) (by omega)) hn hk hx
    rw [y1, if_neg (fun w => by have := w.2; omega)]
    exact ⟨_, rfl, rfl, y2⟩) (fun x hx => by
    obtain ⟨x1, x2⟩ := x
    obtain ⟨h1, h2⟩ := hx
    dsimp only at h1
    subst h1
    unfold q_L_then_L107
    dsimp only
    rw [if_pos (show zI n < zI ((n + 1 : Nat) : Int) from zlt_p (zr_s (by omega)) (zr_s (by omega)) (by omega))]
    exact ⟨_, rfl, x2, rfl, h2⟩) 1000000 0 (1, upd (cpy q 20 20) 4 (zI w), cpy t 8 20, cpy l 6 20, cpy p 20 20, fun _ => 0) ⟨rfl, vD_copy h hQ hT hL hP⟩ (by omega) (by omega)
  obtain ⟨hI', -⟩ := aTicks_I hb n (by rw [eb0]; omega)
  unfold q_L_then
  rw [j_copy, zb_some]
  unfold q_L_then_J99 zn
  dsimp only
  rw [zm1, hb1, zb_some, b2.1]
  unfold zm q_L_then_J143
  dsimp only
  rw [if_pos (show zI (-1) < 0 from zlt_p (y := 0) (zr_s (by omega)) (zr_s (by omega)) (by omega)), j_late hI' b2.2.1 b2.2.2.1, zb_some]
  rfl
theorem j_in {s : Nat} (h : aI 0 a) (h9 : a 0 ≤ 99999) (hs : s < 8) (hQ : vQ q a) (hT : vT t a) (hL : vL l a) (hP : vP p a) : (∀ k : Nat, k < 3000 → cIn a s k → (∀ j, j < k → ¬ cIn a s j) → q_L_then q t l p 3000 (zI (a 4)) (zI s) = some (zI ((k + 1 : Nat) : Int))) ∧ ((∀ j, j < 3000 → ¬ cIn a s j) → q_L_then q t l p 3000 (zI (a 4)) (zI s) = some (zI (-6))) := by
  have hst : vD (aTicks a 0) (upd (cpy q 20 20) 4 (zI (a 4)), cpy t 8 20, cpy l 6 20, cpy p 20 20, fun _ => 0) := by
    have := vD_copy (w := a 4) h hQ hT hL hP
    rw [up_self] at this
    exact this
  unfold q_L_then
  rw [j_copy, zb_some]
  unfold q_L_then_J99 zn
  dsimp only
  constructor
  · intro k hk hc hno
    obtain ⟨b, hb1, y, b1⟩ := zl_rel (B := q_L_then_L107 (zI (3000 : Nat)) (zI s)) (fun j x => x.1 = zI ((j + 1 : Nat) : Int) ∧ vD (aTicks a j) x.2) (fun r => ∃ y, r = Sum.inr (zI ((k + 1 : Nat) : Int), y)) k (fun j x hj hx => by
      obtain ⟨y, y1, y2⟩ := j_round (n := 3000) h (by omega) (zr_s (x := (s : Int)) (by omega)) (by omega) (by omega) hx
      rw [y1, if_neg (fun w => hno j hj w.1)]
      exact ⟨_, rfl, rfl, y2⟩) (fun x hx => by
      obtain ⟨y, y1, y2⟩ := j_round (n := 3000) h (by omega) (zr_s (x := (s : Int)) (by omega)) (by omega) hk hx
      rw [y1, if_pos ⟨hc, by omega⟩]
      exact ⟨_, rfl, y, rfl⟩) 1000000 0 (1, upd (cpy q 20 20) 4 (zI (a 4)), cpy t 8 20, cpy l 6 20, cpy p 20 20, fun _ => 0) ⟨rfl, hst⟩ (by omega) (by omega)
    rw [show zl 1000000 (q_L_then_L107 3000 (zI s)) _ = _ from hb1, zb_some, b1]
    rfl
  · intro hno
    obtain ⟨b, hb1, y, b1⟩ := zl_rel (B := q_L_then_L107 (zI (3000 : Nat)) (zI s)) (fun j x => x.1 = zI ((j + 1 : Nat) : Int) ∧ vD (aTicks a j) x.2) (fun r => ∃ y, r = Sum.inl y) 3000 (fun j x hj hx => by
      obtain ⟨y, y1, y2⟩ := j_round (n := 3000) h (by omega) (zr_s (x := (s : Int)) (by omega)) (by omega) hj hx
      rw [y1, if_neg (fun w => hno j hj w.1)]
      exact ⟨_, rfl, rfl, y2⟩) (fun x hx => by
      obtain ⟨x1, x2⟩ := x
      obtain ⟨h1, h2⟩ := hx
      dsimp only at h1
      subst h1
      unfold q_L_then_L107
      dsimp only
      rw [if_pos (show zI (3000 : Nat) < zI ((3000 + 1 : Nat) : Int) from zlt_p (zr_s (by omega)) (zr_s (by omega)) (by omega))]
      exact ⟨_, rfl, x2, rfl⟩) 1000000 0 (1, upd (cpy q 20 20) 4 (zI (a 4)), cpy t 8 20, cpy l 6 20, cpy p 20 20, fun _ => 0) ⟨rfl, hst⟩ (by omega) (by omega)
    rw [show zl 1000000 (q_L_then_L107 3000 (zI s)) _ = _ from hb1, zb_some, b1]
    unfold zm q_L_then_J143
    dsimp only
    rw [if_neg (show ¬ zI s < 0 from zlt_n (y := 0) (zr_s (by omega)) (zr_s (by omega)) (by omega)), z6]
end PZ4
