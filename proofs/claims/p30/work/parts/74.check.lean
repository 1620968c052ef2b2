/-! class and model side by side: checkedIn, bestWay, undo -/
section PV
variable {u : tX6} {x y : Int32} {a : Nat → Int}
/-- the first of the first n that has P, or none -/
theorem zfirst (P : Nat → Prop) (n : Nat) : (∃ k, k < n ∧ P k ∧ ∀ j, j < k → ¬ P j) ∨ ∀ j, j < n → ¬ P j := by
  induction n with
  | zero => exact Or.inr (fun j hj => by omega)
  | succ n ih =>
    rcases ih with ⟨k, k1, k2, k3⟩ | h
    · exact Or.inl ⟨k, by omega, k2, k3⟩
    · by_cases c : P n
      · exact Or.inl ⟨n, by omega, c, h⟩
      · refine Or.inr (fun j hj => ?_)
        by_cases c1 : j = n
        · rw [c1]; exact c
        · exact h j (by omega)
abbrev cIn (a : Nat → Int) (s : Int) (k : Nat) : Prop := (aTick (aTicks a k)).1 = s
theorem aTick_b {s : Int} (h : aI 0 a) (h0 : a 0 < 110000) : zr (aTick a).1 := by
  obtain ⟨h2, h3, h36⟩ := aMid h h0
  unfold aTick
  split
  · generalize (if (up a 0 (a 0 + 1)) 5 = -6 then aBegin (up a 0 (a 0 + 1)) else up a 0 (a 0 + 1)) = f at h2 h3 h36 ⊢
    have hNf := h2.2.1
    unfold aN at hNf
    unfold aTick2
    by_cases c1 : f 5 = -6
    · rw [if_pos c1]
      exact zr_s (by dsimp only; omega)
    · rw [if_neg c1]
      split
      · exact zr_s (by dsimp only; omega)
      · exact zr_s (by dsimp only; omega)
  · exact zr_s (by dsimp only; omega)
theorem aTicks_s (a : Nat → Int) (k : Nat) : (aTick (aTicks a k)).2 = aTicks a (k + 1) := rfl
theorem c_checkedIn {s : Int} {d : tX1} (h : aI 0 a) (h9 : a 0 ≤ 99999) (hd : dR d a) (hs : zr s) : (∀ k : Nat, k < 3000 → cIn a s k → (∀ j, j < k → ¬ cIn a s j) → ∃ d' : tX1, zl 1000000 (q_X6_checkedIn_L22 (zI s)) (1, d) = some (Sum.inr (zI ((k + 1 : Nat) : Int), d'))) ∧ ((∀ j, j < 3000 → ¬ cIn a s j) → ∃ d' : tX1, zl 1000000 (q_X6_checkedIn_L22 (zI s)) (1, d) = some (Sum.inl d')) := by
  have step : ∀ (j : Nat) (x : Int32 × tX1), j < 3000 → (x.1 = zI ((j + 1 : Nat) : Int) ∧ dR x.2 (aTicks a j)) → ∃ d' : tX1, q_X6_checkedIn_L22 (zI s) x = (if cIn a s j then some (Sum.inr (Sum.inr (zI ((j + 1 : Nat) : Int), d'))) else some (Sum.inl (zI ((j + 1 + 1 : Nat) : Int), d'))) ∧ dR d' (aTicks a (j + 1)) := by
    intro j x hj hx
    obtain ⟨x1, x2⟩ := x
    obtain ⟨w1, w2⟩ := hx
    dsimp only at w1 w2
    subst w1
    obtain ⟨i1, i2⟩ := aTicks_I h j (by omega)
    obtain ⟨d', v1, v2⟩ := c_passQuietTick i1 (by omega) w2
    refine ⟨d', ?_, v2⟩
    unfold q_X6_checkedIn_L22
    dsimp only
    rw [if_neg (show ¬ (3000 : Int32) < zI ((j + 1 : Nat) : Int) from zlt_n (x := 3000) (zr_s (by omega)) (zr_s (by omega)) (by omega)), v1, zb_some]
    dsimp only
    by_cases c : cIn a s j
    · rw [if_pos (show zI (aTick (aTicks a j)).1 = zI s by rw [show (aTick (aTicks a j)).1 = s from c]), if_pos c]
    · rw [if_neg (zeq_n (aTick_b (s := s) i1 (by omega)) hs c), if_neg c, zI_1]
  constructor
  · intro k hk hc hno
    obtain ⟨b, hb, d', hq⟩ := zl_rel (B := q_X6_checkedIn_L22 (zI s)) (fun j x => x.1 = zI ((j + 1 : Nat) : Int) ∧ dR x.2 (aTicks a j)) (fun b => ∃ d' : tX1, b = Sum.inr (zI ((k + 1 : Nat) : Int), d')) k (fun j x hj hx => by
      obtain ⟨d', e1, e2⟩ := step j x (by omega) hx
      rw [e1, if_neg (hno j hj)]
      exact ⟨_, rfl, rfl, e2⟩) (fun x hx => by
      obtain ⟨d', e1, e2⟩ := step k x hk hx
      rw [e1, if_pos hc]
      exact ⟨_, rfl, d', rfl⟩) 1000000 0 (1, d) ⟨rfl, hd⟩ (by omega) (by omega)
    exact ⟨d', by rw [hb, hq]⟩
  · intro hno
    obtain ⟨b, hb, d', hq⟩ := zl_rel (B := q_X6_checkedIn_L22 (zI s)) (fun j x => x.1 = zI ((j + 1 : Nat) : Int) ∧ dR x.2 (aTicks a j)) (fun b => ∃ d' : tX1, b = Sum.inl d') 3000 (fun j x hj hx => by
      obtain ⟨d', e1, e2⟩ := step j x (by omega) hx
      rw [e1, if_neg (hno j hj)]
      exact ⟨_, rfl, rfl, e2⟩) (fun x hx => by
      obtain ⟨x1, x2⟩ := x
      obtain ⟨w1, w2⟩ := hx
      dsimp only at w1 w2
      subst w1
      unfold q_X6_checkedIn_L22
      dsimp only
      rw [if_pos (show (3000 : Int32) < zI ((3000 + 1 : Nat) : Int) from zlt_p (x := 3000) (zr_s (by omega)) (zr_s (by omega)) (by omega))]
      exact ⟨_, rfl, x2, rfl⟩) 1000000 0 (1, d) ⟨rfl, hd⟩ (by omega) (by omega)
    exact ⟨d', by rw [hb, hq]⟩
theorem zl_in {α β : Type} {B : α → Option (α ⊕ β)} {x y : α} {n : Nat} (h : B x = some (.inl y)) : zl (n + 1) B x = zl n B y := by
  show zb (B x) (zk (zl n B)) = _
  rw [h]
  rfl
theorem zl_out {α β : Type} {B : α → Option (α ⊕ β)} {x : α} {b : β} {n : Nat} (h : B x = some (.inr b)) : zl (n + 1) B x = some b := by
  show zb (B x) (zk (zl n B)) = _
  rw [h]
  rfl
end PV
