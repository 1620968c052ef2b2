/-! the class: a check begins, ends -/
/-- all of a disk but its log -/
def kR (d : tX1) (a : Nat → Int) : Prop := (∀ k : Nat, k < 5 → d.1 k = zI (a (15 + k))) ∧ (∀ k : Nat, k < 8 → d.2.1 k = zI (a (20 + k))) ∧ sR d.2.2.1 a ∧ qR d.2.2.2.1 a ∧ nR d a
theorem dR_k {d : tX1} {a : Nat → Int} : dR d a ↔ kR d a ∧ lR d.2.2.2.2.1 a := by
  unfold dR kR
  constructor
  · rintro ⟨h1, h2, h3, h4, h5, h6⟩; exact ⟨⟨h1, h2, h3, h4, h6⟩, h5⟩
  · rintro ⟨⟨h1, h2, h3, h4, h6⟩, h5⟩; exact ⟨h1, h2, h3, h4, h5, h6⟩
theorem sR_of {s : tX5} {a b : Nat → Int} (h : sR s a) (e2 : b 2 = a 2) (h2 : 0 ≤ a 2 ∧ a 2 ≤ 20) (e : ∀ i, 34 ≤ i → i < 74 → b i = a i) : sR s b := by
  refine ⟨fun k hk => ?_, by rw [e2]; exact h.2⟩
  rw [e2] at hk
  rw [e _ (by omega) (by omega), e _ (by omega) (by omega)]
  exact h.1 k hk
theorem qR_of {q : tX0} {a b : Nat → Int} (h : qR q a) (e8 : b 8 = a 8) (h2 : a 8 ≤ 6) (e : ∀ k, k < 6 → b (28 + k) = a (28 + k)) : qR q b := by
  refine ⟨fun k hk => ?_, by rw [e8]; exact h.2⟩
  rw [e k (by omega)]
  exact h.1 k (by omega)
theorem lR_of {g : tX3} {a b : Nat → Int} (h : lR g a) (e14 : b 14 = a 14) (e : ∀ i, 74 ≤ i → i < 104 → b i = a i) : lR g b := by
  refine ⟨fun k hk => ?_, by rw [e14]; exact h.2.1, by rw [e14]; exact h.2.2⟩
  rw [e _ (by omega) (by omega), e _ (by omega) (by omega), e _ (by omega) (by omega)]
  exact h.1 k hk
theorem nR_of {d : tX1} {a b : Nat → Int} (h : nR d a) (e : ∀ i, i < 14 → b i = a i) : nR d b := by
  unfold nR at h ⊢
  rw [e 4 (by omega), e 3 (by omega), e 0 (by omega), e 1 (by omega), e 5 (by omega), e 6 (by omega), e 7 (by omega), e 13 (by omega), e 9 (by omega), e 10 (by omega), e 11 (by omega), e 12 (by omega)]
  exact h
theorem kR_of {d : tX1} {a b : Nat → Int} (h : kR d a) (h2 : 0 ≤ a 2 ∧ a 2 ≤ 20) (h8 : a 8 ≤ 6) (e : ∀ i, i < 74 → i ≠ 14 → b i = a i) : kR d b := by
  obtain ⟨q1, q2, q3, q4, q5⟩ := h
  exact ⟨fun k hk => by rw [e _ (by omega) (by omega)]; exact q1 k hk, fun k hk => by rw [e _ (by omega) (by omega)]; exact q2 k hk, sR_of q3 (e 2 (by omega) (by omega)) h2 (fun i w1 w2 => e i w2 (by omega)), qR_of q4 (e 8 (by omega) (by omega)) h8 (fun k hk => e _ (by omega) (by omega)), nR_of q5 (fun i hi => e i (by omega) (by omega))⟩
/-- a loop told by a relation -/
theorem zl_rel {α β : Type} {B : α → Option (α ⊕ β)} (P : Nat → α → Prop) (Q : β → Prop) (N : Nat) (hs : ∀ k x, k < N → P k x → ∃ y, B x = some (.inl y) ∧ P (k + 1) y) (he : ∀ x, P N x → ∃ b, B x = some (.inr b) ∧ Q b) : ∀ (fuel k : Nat) (x : α), P k x → k ≤ N → N - k < fuel → ∃ b, zl fuel B x = some b ∧ Q b := by
  intro fuel
  induction fuel with
  | zero => intro k x _ h1 h2; omega
  | succ n ih =>
    intro k x hx h1 h2
    unfold zl
    by_cases h : k = N
    · subst h
      obtain ⟨b, hb, hq⟩ := he x hx
      rw [hb]
      exact ⟨b, rfl, hq⟩
    · obtain ⟨y, hy, hp⟩ := hs k x (by omega) hx
      rw [hy]
      exact ih (k + 1) y hp (by omega) (by omega)
section PC3
variable {a : Nat → Int}
theorem c_ticksOfCheck {d : tX1} {b : Nat → Int} {s : Int} (hr : ∀ i, zr (b i)) (h2 : 0 ≤ b 2 ∧ b 2 ≤ 20) (hs : zr s) (hR : sR d.2.2.1 b) (h1 : ∀ k : Nat, k < 5 → d.1 k = zI (b (15 + k))) : q_X1_ticksOfCheck d (zI s) = some (zI (b 16 + b 17 * aSum b s (b 18))) := by
  unfold q_X1_ticksOfCheck
  rw [h1 3 (by omega), show q_X5_sumOf d.2.2.1 (zI s) (zI (b (15 + 3))) = _ from c_sumOf hr h2 hs (hr 18) hR, zb_some, h1 1 (by omega), h1 2 (by omega), zI_mul, zI_add]
theorem c_beginCheck {d : tX1} {c : Int} (h : aI (c + 1) a) (hc : 0 ≤ c) (hR : dR d a) : ∃ d' : tX1, q_X1_beginCheck d (zI (aNext a)) = some d' ∧ dR d' (aBegin a) := by
  have hr := h.1
  have hN := h.2.1
  unfold aN at hN
  have hn := aNext_b h
  obtain ⟨q1, q2, q3, q4, q5, n1, n2, n3, n4, n5, n6, n7, n8, n9, n10, n11, n12⟩ := id hR
  unfold q_X1_beginCheck aBegin
  rw [c_isSpan (zr_s (by omega)), zb_some]
  by_cases c1 : aNext a = -6
  · rw [if_neg (show ¬ (0 ≤ aNext a ∧ aNext a ≤ 7) by omega), if_pos rfl, if_pos c1]
    exact ⟨d, rfl, hR⟩
  · rw [if_pos (show 0 ≤ aNext a ∧ aNext a ≤ 7 by omega), if_neg (by decide), if_neg c1]
    obtain ⟨s, hs⟩ : ∃ s : Int, s = aNext a := ⟨_, rfl⟩
    have hnx : s = if a 8 ≤ 0 then aBest a else a 28 := hs
    rw [← hs] at hn c1 ⊢
    have eT : ∀ i, i ≠ 5 → i ≠ 6 → i ≠ 8 → (i < 28 ∨ 34 ≤ i) → aBeg1 a s i = a i := fun i w1 w2 w3 w4 => by
      unfold aBeg1
      rw [up_ne _ _ w2, up_ne _ _ w1]
      split
      · rfl
      · exact aTake_ne a 0 (by omega) (by omega) w3 w4
    have hb1 := (aBeg1_I (s := s) h (by omega)).1
    have hN1 := hb1.2.1
    unfold aN at hN1
    -- the list
    obtain ⟨z, q', hd, hq'⟩ : ∃ (z : Int32) (q' : tX0), q_X0_drop d.2.2.2.1 (zI s) = some (z, q') ∧ qR q' (aBeg1 a s) := by
      by_cases c2 : a 8 ≤ 0
      · refine ⟨0, _, c_drop_no h (zr_s (by omega)) q4 ?_, qR_of q4 ?_ (by omega) (fun k hk => ?_)⟩
        · unfold aPlace
          rw [show (a 8).toNat = 0 by omega]
          rfl
        · unfold aBeg1
          rw [up_ne _ _ (by omega), up_ne _ _ (by omega), if_pos c2]
        · unfold aBeg1
          rw [up_ne _ _ (by omega), up_ne _ _ (by omega), if_pos c2]
      · have hp : aPlace a s = (0 : Nat) := by
          unfold aPlace
          exact pl_some (by omega) (by rw [hnx, if_neg c2]) (fun j w1 w2 w3 => h.2.2.2.1.2 0 j (by omega) w1 (by rw [w3, hnx, if_neg c2]))
        obtain ⟨q', w1, w2⟩ := c_drop_yes h (zr_s (x := s) (by omega)) q4 hp (by omega)
        refine ⟨1, q', w1, qR_of w2 ?_ (by rw [aTake_8]; omega) (fun k hk => ?_)⟩
        · unfold aBeg1
          rw [up_ne _ _ (by omega), up_ne _ _ (by omega), if_neg c2]
        · unfold aBeg1
          rw [up_ne _ _ (by omega), up_ne _ _ (by omega), if_neg c2]
    have hs1 : sR d.2.2.1 (aBeg1 a s) := sR_of q3 (eT 2 (by omega) (by omega) (by omega) (by omega)) (by omega) (fun i w1 w2 => eT i (by omega) (by omega) (by omega) (by omega))
    have hT : ∀ w, q_X1_ticksOfCheck (d.1, d.2.1, d.2.2.1, w) (zI s) = some (zI (aBeg1 a s 16 + aBeg1 a s 17 * aSum (aBeg1 a s) s (aBeg1 a s 18))) := fun w => c_ticksOfCheck (d := (d.1, d.2.1, d.2.2.1, w)) (b := aBeg1 a s) (s := s) hb1.1 (by omega) (zr_s (by omega)) hs1 (fun k hk => by dsimp only; rw [eT _ (by omega) (by omega) (by omega) (by omega)]; exact q1 k hk)
    rw [hd, zb_some, hT, zb_some]
    have e2 : ∀ i, i ≠ 7 → aBeg2 a s i = aBeg1 a s i := fun i w => up_ne _ _ w
    have e20 : aBeg2 a s 0 = a 0 := by rw [e2 0 (by omega), eT 0 (by omega) (by omega) (by omega) (by omega)]
    have e214 : aBeg2 a s 14 = a 14 := by rw [e2 14 (by omega), eT 14 (by omega) (by omega) (by omega) (by omega)]
    have hl : lR d.2.2.2.2.1 (aBeg2 a s) := lR_of q5 e214 (fun i w1 w2 => by rw [e2 i (by omega), eT i (by omega) (by omega) (by omega) (by omega)])
    obtain ⟨g', hg, hgl⟩ := c_log (a := aBeg2 a s) (k := 1) (s := s) (by omega) hl
    rw [n3, ← e20, show q_X3_append d.2.2.2.2.1 (zI (aBeg2 a s 0)) 1 (zI s) = some g' from hg, zb_some]
    refine ⟨_, rfl, dR_k.mpr ⟨?_, hgl⟩⟩
    refine kR_of (a := aBeg2 a s) ?_ (by rw [e2 2 (by omega)]; omega) (by rw [e2 8 (by omega)]; omega) (fun i w1 w2 => aLogs_lo _ _ _ w1 w2)
    refine ⟨fun k hk => ?_, fun k hk => ?_, sR_of hs1 (e2 2 (by omega)) (by omega) (fun i w1 w2 => e2 i (by omega)), qR_of hq' (e2 8 (by omega)) (by omega) (fun k hk => e2 _ (by omega)), ?_⟩
    · dsimp only
      rw [e2 _ (by omega), eT _ (by omega) (by omega) (by omega) (by omega)]
      exact q1 k hk
    · dsimp only
      rw [e2 _ (by omega), eT _ (by omega) (by omega) (by omega) (by omega)]
      exact q2 k hk
    · have e5 : aBeg2 a s 5 = s := by
        rw [e2 5 (by omega)]
        unfold aBeg1
        rw [up_ne _ _ (by omega), up_at]
      have e6 : aBeg2 a s 6 = 0 := by
        rw [e2 6 (by omega)]
        exact up_at _ _ _
      have e7 : aBeg2 a s 7 = aBeg1 a s 16 + aBeg1 a s 17 * aSum (aBeg1 a s) s (aBeg1 a s 18) := up_at _ _ _
      have ee : ∀ i, i ≠ 5 → i ≠ 6 → i ≠ 7 → i ≠ 8 → i < 28 → aBeg2 a s i = a i := fun i w1 w2 w3 w4 w5 => by rw [e2 i w3, eT i w1 w2 w4 (Or.inl w5)]
      unfold nR
      dsimp only
      rw [e5, e6, e7, ee 4 (by omega) (by omega) (by omega) (by omega) (by omega), ee 3 (by omega) (by omega) (by omega) (by omega) (by omega), e20, ee 1 (by omega) (by omega) (by omega) (by omega) (by omega), ee 13 (by omega) (by omega) (by omega) (by omega) (by omega), ee 9 (by omega) (by omega) (by omega) (by omega) (by omega), ee 10 (by omega) (by omega) (by omega) (by omega) (by omega), ee 11 (by omega) (by omega) (by omega) (by omega) (by omega), ee 12 (by omega) (by omega) (by omega) (by omega) (by omega)]
      exact ⟨n1, n2, rfl, n4, rfl, rfl, rfl, n8, n9, n10, n11, n12⟩
end PC3
