/-! the class: a tick, many ticks, copies -/
section PC5
variable {a : Nat → Int}
theorem kR_num {d : tX1} {a b : Nat → Int} (h : kR d a) (h2 : 0 ≤ a 2 ∧ a 2 ≤ 20) (h8 : a 8 ≤ 6) (e2 : b 2 = a 2) (e8 : b 8 = a 8) (e : ∀ i, 15 ≤ i → i < 74 → b i = a i) {d' : tX1} (hd : d'.1 = d.1 ∧ d'.2.1 = d.2.1 ∧ d'.2.2.1 = d.2.2.1 ∧ d'.2.2.2.1 = d.2.2.2.1) (hn : nR d' b) : kR d' b := by
  obtain ⟨q1, q2, q3, q4, q5⟩ := h
  obtain ⟨w1, w2, w3, w4⟩ := hd
  exact ⟨fun k hk => by rw [w1, e _ (by omega) (by omega)]; exact q1 k hk, fun k hk => by rw [w2, e _ (by omega) (by omega)]; exact q2 k hk, by rw [w3]; exact sR_of q3 e2 h2 (fun i w1 w2 => e i (by omega) w2), by rw [w4]; exact qR_of q4 e8 h8 (fun k hk => e _ (by omega) (by omega)), hn⟩
theorem c_passQuietTick {d : tX1} (h : aI 0 a) (h0 : a 0 < 110000) (hR : dR d a) : ∃ d' : tX1, q_X1_passQuietTick d = some (zI (aTick a).1, d') ∧ dR d' (aTick a).2 := by
  have h1 := aI_t0 h h0
  have hN := h.2.1
  unfold aN at hN
  have hN1 := h1.2.1
  unfold aN at hN1
  obtain ⟨h2, h3, h36⟩ := aMid h h0
  obtain ⟨b, hb⟩ : ∃ b, b = up a 0 (a 0 + 1) := ⟨_, rfl⟩
  have eb : ∀ i, i ≠ 0 → b i = a i := fun i hi => by rw [hb]; exact up_ne _ _ hi
  have eb0 : b 0 = a 0 + 1 := by rw [hb, up_at]
  rw [← hb] at h1 h2 h3 h36 hN1
  obtain ⟨hk, hl⟩ := dR_k.mp hR
  obtain ⟨n1, n2, n3, n4, n5, n6, n7, n8, n9, n10, n11, n12⟩ := hk.2.2.2.2
  have hlb : lR d.2.2.2.2.1 b := lR_of hl (eb 14 (by omega)) (fun i w1 w2 => eb i (by omega))
  have hRb : dR (d.1, d.2.1, d.2.2.1, d.2.2.2.1, d.2.2.2.2.1, d.2.2.2.2.2.1, d.2.2.2.2.2.2.1, zI (b 0), d.2.2.2.2.2.2.2.2) b := by
    refine dR_k.mpr ⟨kR_num hk (by omega) (by omega) (eb 2 (by omega)) (eb 8 (by omega)) (fun i w1 w2 => eb i (by omega)) ⟨rfl, rfl, rfl, rfl⟩ ?_, hlb⟩
    unfold nR
    dsimp only
    rw [eb 4 (by omega), eb 3 (by omega), eb 1 (by omega), eb 5 (by omega), eb 6 (by omega), eb 7 (by omega), eb 13 (by omega), eb 9 (by omega), eb 10 (by omega), eb 11 (by omega), eb 12 (by omega)]
    exact ⟨n1, n2, rfl, n4, n5, n6, n7, n8, n9, n10, n11, n12⟩
  have mid : ∀ (f : Nat → Int) (e : tX1), aI 21 f → f 6 + 1 ≤ f 0 → dR e f → ∃ d' : tX1, q_X1_passQuietTick_J53 e = some (zI (aTick2 f).1, d') ∧ dR d' (aTick2 f).2 := by
    intro f e hf hf6 hRf
    have hNf := hf.2.1
    unfold aN at hNf
    obtain ⟨hkf, hlf⟩ := dR_k.mp hRf
    obtain ⟨m1, m2, m3, m4, m5, m6, m7, m8, m9, m10, m11, m12⟩ := hkf.2.2.2.2
    unfold q_X1_passQuietTick_J53 aTick2 zn
    rw [m5, m6, m7]
    by_cases c1 : f 5 = -6
    · rw [if_pos (show zI (f 5) = -6 by rw [c1, z6]), if_pos c1]
      exact ⟨e, by rw [z6], hRf⟩
    · rw [if_neg (show ¬ zI (f 5) = -6 by rw [z6]; exact zeq_n (hf.1 5) (zr_s (by omega)) c1), if_neg c1]
      obtain ⟨g, hg⟩ : ∃ g, g = up f 6 (f 6 + 1) := ⟨_, rfl⟩
      have eg : ∀ i, i ≠ 6 → g i = f i := fun i hi => by rw [hg]; exact up_ne _ _ hi
      have eg6 : g 6 = f 6 + 1 := by rw [hg, up_at]
      have hgI : aI 21 g := by rw [hg]; exact aI_num1 hf (Or.inr rfl) (by omega) (by omega) (by omega)
      have hRg : dR (e.1, e.2.1, e.2.2.1, e.2.2.2.1, e.2.2.2.2.1, e.2.2.2.2.2.1, e.2.2.2.2.2.2.1, e.2.2.2.2.2.2.2.1, e.2.2.2.2.2.2.2.2.1, zI (f 5), zI (f 6) + 1, zI (f 7), e.2.2.2.2.2.2.2.2.2.2.2.2) g := by
        refine dR_k.mpr ⟨kR_num hkf (by omega) (by omega) (eg 2 (by omega)) (eg 8 (by omega)) (fun i w1 w2 => eg i (by omega)) ⟨rfl, rfl, rfl, rfl⟩ ?_, lR_of hlf (eg 14 (by omega)) (fun i w1 w2 => eg i (by omega))⟩
        unfold nR
        dsimp only
        rw [eg6, eg 4 (by omega), eg 3 (by omega), eg 0 (by omega), eg 1 (by omega), eg 5 (by omega), eg 7 (by omega), eg 13 (by omega), eg 9 (by omega), eg 10 (by omega), eg 11 (by omega), eg 12 (by omega)]
        exact ⟨m1, m2, m3, m4, rfl, zI_a1 _, rfl, m8, m9, m10, m11, m12⟩
      rw [← hg]
      dsimp only
      by_cases c2 : g 7 ≤ g 6
      · obtain ⟨d', w1, w2⟩ := c_endCheck (c := 0) hgI (by omega) (by rw [eg 5 (by omega)]; omega) hRg
        rw [eg 5 (by omega)] at w1
        rw [if_pos (show zI (f 7) ≤ zI (f 6) + 1 by rw [zI_a1]; exact zle_p (hf.1 7) (zr_s (by omega)) (by rw [← eg6, ← eg 7 (by omega)]; exact c2)), if_pos c2, w1, zb_some]
        exact ⟨d', rfl, w2⟩
      · rw [if_neg (show ¬ zI (f 7) ≤ zI (f 6) + 1 by rw [zI_a1]; exact zle_n (hf.1 7) (zr_s (by omega)) (by rw [← eg6, ← eg 7 (by omega)]; omega)), if_neg c2]
        exact ⟨_, by rw [z6], hRg⟩
  unfold q_X1_passQuietTick aTick zn
  rw [← hb, hk.1 0 (by omega), n4, n5, show d.2.2.2.2.2.2.2.1 + 1 = zI (b 0) by rw [n3, eb0, zI_a1]]
  rw [← n4, ← n5]
  dsimp only
  have e15 : b 15 = a 15 := eb 15 (by omega)
  have e1 : b 1 = a 1 := eb 1 (by omega)
  by_cases c1 : b 15 ≤ b 1
  · rw [if_pos (show zI (a (15 + 0)) ≤ d.2.2.2.2.2.2.2.2.1 by rw [n4]; exact zle_p (h.1 15) (h.1 1) (show a 15 ≤ a 1 by omega)), if_pos c1]
    by_cases c2 : b 5 = -6
    · rw [if_pos c2] at h2 h3 h36
      rw [if_pos (show d.2.2.2.2.2.2.2.2.2.1 = -6 by rw [n5, ← eb 5 (by omega), c2, z6]), if_pos c2]
      obtain ⟨d', w1, w2⟩ := c_beginCheck (c := 21) h1 (by omega) hRb
      rw [show q_X1_chooseSpan (d.1, d.2.1, d.2.2.1, d.2.2.2.1, d.2.2.2.2.1, d.2.2.2.2.2.1, d.2.2.2.2.2.2.1, zI (b 0), d.2.2.2.2.2.2.2.2) = some (zI (aNext b)) from c_chooseSpan h1 hRb, zb_some, show q_X1_beginCheck (d.1, d.2.1, d.2.2.1, d.2.2.2.1, d.2.2.2.2.1, d.2.2.2.2.2.1, d.2.2.2.2.2.2.1, zI (b 0), d.2.2.2.2.2.2.2.2) (zI (aNext b)) = some d' from w1, zb_some]
      exact mid _ _ h2 (by omega) w2
    · rw [if_neg c2] at h2 h3 h36
      rw [if_neg (show ¬ d.2.2.2.2.2.2.2.2.2.1 = -6 by rw [n5, z6]; exact zeq_n (h.1 5) (zr_s (by omega)) (by rw [← eb 5 (by omega)]; exact c2)), if_neg c2]
      exact mid _ _ h2 (by omega) hRb
  · rw [if_neg (show ¬ zI (a (15 + 0)) ≤ d.2.2.2.2.2.2.2.2.1 by rw [n4]; exact zle_n (h.1 15) (h.1 1) (show a 1 < a 15 by omega)), if_neg c1, n4]
    refine ⟨_, by rw [z6], ?_⟩
    have eu : ∀ i, i ≠ 1 → up b 1 (b 1 + 1) i = b i := fun i hi => up_ne _ _ hi
    obtain ⟨hkb, hlb2⟩ := dR_k.mp hRb
    refine dR_k.mpr ⟨kR_num hkb (by omega) (by omega) (eu 2 (by omega)) (eu 8 (by omega)) (fun i w1 w2 => eu i (by omega)) ⟨rfl, rfl, rfl, rfl⟩ ?_, lR_of hlb2 (eu 14 (by omega)) (fun i w1 w2 => eu i (by omega))⟩
    unfold nR
    dsimp only
    rw [up_at, eu 4 (by omega), eu 3 (by omega), eu 0 (by omega), eu 5 (by omega), eu 6 (by omega), eu 7 (by omega), eu 13 (by omega), eu 9 (by omega), eu 10 (by omega), eu 11 (by omega), eu 12 (by omega), eb 4 (by omega), eb 3 (by omega), eb 1 (by omega), eb 5 (by omega), eb 6 (by omega), eb 7 (by omega), eb 13 (by omega), eb 9 (by omega), eb 10 (by omega), eb 11 (by omega), eb 12 (by omega)]
    exact ⟨n1, n2, rfl, zI_a1 _, n5, n6, n7, n8, n9, n10, n11, n12⟩
theorem c_passQuietTicks {d : tX1} {n : Nat} (h : aI 0 a) (hn : 1 ≤ n ∧ n ≤ 500) (hT : a 0 + n ≤ 99999) (hR : dR d a) : ∃ d' : tX1, q_X1_passQuietTicks d (zI n) = some (d'.2.2.2.2.2.2.2.2.2.2.2.2.2.1 - d.2.2.2.2.2.2.2.2.2.2.2.2.2.1, d') ∧ dR d' (aTicks a n) := by
  have hN := h.2.1
  unfold aN at hN
  have n3 := hR.2.2.2.2.2.2.2.1
  obtain ⟨b, hb, hq⟩ := zl_rel (B := q_X1_passQuietTicks_L36 (zI n)) (fun k x => x.1 = zI k ∧ dR x.2 (aTicks a k)) (fun b => dR b (aTicks a n)) n (fun k x hk hx => by
      obtain ⟨x1, x2⟩ := x
      obtain ⟨w1, w2⟩ := hx
      dsimp only at w1 w2
      subst w1
      obtain ⟨i1, i2⟩ := aTicks_I h k (by omega)
      obtain ⟨d', v1, v2⟩ := c_passQuietTick i1 (by omega) w2
      unfold q_X1_passQuietTicks_L36
      dsimp only
      rw [if_neg (show ¬ zI n ≤ zI k from zle_n (zr_s (by omega)) (zr_s (by omega)) (by omega)), v1, zb_some]
      exact ⟨_, rfl, by rw [zI_1], v2⟩) (fun x hx => by
      obtain ⟨x1, x2⟩ := x
      obtain ⟨w1, w2⟩ := hx
      dsimp only at w1 w2
      subst w1
      unfold q_X1_passQuietTicks_L36
      dsimp only
      rw [if_pos (show zI n ≤ zI n from zle_p (zr_s (by omega)) (zr_s (by omega)) (by omega))]
      exact ⟨_, rfl, w2⟩) 1000000 0 (0, d) ⟨rfl, hR⟩ (by omega) (by omega)
  refine ⟨b, ?_, hq⟩
  unfold q_X1_passQuietTicks
  rw [if_neg (show ¬ zI n < 1 from zlt_n (y := 1) (zr_s (by omega)) (zr_s (by omega)) (by omega)), if_pos (show zI n ≤ 500 from zle_p (y := 500) (zr_s (by omega)) (zr_s (by omega)) (by omega)), n3, zI_add, if_pos (show zI (a 0 + n) ≤ 99999 from zle_p (y := 99999) (zr_s (by omega)) (zr_s (by omega)) (by omega)), hb, zb_some]
/-- how many checks end: the class counts by the number of ended checks -/
theorem aTick_9 (h : aI 0 a) (h0 : a 0 < 110000) : (aTick a).2 9 = a 9 + (if (aTick a).1 = -6 then 0 else 1) := by
  have h1 := aI_t0 h h0
  obtain ⟨h2, h3, h36⟩ := aMid h h0
  have hN1 := h1.2.1
  unfold aN at hN1
  have eB : aBegin (up a 0 (a 0 + 1)) 9 = a 9 := by
    have hn := aNext_b h1
    have hu : up a 0 (a 0 + 1) 9 = a 9 := up_ne _ _ (by omega)
    unfold aBegin
    split
    · exact hu
    · rw [aLogs_lo _ _ _ (by omega) (by omega)]
      unfold aBeg2 aBeg1
      rw [up_ne _ _ (by omega), up_ne _ _ (by omega), up_ne _ _ (by omega)]
      split
      · exact hu
      · rw [aTake_ne _ 0 (by omega) (by omega) (by omega) (by omega)]
        exact hu
  have eM : (if (up a 0 (a 0 + 1)) 5 = -6 then aBegin (up a 0 (a 0 + 1)) else up a 0 (a 0 + 1)) 9 = a 9 := by
    split
    · exact eB
    · exact up_ne _ _ (by omega)
  unfold aTick
  split
  · generalize (if (up a 0 (a 0 + 1)) 5 = -6 then aBegin (up a 0 (a 0 + 1)) else up a 0 (a 0 + 1)) = f at h2 h3 h36 eM ⊢
    have hNf := h2.2.1
    unfold aN at hNf
    unfold aTick2
    by_cases c1 : f 5 = -6
    · rw [if_pos c1, if_pos rfl]
      dsimp only
      omega
    · rw [if_neg c1]
      have hg : aI 21 (up f 6 (f 6 + 1)) := aI_num1 h2 (Or.inr rfl) (by omega) (by omega) (by omega)
      have e5 : up f 6 (f 6 + 1) 5 = f 5 := up_ne _ _ (by omega)
      have e9 : up f 6 (f 6 + 1) 9 = f 9 := up_ne _ _ (by omega)
      split
      · dsimp only
        try rw [if_neg c1]
        obtain ⟨w0, ⟨w1, w2, w3⟩, wk⟩ := aEnd_facts (c := 0) hg (by omega) (by omega)
        have hNg := hg.2.1
        unfold aN at hNg
        obtain ⟨⟨i1, i2, i3, i4, i5, i6, i7⟩, -, -⟩ := wk (up f 6 (f 6 + 1) 2).toNat (by omega)
        have hi := i6 9 (by omega) (by omega) (by omega) (by omega)
        have e21 : aEnd1 (up f 6 (f 6 + 1)) = eLoop (up f 6 (f 6 + 1) 5) (aEnd0 (up f 6 (f 6 + 1))) (up f 6 (f 6 + 1) 2).toNat := rfl
        rw [← e21] at hi i1
        unfold aEnd
        rw [zr0_ne _ _ _ (by omega) (by omega), up_ne _ _ (by omega), hi, aEnd0_lo _ (by omega) (by omega) (by omega), if_pos rfl]
        omega
      · dsimp only
        rw [if_pos rfl]
        omega
  · dsimp only
    rw [if_pos rfl, up_ne _ _ (by omega), up_ne _ _ (by omega)]
    omega
theorem aTicks_9 (h : aI 0 a) : ∀ n : Nat, a 0 + n ≤ 110000 → aTicks a n 9 = a 9 + zsum (aEnds a) n := by
  intro n
  induction n with
  | zero => intro _; show a 9 = a 9 + 0; omega
  | succ n ih =>
    intro hn
    obtain ⟨h1, h2⟩ := aTicks_I h n (by omega)
    have h3 := aTick_9 h1 (by omega)
    show (aTick (aTicks a n)).2 9 = a 9 + (zsum (aEnds a) n + aEnds a n)
    rw [h3, ih (by omega)]
    unfold aEnds
    omega
theorem c_copyFrom {d e : tX1} (hN : 0 ≤ a 2 ∧ a 2 ≤ 20) (h8 : a 8 ≤ 6) (hR : dR e a) : ∃ d' : tX1, q_X1_copyFrom d e = some d' ∧ dR d' a := by
  obtain ⟨q1, q2, q3, q4, q5, n1, n2, n3, n4, n5, n6, n7, n8, n9, n10, n11, n12⟩ := hR
  have cp : ∀ (f g : Nat → Int32) (n k : Nat), k < n → va_cpy f g 0 0 n k = f k := fun f g n k hk => by
    unfold va_cpy
    rw [if_pos (by omega)]
    congr 1
    omega
  refine ⟨_, rfl, fun k hk => ?_, fun k hk => ?_, ⟨fun k hk => ?_, q3.2⟩, ⟨fun k hk => ?_, q4.2⟩, ⟨fun k hk => ?_, q5.2⟩, n1, n2, n3, n4, n5, n6, n7, n8, n9, n10, n11, n12⟩
  · exact (cp e.1 d.1 5 k hk).trans (q1 k hk)
  · exact (cp e.2.1 d.2.1 8 k hk).trans (q2 k hk)
  · exact ⟨(cp e.2.2.1.1 _ 20 k (by omega)).trans (q3.1 k hk).1, (cp e.2.2.1.2.1 _ 20 k (by omega)).trans (q3.1 k hk).2⟩
  · exact (cp e.2.2.2.1.1 _ 6 k (by omega)).trans (q4.1 k hk)
  · exact ⟨(cp e.2.2.2.2.1.1 _ 10 k hk).trans (q5.1 k hk).1, (cp e.2.2.2.2.1.2.1 _ 10 k hk).trans (q5.1 k hk).2.1, (cp e.2.2.2.2.1.2.2.1 _ 10 k hk).trans (q5.1 k hk).2.2⟩
theorem c_isOverdue {d : tX1} {k : Nat} {c : Int} (h : aI c a) (hk : k < 8) (hR : dR d a) : q_X1_isOverdue d (zI k) = some (if a 19 < aAge a k then 1 else 0) := by
  have hN := h.2.1
  unfold aN at hN
  have hS := h.2.2.1 k hk
  unfold q_X1_isOverdue
  rw [c_ageOf hk hR, zb_some, hR.1 4 (by omega)]
  simp only [show (zI (aAge a k) ≤ zI (a (15 + 4))) = _ from propext (zI_le (x := aAge a k) (y := a 19) (zr_s (by unfold aAge; omega)) (h.1 19))]
  split
  · rw [if_neg (by omega)]
  · rw [if_pos (by omega)]
theorem c_overdueSpans {d : tX1} {c : Int} (h : aI c a) (hR : dR d a) : q_X1_overdueSpans d = some (zI (aOver a)) := by
  unfold q_X1_overdueSpans aOver
  rw [zl_run (fun k => (zI (zsum (gOver a) k), zI k)) (a := ((0 : Int32), (0 : Int32))) (b := zI (zsum (gOver a) 8)) 8 rfl (by omega) ?_ ?_, zb_some]
  · intro k hk
    unfold q_X1_overdueSpans_L4
    dsimp only
    rw [if_neg (show ¬ (8 : Int32) ≤ zI k from zle_n (x := 8) (zr_s (by omega)) (zr_s (by omega)) (by omega)), c_isOverdue h hk hR, zb_some, zI_1]
    show _ = some (Sum.inl (zI (zsum (gOver a) k + gOver a k), _))
    unfold gOver aAge
    by_cases c1 : a 19 < a 0 - a (20 + k)
    · rw [if_pos c1, if_neg (by decide), zI_a1, if_pos c1]
    · rw [if_neg c1, if_pos rfl, if_neg c1, Int.add_zero]
  · unfold q_X1_overdueSpans_L4
    dsimp only
    rw [if_pos (show (8 : Int32) ≤ zI (8 : Nat) from zle_p (x := 8) (zr_s (by omega)) (zr_s (by omega)) (by omega))]
end PC5
