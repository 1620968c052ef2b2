/-! the law's tick -/
section PZ3
variable {a b d : Nat → Int} {q t l p e w : Nat → Int32}
theorem aEnd_lo (h : aI 21 a) (h5 : 0 ≤ a 5 ∧ a 5 ≤ 7) {i : Nat} (hi : i < 34) (h2 : i ≠ 2) (h3 : i ≠ 3) (h11 : i ≠ 11) (h14 : i ≠ 14) : aEnd a i = aEnd0 a i := by
  have hN0 := h.2.1
  unfold aN at hN0
  obtain ⟨g0, -, hk⟩ := aEnd_facts (c := 0) h (by omega) h5
  obtain ⟨⟨i1, i2, i3, i4, i5, i6, i7⟩, i8, i9⟩ := hk (a 2).toNat (by omega)
  have eA : aEnd a = zr0 (up (eLoop (a 5) (aEnd0 a) (a 2).toNat).2 2 (eLoop (a 5) (aEnd0 a) (a 2).toNat).1) (eLoop (a 5) (aEnd0 a) (a 2).toNat).1 ((a 2).toNat - (eLoop (a 5) (aEnd0 a) (a 2).toNat).1) := rfl
  rw [eA, zr0_ne _ _ _ (by omega) (by omega), up_ne _ _ h2]
  exact i6 i hi h3 h11 h14
theorem j_107 (h : aI 21 d) (h5 : 0 ≤ d 5 ∧ d 5 ≤ 7) (h6 : d 6 < d 0) (hQ : vQ w d) (hT : vT t d) (hL : vL l d) (hP : vP p d) : ∃ q' t' p' e', q_L_tick_J107 t p w l e = some (zI (aTick2 d).1, q', t', l, p', e') ∧ vQ q' (aTick2 d).2 ∧ vT t' (aTick2 d).2 ∧ vL l (aTick2 d).2 ∧ vP p' (aTick2 d).2 ∧ (vE e d → vE e' (aTick2 d).2) := by
  have hN := h.2.1
  unfold aN at hN
  obtain ⟨f, hf⟩ : ∃ f, f = up d 6 (d 6 + 1) := ⟨_, rfl⟩
  have ef : ∀ i, i ≠ 6 → f i = d i := fun i hi => by rw [hf]; exact up_ne _ _ hi
  have ef6 : f 6 = d 6 + 1 := by rw [hf]; exact up_at _ _ _
  have hI : aI 21 f := by
    rw [hf]
    exact aI_num1 h (Or.inr rfl) (by omega) (by omega) (by omega)
  have hs : vQ (upd w 6 (w 6 + 1)) f := by
    rw [hQ 6 (by omega), zI_a1, hf]
    exact vQ_up hQ
  have hTk : aTick2 d = if f 7 ≤ f 6 then (d 5, aEnd f) else (-6, f) := by
    unfold aTick2
    rw [if_neg (by omega), ← hf]
  have f5 := ef 5 (by omega)
  have hNf := hI.2.1
  unfold aN at hNf
  rw [hTk]
  unfold q_L_tick_J107 zn
  generalize upd w 6 (w 6 + 1) = s at hs
  dsimp only
  by_cases c1 : f 7 ≤ f 6
  · rw [if_pos (show s 7 ≤ s 6 by rw [hs 7 (by omega), hs 6 (by omega)]; exact zle_p (hI.1 7) (hI.1 6) c1), if_pos c1]
    obtain ⟨sp, hsp⟩ : ∃ sp : Nat, sp = (f 5).toNat := ⟨_, rfl⟩
    have esp : f 5 = (sp : Int) := by omega
    obtain ⟨X, hX⟩ : ∃ X, X = up (up (up (aStop f) (20 + (f 5).toNat) (f 0)) 13 (f 5)) 9 (f 9 + 1) := ⟨_, rfl⟩
    have xe : ∀ i, i ≠ 5 → i ≠ 6 → i ≠ 7 → i ≠ 20 + (f 5).toNat → i ≠ 13 → i ≠ 9 → X i = f i := fun i u1 u2 u3 u4 u5 u6 => by
      rw [hX, up_ne _ _ u6, up_ne _ _ u5, up_ne _ _ u4]
      exact (aStop_e f).2.2.2 i u1 u2 u3
    have hsX : vQ (upd (upd (upd (upd (upd s 5 (-6)) 6 0) 7 0) 9 (upd (upd (upd s 5 (-6)) 6 0) 7 0 9 + 1)) 13 (s 5)) X := fun i hi => by
      obtain ⟨z5, z6', z7, z8⟩ := aStop_e f
      by_cases d13 : i = 13
      · rw [d13, upd_at, hX, up_ne _ _ (by omega), up_at]
        exact hs 5 (by omega)
      · rw [upd_ne' _ _ d13]
        by_cases d9 : i = 9
        · rw [d9, upd_at, upd_ne' _ _ (by omega), upd_ne' _ _ (by omega), upd_ne' _ _ (by omega), hs 9 (by omega), zI_a1, hX, up_at]
        · rw [upd_ne' _ _ d9]
          have e1 : X i = aStop f i := by rw [hX, up_ne _ _ d9, up_ne _ _ d13, up_ne _ _ (by omega)]
          rw [e1]
          by_cases d7 : i = 7
          · rw [d7, upd_at, z7]
            rfl
          · rw [upd_ne' _ _ d7]
            by_cases d6 : i = 6
            · rw [d6, upd_at, z6']
              rfl
            · rw [upd_ne' _ _ d6]
              by_cases d5 : i = 5
              · rw [d5, upd_at, z5, z6]
              · rw [upd_ne' _ _ d5, z8 i d5 d6 d7]
                exact hs i hi
    have x14 : X 14 = f 14 := xe 14 (by omega) (by omega) (by omega) (by omega) (by omega) (by omega)
    have x0 : X 0 = f 0 := xe 0 (by omega) (by omega) (by omega) (by omega) (by omega) (by omega)
    have eX : aLogs X 3 (f 5) = aEnd0 f := by rw [hX]; rfl
    generalize hs9 : upd (upd (upd (upd (upd s 5 (-6)) 6 0) 7 0) 9 (upd (upd (upd s 5 (-6)) 6 0) 7 0 9 + 1)) 13 (s 5) = s9 at hsX
    obtain ⟨e', r1, r2⟩ := j_log (a := X) (q := s9) (e := e) (k := 3) (s := f 5) (hsX 14 (by omega)) (hsX 0 (by omega)) (by omega)
    have hl14 := vQ_logs (k := 3) (s := f 5) hsX
    rw [eX] at hl14 r2
    have el : ∀ i, i < 74 → i ≠ 14 → i ≠ 9 → i ≠ 13 → (i < 20 ∨ 28 ≤ i) → i ≠ 7 → i ≠ 6 → i ≠ 5 → aEnd0 f i = f i := fun i u1 u2 u3 u4 u5 u6 u7 u8 => by
      rw [aEnd0_lo f (by omega) u1 u2, if_neg u3, if_neg u4, if_neg (by omega), if_neg u6, if_neg u7, if_neg u8]
    obtain ⟨bb, k1, k2, k3, k4⟩ := j_eloop (a := f) (F := vE e d) (s := s) (x := (0, upd s9 14 (zI (X 14 + 1)), p, e')) hI (by omega) (hs 5 (by omega)) ⟨rfl, fun i hi _ => hl14 i hi, by
      show upd s9 14 (zI (X 14 + 1)) 2 = _
      rw [hl14 2 (by omega), el 2 (by omega) (by omega) (by omega) (by omega) (by omega) (by omega) (by omega) (by omega)]
      congr 1
      show f 2 = ((0 + ((f 2).toNat - 0) : Nat) : Int)
      omega, fun j hj => absurd hj (Nat.not_lt_zero j), fun j hj => by
      show p (0 + j) = _
      rw [Nat.zero_add, el _ (by omega) (by omega) (by omega) (by omega) (by omega) (by omega) (by omega) (by omega), el _ (by omega) (by omega) (by omega) (by omega) (by omega) (by omega) (by omega) (by omega), ef _ (by omega), ef _ (by omega)]
      exact hP j (by rw [← ef 2 (by omega)]; omega), fun hF => r2 (vE_of hF (by omega) (by rw [x14, ef 14 (by omega)]) (fun i u1 u2 => by rw [xe i (by omega) (by omega) (by omega) (by omega) (by omega) (by omega), ef i (by omega)]))⟩
    rw [hs 5 (by omega), esp, zs_N (by omega) (by omega), ← esp, show q_L_log s9 e 3 (zI (f 5)) = _ from r1, zb_some]
    dsimp only
    rw [k1, zb_some]
    refine ⟨bb.1, upd t sp (s 0), bb.2.1, bb.2.2, by rw [← f5], k2, fun k hk => ?_, fun k hk => ?_, k3, k4⟩
    · rw [aEnd_lo hI (by omega) (by omega) (by omega) (by omega) (by omega) (by omega), aEnd0_lo f (by omega) (by omega) (by omega), if_neg (by omega), if_neg (by omega)]
      by_cases c2 : k = sp
      · rw [c2, upd_at, if_pos (by omega), hs 0 (by omega)]
      · rw [upd_ne' _ _ c2, if_neg (by omega), if_neg (by omega), if_neg (by omega), if_neg (by omega), hT k hk, ef _ (by omega)]
    · rw [aEnd_lo hI (by omega) (by omega) (by omega) (by omega) (by omega) (by omega), el 8 (by omega) (by omega) (by omega) (by omega) (by omega) (by omega) (by omega) (by omega)] at hk
      rw [aEnd_lo hI (by omega) (by omega) (by omega) (by omega) (by omega) (by omega), el _ (by omega) (by omega) (by omega) (by omega) (by omega) (by omega) (by omega) (by omega), ef _ (by omega)]
      exact hL k (by rw [← ef 8 (by omega)]; exact hk)
  · rw [if_neg (show ¬ s 7 ≤ s 6 by rw [hs 7 (by omega), hs 6 (by omega)]; exact zle_n (hI.1 7) (hI.1 6) (by omega)), if_neg c1]
    refine ⟨s, t, p, e, by rw [z6], hs, vT_of hT (fun k hk => ef _ (by omega)), vL_of hL (ef 8 (by omega)) (by omega) (fun k hk => ef _ (by omega)), vP_of hP (ef 2 (by omega)) (by omega) (fun i u1 u2 => ef i (by omega)), fun hF => vE_of hF (by omega) (ef 14 (by omega)) (fun i u1 u2 => ef i (by omega))⟩
theorem j_63 {n : Int} (h : aI 22 a) (hn : 0 ≤ n ∧ n ≤ 7) (h6 : 0 < a 0) (hnx : aNext a = n) (hQ : vQ w (if a 8 ≤ 0 then a else aTake a 0)) (hT : vT t a) (hL : vL l (if a 8 ≤ 0 then a else aTake a 0)) (hP : vP p a) : ∃ q' t' p' e', q_L_tick_J63 t p e (zI n) w l = some (zI (aTick2 (aBegin a)).1, q', t', l, p', e') ∧ vQ q' (aTick2 (aBegin a)).2 ∧ vT t' (aTick2 (aBegin a)).2 ∧ vL l (aTick2 (aBegin a)).2 ∧ vP p' (aTick2 (aBegin a)).2 ∧ (vE e a → vE e' (aTick2 (aBegin a)).2) := by
  have hN := h.2.1
  unfold aN at hN
  obtain ⟨B, hB⟩ : ∃ B, B = (if a 8 ≤ 0 then a else aTake a 0) := ⟨_, rfl⟩
  have hBe : ∀ i, i ≠ 8 → (i < 28 ∨ 34 ≤ i) → B i = a i := fun i u1 u2 => by
    rw [hB]
    split
    · rfl
    · exact aTake_ne a 0 (by omega) (by omega) u1 u2
  have hB8 : 0 ≤ B 8 ∧ B 8 ≤ 6 := by
    rw [hB]
    split
    · omega
    · rw [aTake_8]
      omega
  rw [← hB] at hQ hL
  obtain ⟨i1, i14, i0, i16, i17, i18⟩ := aBeg1_I (c := 22) (s := n) h hn
  have e1 : aBeg1 a n = up (up B 5 n) 6 0 := by rw [hB]; rfl
  have hs72 : vQ (upd (upd w 5 (zI n)) 6 0) (aBeg1 a n) := by
    rw [e1]
    exact vQ_up (x := 0) (vQ_up hQ)
  have b1 : ∀ i, i ≠ 5 → i ≠ 6 → aBeg1 a n i = B i := fun i u1 u2 => by rw [e1, up_ne _ _ u2, up_ne _ _ u1]
  have hN1 := i1.2.1
  unfold aN at hN1
  have hP1 : vP p (aBeg1 a n) := vP_of hP (by rw [b1 2 (by omega) (by omega), hBe 2 (by omega) (by omega)]) (by omega) (fun i u1 u2 => by rw [b1 i (by omega) (by omega), hBe i (by omega) (by omega)])
  have hb2 : ∀ i, i ≠ 7 → aBeg2 a n i = aBeg1 a n i := fun i u1 => up_ne _ _ u1
  have eb : aBegin a = aLogs (aBeg2 a n) 1 n := by
    unfold aBegin
    rw [hnx, if_neg (by omega)]
  have hI := aI_begin (c := 21) h (by omega)
  have h66 := aBegin_6 a
  unfold q_L_tick_J63 zn
  dsimp only
  generalize upd (upd w 5 (zI n)) 6 0 = s at hs72
  rw [hs72 18 (by omega), j_sum i1 (zr_s (by omega)) (i1.1 18) hs72 hP1, zb_some, hs72 16 (by omega), hs72 17 (by omega), zI_mul, zI_add]
  have hs97 : vQ (upd s 7 (zI (aBeg1 a n 16 + aBeg1 a n 17 * aSum (aBeg1 a n) n (aBeg1 a n 18)))) (aBeg2 a n) := vQ_up hs72
  generalize upd s 7 (zI (aBeg1 a n 16 + aBeg1 a n 17 * aSum (aBeg1 a n) n (aBeg1 a n 18))) = s9 at hs97
  obtain ⟨e', r1, r2⟩ := j_log (a := aBeg2 a n) (q := s9) (e := e) (k := 1) (s := n) (hs97 14 (by omega)) (hs97 0 (by omega)) (by rw [hb2 14 (by omega)]; omega)
  rw [show q_L_log s9 e 1 (zI n) = _ from r1, zb_some]
  dsimp only
  have hq := vQ_logs (k := 1) (s := n) hs97
  rw [← eb] at hq r2
  have be : ∀ i, i < 74 → i ≠ 14 → i ≠ 5 → i ≠ 6 → i ≠ 7 → aBegin a i = B i := fun i u1 u2 u3 u4 u5 => by rw [eb, aLogs_lo _ _ _ u1 u2, hb2 i u5, b1 i u3 u4]
  have be5 : aBegin a 5 = n := by rw [eb, aLogs_lo _ _ _ (by omega) (by omega), hb2 5 (by omega), e1, up_ne _ _ (by omega), up_at]
  have be6 : aBegin a 6 = 0 := by rw [eb, aLogs_lo _ _ _ (by omega) (by omega), hb2 6 (by omega), e1, up_at]
  obtain ⟨q', t', p', e2, k1, k2, k3, k4, k5, k6⟩ := j_107 (d := aBegin a) (w := upd s9 14 (zI (aBeg2 a n 14 + 1))) (t := t) (l := l) (p := p) (e := e') hI.1 (by omega) (by rw [hI.2]; omega) hq (vT_of hT (fun k hk => by rw [be _ (by omega) (by omega) (by omega) (by omega) (by omega), hBe _ (by omega) (by omega)])) (vL_of hL (be 8 (by omega) (by omega) (by omega) (by omega) (by omega)) (by omega) (fun k hk => be _ (by omega) (by omega) (by omega) (by omega) (by omega))) (vP_of hP (by rw [be 2 (by omega) (by omega) (by omega) (by omega) (by omega), hBe 2 (by omega) (by omega)]) (by omega) (fun i u1 u2 => by rw [be i (by omega) (by omega) (by omega) (by omega) (by omega), hBe i (by omega) (by omega)]))
  refine ⟨q', t', p', e2, k1, k2, k3, k4, k5, fun hF => k6 (r2 (vE_of hF (by omega) ?_ (fun i u1 u2 => ?_)))⟩
  · rw [hb2 14 (by omega), b1 14 (by omega) (by omega), hBe 14 (by omega) (by omega)]
  · rw [hb2 i (by omega), b1 i (by omega) (by omega), hBe i (by omega) (by omega)]
theorem j_tick (h : aI 0 a) (h0 : a 0 < 110000) (hQ : vQ q a) (hT : vT t a) (hL : vL l a) (hP : vP p a) : ∃ q' t' l' p' e', q_L_tick q t l p e = some (zI (aTick a).1, q', t', l', p', e') ∧ vQ q' (aTick a).2 ∧ vT t' (aTick a).2 ∧ vL l' (aTick a).2 ∧ vP p' (aTick a).2 ∧ (vE e a → vE e' (aTick a).2) := by
  have hN0 := h.2.1
  unfold aN at hN0
  have hI := aI_t0 h h0
  obtain ⟨m1, m2, m3⟩ := aMid h h0
  have hs : vQ (upd q 0 (q 0 + 1)) (up a 0 (a 0 + 1)) := by
    rw [hQ 0 (by omega), zI_a1]
    exact vQ_up hQ
  have e1 : ∀ i, i ≠ 0 → up a 0 (a 0 + 1) i = a i := fun i hi => up_ne _ _ hi
  have e0 : up a 0 (a 0 + 1) 0 = a 0 + 1 := up_at _ _ _
  replace hT : vT t (up a 0 (a 0 + 1)) := vT_of hT (fun k hk => e1 _ (by omega))
  replace hL : vL l (up a 0 (a 0 + 1)) := vL_of hL (e1 8 (by omega)) (by omega) (fun k hk => e1 _ (by omega))
  replace hP : vP p (up a 0 (a 0 + 1)) := vP_of hP (e1 2 (by omega)) (by omega) (fun i u1 u2 => e1 i (by omega))
  have hE : vE e a → vE e (up a 0 (a 0 + 1)) := fun hF => vE_of hF (by omega) (e1 14 (by omega)) (fun i u1 u2 => e1 i (by omega))
  unfold q_L_tick zn aTick
  generalize upd q 0 (q 0 + 1) = s at hs
  generalize up a 0 (a 0 + 1) = f at hI m1 m2 m3 hs e1 e0 hT hL hP hE ⊢
  have hN := hI.2.1
  unfold aN at hN
  dsimp only
  by_cases c1 : f 15 ≤ f 1
  · rw [if_pos (show s 15 ≤ s 1 by rw [hs 15 (by omega), hs 1 (by omega)]; exact zle_p (hI.1 15) (hI.1 1) c1), if_pos c1]
    by_cases c2 : f 5 = -6
    · rw [if_neg (show ¬ 0 ≤ s 5 by rw [hs 5 (by omega)]; exact zle_n (x := 0) (zr_s (by omega)) (hI.1 5) (by omega)), if_pos c2, j_next hI hs hT hL hP, zb_some]
      have hnb := aNext_b hI
      by_cases c3 : aNext f = -6
      · rw [if_neg (show ¬ 0 ≤ zI (aNext f) from zle_n (x := 0) (zr_s (by omega)) (zr_s (by omega)) (by omega))]
        have eb : aTick2 (aBegin f) = (-6, f) := by
          unfold aBegin
          rw [if_pos c3]
          unfold aTick2
          rw [if_pos c2]
        rw [eb]
        exact ⟨s, t, l, p, e, by rw [z6], hs, hT, hL, hP, hE⟩
      · rw [if_pos (show 0 ≤ zI (aNext f) from zle_p (x := 0) (zr_s (by omega)) (zr_s (by omega)) (by omega))]
        by_cases c4 : f 8 ≤ 0
        · rw [if_pos (show s 8 ≤ 0 by rw [hs 8 (by omega)]; exact zle_p (y := 0) (hI.1 8) (zr_s (by omega)) c4)]
          obtain ⟨q', t', p', e', k1, k2, k3, k4, k5, k6⟩ := j_63 (a := f) (w := s) (t := t) (l := l) (p := p) (e := e) (n := aNext f) hI (by omega) (by omega) rfl (by rw [if_pos c4]; exact hs) hT (by rw [if_pos c4]; exact hL) hP
          exact ⟨q', t', l, p', e', k1, k2, k3, k4, k5, fun hF => k6 (hE hF)⟩
        · rw [if_neg (show ¬ s 8 ≤ 0 by rw [hs 8 (by omega)]; exact zle_n (y := 0) (hI.1 8) (zr_s (by omega)) (by omega))]
          obtain ⟨l', r1, r2⟩ := j_drop (n := 0) hI (by omega) hs hL
          rw [show q_L_drop s l 0 = _ from r1, zb_some]
          dsimp only
          obtain ⟨q', t', p', e', k1, k2, k3, k4, k5, k6⟩ := j_63 (a := f) (w := upd s 8 (zI (f 8 - 1))) (t := t) (l := l') (p := p) (e := e) (n := aNext f) hI (by omega) (by omega) rfl (by rw [if_neg c4]; exact vQ_take hI (by omega) hs) hT (by rw [if_neg c4]; exact r2) hP
          exact ⟨q', t', l', p', e', k1, k2, k3, k4, k5, fun hF => k6 (hE hF)⟩
    · rw [if_pos (show 0 ≤ s 5 by rw [hs 5 (by omega)]; exact zle_p (x := 0) (zr_s (by omega)) (hI.1 5) (by omega)), if_neg c2]
      rw [if_neg c2] at m1 m2 m3
      obtain ⟨q', t', p', e', k1, k2, k3, k4, k5, k6⟩ := j_107 (d := f) (w := s) (t := t) (l := l) (p := p) (e := e) m1 (by omega) (by omega) hs hT hL hP
      exact ⟨q', t', l, p', e', k1, k2, k3, k4, k5, fun hF => k6 (hE hF)⟩
  · rw [if_neg (show ¬ s 15 ≤ s 1 by rw [hs 15 (by omega), hs 1 (by omega)]; exact zle_n (hI.1 15) (hI.1 1) (by omega)), if_neg c1, hs 1 (by omega), zI_a1]
    have e2 : ∀ i, i ≠ 1 → up f 1 (f 1 + 1) i = f i := fun i hi => up_ne _ _ hi
    exact ⟨_, t, l, p, e, by rw [z6], vQ_up hs, vT_of hT (fun k hk => e2 _ (by omega)), vL_of hL (e2 8 (by omega)) (by omega) (fun k hk => e2 _ (by omega)), vP_of hP (e2 2 (by omega)) (by omega) (fun i u1 u2 => e2 i (by omega)), fun hF => vE_of (hE hF) (by omega) (e2 14 (by omega)) (fun i u1 u2 => e2 i (by omega))⟩
end PZ3
