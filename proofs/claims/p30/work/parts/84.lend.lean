/-! the law's end of a check -/
section PZ2
variable {a b : Nat → Int} {q t l p e : Nat → Int32}
theorem vQ_up {k : Nat} {x : Int} (h : vQ q a) : vQ (upd q k (zI x)) (up a k x) := fun i hi => by
  by_cases c : i = k
  · rw [c, upd_at, up_at]
  · rw [upd_ne' _ _ c, up_ne _ _ c, h i hi]
theorem vT_of (h : vT t a) (e : ∀ k, k < 8 → b (20 + k) = a (20 + k)) : vT t b := fun k hk => by rw [e k hk]; exact h k hk
theorem vL_of (h : vL l a) (e8 : b 8 = a 8) (h8 : a 8 ≤ 6) (e : ∀ k, k < 6 → b (28 + k) = a (28 + k)) : vL l b := fun k hk => by
  rw [e8] at hk
  rw [e k (by omega)]
  exact h k hk
theorem vP_of (h : vP p a) (e2 : b 2 = a 2) (h2 : a 2 ≤ 20) (e : ∀ i, 34 ≤ i → i < 74 → b i = a i) : vP p b := fun k hk => by
  rw [e2] at hk
  rw [e _ (by omega) (by omega), e _ (by omega) (by omega)]
  exact h k hk
theorem vE_of (h : vE e a) (h0 : 0 ≤ a 14) (e14 : b 14 = a 14) (ee : ∀ i, 74 ≤ i → i < 104 → b i = a i) : vE e b := fun k hk c hc => by
  have hM : aMany b = aMany a := by unfold aMany; rw [e14]
  have hA : aAt b k = aAt a k := by unfold aAt; rw [hM, e14]
  rw [hM] at hk
  rw [h k hk c hc]
  unfold eV
  rw [hA, ee _ (by omega) (by have := (aAt_b h0 hk).1; omega)]
/-- the law in the midst of the loop over the spots -/
def vW (sp : Int) (N : Nat) (b : Nat → Int) (F : Prop) (k : Nat) (x : Int32 × (Nat → Int32) × (Nat → Int32) × (Nat → Int32)) : Prop :=
  x.1 = zI (eLoop sp b k).1 ∧ (∀ i, i < 20 → i ≠ 2 → x.2.1 i = zI ((eLoop sp b k).2 i)) ∧ x.2.1 2 = zI (((eLoop sp b k).1 + (N - k) : Nat) : Int) ∧ (∀ j, j < (eLoop sp b k).1 → x.2.2.1 j = zI (10 * (eLoop sp b k).2 (34 + 2 * j) + (eLoop sp b k).2 (34 + 2 * j + 1))) ∧ (∀ j, k + j < N → x.2.2.1 ((eLoop sp b k).1 + j) = zI (10 * b (34 + 2 * (k + j)) + b (34 + 2 * (k + j) + 1))) ∧ (F → vE x.2.2.2 (eLoop sp b k).2)
theorem j_shift {s : Nat → Int32} {w : Nat → Int32} {n m : Nat} (hs : s 2 = zI ((n + m : Nat) : Int)) (hm : n + m < 20) : zl 1000000 (q_L_tick_L284 s) (zI n, w) = some (fun i => if n ≤ i ∧ i < n + m then w (i + 1) else w i) := by
  refine zl_run (fun k => (zI ((n + k : Nat) : Int), fun i => if n ≤ i ∧ i < n + k then w (i + 1) else w i)) (a := (zI n, w)) (b := fun i => if n ≤ i ∧ i < n + m then w (i + 1) else w i) m ?_ (by omega) ?_ ?_
  · congr 1
    funext i
    rw [if_neg (by omega)]
  · intro k hk
    unfold q_L_tick_L284
    dsimp only
    rw [hs, if_neg (show ¬ zI ((n + m : Nat) : Int) ≤ zI ((n + k : Nat) : Int) from zle_n (zr_s (by omega)) (zr_s (by omega)) (by omega)), zI_1, zg_N (by omega) (by omega), zs_N (by omega) (by omega)]
    congr 3
    funext i
    unfold upd
    dsimp only
    by_cases c1 : i = n + k
    · subst c1
      rw [if_pos rfl, if_neg (by omega), if_pos (by omega)]
    · rw [if_neg c1]
      by_cases c2 : n ≤ i ∧ i < n + k
      · rw [if_pos c2, if_pos (by omega)]
      · rw [if_neg c2, if_neg (by omega)]
  · unfold q_L_tick_L284
    dsimp only
    rw [hs, if_pos (zle_p (zr_s (by omega)) (zr_s (by omega)) (by omega))]
theorem j_estep {sp : Int} {N k : Nat} {F : Prop} {s : Nat → Int32} {x : Int32 × (Nat → Int32) × (Nat → Int32) × (Nat → Int32)} (hsp : 0 ≤ sp ∧ sp ≤ 7) (hs : s 5 = zI sp) (hk : k < N) (hN : N ≤ 20)
    (hS : 0 ≤ b (34 + 2 * k) ∧ b (34 + 2 * k) ≤ 7) (hT : 1 ≤ b (34 + 2 * k + 1) ∧ b (34 + 2 * k + 1) ≤ 9)
    (i1 : (eLoop sp b k).1 ≤ k) (i3 : 0 ≤ (eLoop sp b k).2 14 ∧ (eLoop sp b k).2 14 < 3000000) (i4 : 0 ≤ (eLoop sp b k).2 3 ∧ (eLoop sp b k).2 3 ≤ 50) (i5 : 2 ≤ (eLoop sp b k).2 18 ∧ (eLoop sp b k).2 18 ≤ 9) (i7 : ∀ i, 34 + 2 * k ≤ i → i < 74 → (eLoop sp b k).2 i = b i)
    (hx : vW sp N b F k x) : ∃ y, q_L_tick_L182 s x = some (Sum.inl y) ∧ vW sp N b F (k + 1) y := by
  obtain ⟨x1, qq, pp, ee⟩ := x
  obtain ⟨h1, h2, h3, h4, h5, h6⟩ := hx
  have ek : eLoop sp b (k + 1) = eStep sp k ((eLoop sp b k).1, (eLoop sp b k).2) := rfl
  unfold vW
  rw [ek]
  have e0 := i7 (34 + 2 * k) (by omega) (by omega)
  have e1 := i7 (34 + 2 * k + 1) (by omega) (by omega)
  generalize (eLoop sp b k).1 = n at *
  generalize (eLoop sp b k).2 = w at *
  dsimp only at h1 h2 h3 h4 h5 h6
  subst h1
  have hp := h5 0 (by omega)
  rw [Nat.add_zero, Nat.add_zero] at hp
  obtain ⟨S, hSe⟩ : ∃ S : Int, S = b (34 + 2 * k) := ⟨_, rfl⟩
  obtain ⟨T, hTe⟩ : ∃ T : Int, T = b (34 + 2 * k + 1) := ⟨_, rfl⟩
  rw [← hSe, ← hTe] at hp
  rw [← hSe] at hS e0
  rw [← hTe] at hT e1
  obtain ⟨v1, v2⟩ := pv hS (T := T) (by omega)
  have h18 := h2 18 (by omega) (by omega)
  have hq3 := h2 3 (by omega) (by omega)
  have hq14 := h2 14 (by omega) (by omega)
  have hq0 := h2 0 (by omega) (by omega)
  have hq11 := h2 11 (by omega) (by omega)
  -- the kept spot put in its place
  have put : ∀ (W : Nat → Int) (q' p' : Nat → Int32) (e' : Nat → Int32) (T' : Int), (∀ i, 34 ≤ i → i < 74 → W i = w i) → (∀ i, i < 20 → i ≠ 2 → q' i = zI (W i)) → q' 2 = qq 2 → p' n = zI (10 * S + T') → (∀ j, j ≠ n → p' j = pp j) → 0 ≤ W 14 → (F → vE e' W) →
      zI (n : Nat) + 1 = zI ((n + 1 : Nat) : Int) ∧ (∀ i, i < 20 → i ≠ 2 → q' i = zI (ePut W n S T' i)) ∧ q' 2 = zI ((n + 1 + (N - (k + 1)) : Nat) : Int) ∧ (∀ j, j < n + 1 → p' j = zI (10 * ePut W n S T' (34 + 2 * j) + ePut W n S T' (34 + 2 * j + 1))) ∧ (∀ j, k + 1 + j < N → p' (n + 1 + j) = zI (10 * b (34 + 2 * (k + 1 + j)) + b (34 + 2 * (k + 1 + j) + 1))) ∧ (F → vE e' (ePut W n S T')) := by
    intro W q' p' e' T' w1 w2 w3 w4 w5 w6 w7
    refine ⟨zI_1 n, fun i hi h9 => by rw [ePut_ne (by omega)]; exact w2 i hi h9, ?_, fun j hj => ?_, fun j hj => ?_, fun hF => vE_of (w7 hF) w6 (ePut_ne (by omega)) (fun i h1 h2 => ePut_ne (by omega))⟩
    · rw [w3, h3]
      congr 2
      omega
    · by_cases c : j = n
      · rw [c, w4, ePut_0, ePut_1]
      · rw [w5 j c, h4 j (by omega), ePut_ne (by omega), ePut_ne (by omega), w1 _ (by omega) (by omega), w1 _ (by omega) (by omega)]
    · rw [w5 _ (by omega), show n + 1 + j = n + (1 + j) by omega, h5 (1 + j) (by omega), show k + (1 + j) = k + 1 + j by omega]
  unfold q_L_tick_L182 eStep
  dsimp only
  rw [if_neg (show ¬ qq 2 ≤ zI n by rw [h3]; exact zle_n (zr_s (by omega)) (zr_s (by omega)) (by omega)), zg_N (by omega) (by omega), hp, v1, hs]
  by_cases c1 : S = sp
  · rw [if_pos (show zI S = zI sp by rw [c1]), if_pos (show w (34 + 2 * k) = sp by rw [e0]; exact c1), zg_N (by omega) (by omega), hp, v2]
    by_cases c2 : w 18 ≤ T
    · rw [if_pos (show qq 18 ≤ zI T by rw [h18]; exact zle_p (zr_s (by omega)) (zr_s (by omega)) c2), if_pos (show w 18 ≤ w (34 + 2 * k + 1) by rw [e1]; exact c2)]
      by_cases c3 : 0 < w 3
      · rw [if_neg (show ¬ qq 3 ≤ 0 by rw [hq3]; exact zle_n (y := 0) (zr_s (by omega)) (zr_s (by omega)) c3), if_pos c3]
        obtain ⟨e', r1, r2⟩ := j_log (a := w) (q := qq) (e := ee) (k := 4) (s := sp) hq14 hq0 i3
        unfold q_L_tick_J241
        dsimp only
        rw [hs, show q_L_log qq ee 4 (zI sp) = _ from r1, zb_some]
        dsimp only
        have f3 : upd qq 14 (zI (w 14 + 1)) 3 = zI (w 3) := by rw [upd_ne' _ _ (by omega)]; exact hq3
        have f11 : upd (upd qq 14 (zI (w 14 + 1))) 3 (zI (w 3) - 1) 11 = zI (w 11) := by rw [upd_ne' _ _ (by omega), upd_ne' _ _ (by omega)]; exact hq11
        have f2 : upd (upd (upd qq 14 (zI (w 14 + 1))) 3 (zI (w 3) - 1)) 11 (zI (w 11) + 1) 2 = zI ((n + (N - k) : Nat) : Int) := by rw [upd_ne' _ _ (by omega), upd_ne' _ _ (by omega), upd_ne' _ _ (by omega)]; exact h3
        unfold zn
        dsimp only
        rw [if_neg (show ¬ upd qq 14 (zI (w 14 + 1)) 3 = 0 by rw [f3]; exact zeq_n (y := 0) (zr_s (by omega)) (zr_s (by omega)) (by omega)), f3, f11, f2]
        have f22 : zI ((n + (N - k) : Nat) : Int) - 1 = zI ((n + (N - (k + 1)) : Nat) : Int) := by
          rw [show (1 : Int32) = zI 1 from rfl, zI_sub]
          congr 1
          omega
        rw [f22, j_shift (n := n) (m := N - (k + 1)) (upd_at _ _ _) (by omega), zb_some]
        refine ⟨_, rfl, ?_⟩
        dsimp only
        have eR : ∀ i, i ≠ 3 → i ≠ 11 → eRep w sp i = aLogs w 4 sp i := fun i u1 u2 => by
          unfold eRep
          rw [up_ne _ _ u2, up_ne _ _ u1]
        have eR3 : eRep w sp 3 = w 3 - 1 := by
          unfold eRep
          rw [up_ne _ _ (by omega), up_at]
        have eR11 : eRep w sp 11 = w 11 + 1 := up_at _ _ _
        refine ⟨?_, fun i hi h9 => ?_, upd_at _ _ _, fun j hj => ?_, fun j hj => ?_, fun hF => ?_⟩
        · rw [zm1, zI_add, show (1 : Int32) = zI 1 from rfl, zI_add]
          congr 1
          omega
        · rw [upd_ne' _ _ h9]
          by_cases d1 : i = 11
          · rw [d1, upd_at, eR11, zI_a1]
          · rw [upd_ne' _ _ d1]
            by_cases d2 : i = 3
            · rw [d2, upd_at, eR3]
              exact zI_sub _ 1
            · rw [upd_ne' _ _ d2, eR i d2 d1]
              by_cases d3 : i = 14
              · rw [d3, upd_at, aLogs_14]
              · rw [upd_ne' _ _ d3, aLogs_lo _ _ _ (by omega) d3]
                exact h2 i hi h9
        · rw [if_neg (by omega), eR _ (by omega) (by omega), eR _ (by omega) (by omega), aLogs_lo _ _ _ (by omega) (by omega), aLogs_lo _ _ _ (by omega) (by omega)]
          exact h4 j hj
        · rw [if_pos (by omega), show n + j + 1 = n + (1 + j) by omega, h5 (1 + j) (by omega), show k + (1 + j) = k + 1 + j by omega]
        · refine vE_of (r2 (h6 hF)) (by rw [aLogs_14]; omega) (eR 14 (by omega) (by omega)) (fun i u1 u2 => eR i (by omega) (by omega))
      · rw [if_pos (show qq 3 ≤ 0 by rw [hq3]; exact zle_p (y := 0) (zr_s (by omega)) (zr_s (by omega)) (by omega)), if_neg c3, e0, e1]
        obtain ⟨e', r1, r2⟩ := j_log (a := w) (q := qq) (e := ee) (k := 5) (s := sp) hq14 hq0 i3
        unfold q_L_tick_J241
        dsimp only
        rw [hs, show q_L_log qq ee 5 (zI sp) = _ from r1, zb_some]
        dsimp only
        have f3 : upd qq 14 (zI (w 14 + 1)) 3 = zI (w 3) := by rw [upd_ne' _ _ (by omega)]; exact hq3
        rw [if_pos (show upd qq 14 (zI (w 14 + 1)) 3 = 0 by rw [f3, show w 3 = 0 by omega]; rfl)]
        refine ⟨_, rfl, ?_⟩
        exact put (aLogs w 5 sp) (upd qq 14 (zI (w 14 + 1))) pp e' T (fun i u1 u2 => aLogs_lo _ _ _ u2 (by omega)) (fun i hi h9 => by
          by_cases d3 : i = 14
          · rw [d3, upd_at, aLogs_14]
          · rw [upd_ne' _ _ d3, aLogs_lo _ _ _ (by omega) d3]
            exact h2 i hi h9) (upd_ne' _ _ (by omega)) hp (fun j _ => rfl) (by rw [aLogs_14]; omega) (fun hF => r2 (h6 hF))
    · rw [if_neg (show ¬ qq 18 ≤ zI T by rw [h18]; exact zle_n (zr_s (by omega)) (zr_s (by omega)) (by omega)), if_neg (show ¬ w 18 ≤ w (34 + 2 * k + 1) by rw [e1]; exact c2), zg_N (by omega) (by omega), hp, zI_a1, zs_N (by omega) (by omega), e0, e1]
      refine ⟨_, rfl, ?_⟩
      exact put w qq (upd pp n (zI (10 * S + T + 1))) ee (T + 1) (fun i _ _ => rfl) h2 rfl (by rw [upd_at]; congr 1; omega) (fun j hj => upd_ne' _ _ hj) i3.1 h6
  · rw [if_neg (show ¬ zI S = zI sp from zeq_n (zr_s (by omega)) (zr_s (by omega)) c1), if_neg (show ¬ w (34 + 2 * k) = sp by rw [e0]; exact c1), e0, e1]
    refine ⟨_, rfl, ?_⟩
    exact put w qq pp ee T (fun i _ _ => rfl) h2 rfl hp (fun j _ => rfl) i3.1 h6
theorem j_eloop {F : Prop} {s : Nat → Int32} {x : Int32 × (Nat → Int32) × (Nat → Int32) × (Nat → Int32)} (h : aI 21 a) (h5 : 0 ≤ a 5 ∧ a 5 ≤ 7) (hs : s 5 = zI (a 5)) (hx : vW (a 5) (a 2).toNat (aEnd0 a) F 0 x) : ∃ bb, zl 1000000 (q_L_tick_L182 s) x = some bb ∧ vQ bb.1 (aEnd a) ∧ vP bb.2.1 (aEnd a) ∧ (F → vE bb.2.2 (aEnd a)) := by
  have hN0 := h.2.1
  unfold aN at hN0
  obtain ⟨g0, ⟨e2, e0, e5⟩, hk⟩ := aEnd_facts (c := 0) h (by omega) h5
  have hN := g0.2.1
  unfold aN at hN
  refine zl_rel (B := q_L_tick_L182 s) (vW (a 5) (a 2).toNat (aEnd0 a) F) (fun bb => vQ bb.1 (aEnd a) ∧ vP bb.2.1 (aEnd a) ∧ (F → vE bb.2.2 (aEnd a))) (a 2).toNat (fun k y hkN hy => ?_) (fun y hy => ?_) 1000000 0 x hx (by omega) (by omega)
  · obtain ⟨⟨i1, i2, i3, i4, i5, i6, i7⟩, i8, i9⟩ := hk k (by omega)
    have hp := g0.2.2.2.2.1 k (by omega)
    have e18 := i6 18 (by omega) (by omega) (by omega) (by omega)
    exact j_estep h5 hs hkN (by omega) hp.1 hp.2 i1 (by omega) (by omega) (by omega) i7 hy
  · obtain ⟨⟨i1, i2, i3, i4, i5, i6, i7⟩, i8, i9⟩ := hk (a 2).toNat (by omega)
    obtain ⟨y1, qq, pp, ee⟩ := y
    obtain ⟨h1, h2, h3, h4, h5', h6⟩ := hy
    dsimp only at h1 h2 h3 h4 h5' h6
    have eA : aEnd a = zr0 (up (eLoop (a 5) (aEnd0 a) (a 2).toNat).2 2 (eLoop (a 5) (aEnd0 a) (a 2).toNat).1) (eLoop (a 5) (aEnd0 a) (a 2).toNat).1 ((a 2).toNat - (eLoop (a 5) (aEnd0 a) (a 2).toNat).1) := rfl
    rw [eA]
    generalize (eLoop (a 5) (aEnd0 a) (a 2).toNat).1 = n at *
    generalize (eLoop (a 5) (aEnd0 a) (a 2).toNat).2 = w at *
    subst h1
    rw [Nat.sub_self, Nat.add_zero] at h3
    unfold q_L_tick_L182
    dsimp only
    rw [if_pos (show qq 2 ≤ zI n by rw [h3]; exact zle_p (zr_s (by omega)) (zr_s (by omega)) (Int.le_refl _))]
    have ez : ∀ i, (i < 34 + 2 * n ∨ 74 ≤ i) → i ≠ 2 → zr0 (up w 2 n) n ((a 2).toNat - n) i = w i := fun i u1 u2 => by rw [zr0_ne _ _ _ u1 (by omega), up_ne _ _ u2]
    have ez2 : zr0 (up w 2 n) n ((a 2).toNat - n) 2 = n := by rw [zr0_ne _ _ _ (by omega) (by omega), up_at]
    refine ⟨_, rfl, fun i hi => ?_, fun j hj => ?_, fun hF => vE_of (h6 hF) (by omega) (ez 14 (by omega) (by omega)) (fun i u1 u2 => ez i (by omega) (by omega))⟩
    · by_cases c : i = 2
      · rw [c, ez2]
        exact h3
      · rw [ez i (by omega) c]
        exact h2 i hi c
    · rw [ez2] at hj
      rw [ez _ (by omega) (by omega), ez _ (by omega) (by omega)]
      exact h4 j (by omega)
end PZ2
