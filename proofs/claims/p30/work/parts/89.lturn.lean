/-! the law's acts, one by one -/
def GR (v : tLS) (a : Nat → Int) : Prop := UR v.2.2.2.2.2 a ∧ vQ v.1 a ∧ vT v.2.1 a ∧ vL v.2.2.1 a ∧ vP v.2.2.2.1 a ∧ vE v.2.2.2.2.1 a
def okT (m : Int) (x : Option tLS) : Prop := ∃ o a', x = some o ∧ GR o a' ∧ a' 0 ≤ m
section PG
variable {a b : Nat → Int} {q t l p e : Nat → Int32} {u : tX6} {m : Int}
theorem zI_pl (c : Nat) (x : Nat) : (no_index (OfNat.ofNat c) : Int32) + zI x = zI ((c + x : Nat) : Int) := by
  rw [zI_lit]
  exact zI_add c x
/-- a change of numbers below 20 that are neither 2, 8 nor 14 -/
theorem GR_num (hT : vT t a) (hL : vL l a) (hP : vP p a) (hE : vE e a) (hI : aI 0 a) (e2 : b 2 = a 2) (e8 : b 8 = a 8) (e14 : b 14 = a 14) (ee : ∀ i, 20 ≤ i → i < 104 → b i = a i) : vT t b ∧ vL l b ∧ vP p b ∧ vE e b := by
  have hN := hI.2.1
  unfold aN at hN
  exact ⟨vT_of hT (fun k hk => ee _ (by omega) (by omega)), vL_of hL e8 (by omega) (fun k hk => ee _ (by omega) (by omega)), vP_of hP e2 (by omega) (fun i u1 u2 => ee i (by omega) (by omega)), vE_of hE (by omega) e14 (fun i u1 u2 => ee i (by omega) u2)⟩
theorem g_set {k : Nat} {v : Int} (h : GR (q, t, l, p, e, u) a) (hm : a 0 ≤ m) (hk : k < 5) (hv : loS k ≤ v ∧ v ≤ hiS k) : okT m (q_L_turn_J1088 q t l p e u (zI k) (zI v)) := by
  obtain ⟨hU, hQ, hT, hL, hP, hE⟩ := h
  dsimp only at hU hQ hT hL hP hE
  obtain ⟨r, r1, r2, r3⟩ := k_set hU hk hv
  have e9 : ∀ i, i ≠ 15 + k → up a (15 + k) v i = a i := fun i w1 => up_ne _ _ w1
  obtain ⟨g1, g2, g3, g4⟩ := GR_num (b := up a (15 + k) v) hT hL hP hE hU.1 (e9 2 (by omega)) (e9 8 (by omega)) (e9 14 (by omega)) (fun i u1 u2 => e9 i (by omega))
  unfold q_L_turn_J1088
  rw [r1, zb_some, show (15 : Int32) + zI k = zI ((15 + k : Nat) : Int) from zI_k 15 k, zg_N (by omega) (by omega), if_pos (show r.1 = q (15 + k) by rw [r2, hQ (15 + k) (by omega)]), zs_N (by omega) (by omega)]
  exact ⟨_, up a (15 + k) v, rfl, ⟨r3, vQ_up hQ, g1, g2, g3, g4⟩, by rw [e9 0 (by omega)]; exact hm⟩
theorem g_spares {k : Nat} (h : GR (q, t, l, p, e, u) a) (hm : a 0 ≤ m) (hk : k < 2) : okT m (if 50 < (q 3) + (1 + zI k) then q_L_turn_J941 q t l p e u (zI k) 0 else q_L_turn_J941 q t l p e u (zI k) 1) := by
  obtain ⟨hU, hQ, hT, hL, hP, hE⟩ := h
  dsimp only at hU hQ hT hL hP hE
  have hN := hU.1.2.1
  unfold aN at hN
  have e1 : (1 : Int32) + zI k = zI (1 + (k : Int)) := zI_add 1 k
  have h3 : q 3 + (1 + zI k) = zI (a 3 + (1 + (k : Int))) := by rw [e1, hQ 3 (by omega), zI_add]
  by_cases c : 50 < a 3 + (1 + (k : Int))
  · rw [if_pos (show 50 < q 3 + (1 + zI k) by rw [h3]; exact zlt_p (x := 50) (zr_s (by omega)) (zr_s (by omega)) c)]
    obtain ⟨r, r1, r2, r3⟩ := k_addSpares_no hU (p := 1 + (k : Int)) (by omega) (by omega)
    unfold q_L_turn_J941
    rw [e1, r1, zb_some, if_pos rfl]
    unfold q_L_turn_J965
    rw [if_pos (show r.1 = -4 by rw [r2, zm4]), if_pos rfl]
    unfold q_L_turn_J985 zn
    refine ⟨_, a, rfl, ⟨r3, fun i hi => ?_, hT, hL, hP, hE⟩, hm⟩
    dsimp only
    by_cases d : i = 3
    · rw [d, upd_at, hQ 3 (by omega), zI_a0]
    · rw [upd_ne' _ _ d]
      exact hQ i hi
  · rw [if_neg (show ¬ 50 < q 3 + (1 + zI k) by rw [h3]; exact zlt_n (x := 50) (zr_s (by omega)) (zr_s (by omega)) (by omega))]
    obtain ⟨r, r1, r2, r3⟩ := k_addSpares hU (p := 1 + (k : Int)) (by omega) (by omega)
    have e9 : ∀ i, i ≠ 3 → up a 3 (a 3 + (1 + (k : Int))) i = a i := fun i w1 => up_ne _ _ w1
    obtain ⟨g1, g2, g3, g4⟩ := GR_num (b := up a 3 (a 3 + (1 + (k : Int)))) hT hL hP hE hU.1 (e9 2 (by omega)) (e9 8 (by omega)) (e9 14 (by omega)) (fun i u1 u2 => e9 i (by omega))
    unfold q_L_turn_J941
    rw [h3, e1, r1, zb_some, if_neg (show ¬ (1 : Int32) = 0 by decide)]
    unfold q_L_turn_J965
    rw [if_pos (show r.1 = zI (a 3 + (1 + (k : Int))) from r2), if_neg (show ¬ (1 : Int32) = 0 by decide)]
    unfold q_L_turn_J985 zn
    rw [h3]
    exact ⟨_, up a 3 (a 3 + (1 + (k : Int))), rfl, ⟨r3, vQ_up hQ, g1, g2, g3, g4⟩, by rw [e9 0 (by omega)]; exact hm⟩
theorem g_giveUp (h : GR (q, t, l, p, e, u) a) (hm : a 0 ≤ m) : okT m (if (q 5) < 0 then q_L_turn_J823 q t l p e u 0 else q_L_turn_J823 q t l p e u 1) := by
  obtain ⟨hU, hQ, hT, hL, hP, hE⟩ := h
  dsimp only at hU hQ hT hL hP hE
  have hI := hU.1
  have hN := hI.2.1
  unfold aN at hN
  by_cases c : a 5 = -6
  · rw [if_pos (show q 5 < 0 by rw [hQ 5 (by omega)]; exact zlt_p (y := 0) (hI.1 5) (zr_s (by omega)) (by omega))]
    obtain ⟨r, r1, r2, r3⟩ := k_giveUp_no hU c
    unfold q_L_turn_J823
    rw [r1, zb_some, if_pos rfl]
    unfold q_L_turn_J843
    rw [if_pos (show r.1 = -3 by rw [r2, zm3]), if_pos rfl]
    exact ⟨_, a, rfl, ⟨r3, hQ, hT, hL, hP, hE⟩, hm⟩
  · rw [if_neg (show ¬ q 5 < 0 by rw [hQ 5 (by omega)]; exact zlt_n (y := 0) (hI.1 5) (zr_s (by omega)) (by omega))]
    obtain ⟨r, r1, r2, r3⟩ := k_giveUp hU c
    obtain ⟨e5, e6, e7, e9⟩ := aStop_e a
    obtain ⟨g1, g2, g3, g4⟩ := GR_num (b := aStop a) hT hL hP hE hI (e9 2 (by omega) (by omega) (by omega)) (e9 8 (by omega) (by omega) (by omega)) (e9 14 (by omega) (by omega) (by omega)) (fun i u1 u2 => e9 i (by omega) (by omega) (by omega))
    unfold q_L_turn_J823
    rw [r1, zb_some, if_neg (show ¬ (1 : Int32) = 0 by decide)]
    unfold q_L_turn_J843 zn
    rw [if_pos (show r.1 = q 6 by rw [r2, hQ 6 (by omega)]), if_neg (show ¬ (1 : Int32) = 0 by decide)]
    refine ⟨_, aStop a, rfl, ⟨r3, ?_, g1, g2, g3, g4⟩, by rw [e9 0 (by omega) (by omega) (by omega)]; exact hm⟩
    show vQ (upd (upd (upd q 5 (-6)) 6 0) 7 0) (up (up (up a 5 (-6)) 6 0) 7 0)
    rw [z6]
    exact vQ_up (x := 0) (vQ_up (x := 0) (vQ_up hQ))
theorem g_quiet {n : Nat} (h : GR (q, t, l, p, e, u) a) (hn : n < 300) (h9 : a 0 + 300 ≤ 99999) (hm : a 0 + 300 ≤ m) : okT m (zb (zl 1000000 (q_L_turn_L752 (zI n)) (0, 0, q, t, l, p, e)) (fun bb => q_L_turn_J789 u (zI n) bb.1 bb.2.1 bb.2.2.1 bb.2.2.2.1 bb.2.2.2.2.1 bb.2.2.2.2.2)) := by
  obtain ⟨hU, hQ, hT, hL, hP, hE⟩ := h
  dsimp only at hU hQ hT hL hP hE
  have hI := hU.1
  have hN := hI.2.1
  unfold aN at hN
  have e1 : (1 : Int32) + zI n = zI ((1 + n : Nat) : Int) := zI_pl 1 n
  obtain ⟨bb, hb1, hb2, hb3⟩ := zl_rel (B := q_L_turn_L752 (zI n)) (fun k x => x.1 = zI (zsum (aEnds a) k) ∧ x.2.1 = zI k ∧ vQ x.2.2.1 (aTicks a k) ∧ vT x.2.2.2.1 (aTicks a k) ∧ vL x.2.2.2.2.1 (aTicks a k) ∧ vP x.2.2.2.2.2.1 (aTicks a k) ∧ vE x.2.2.2.2.2.2 (aTicks a k)) (fun r => r.1 = zI (zsum (aEnds a) (1 + n)) ∧ vQ r.2.1 (aTicks a (1 + n)) ∧ vT r.2.2.1 (aTicks a (1 + n)) ∧ vL r.2.2.2.1 (aTicks a (1 + n)) ∧ vP r.2.2.2.2.1 (aTicks a (1 + n)) ∧ vE r.2.2.2.2.2 (aTicks a (1 + n))) (1 + n) (fun k x hk hx => by
    obtain ⟨x1, x2, x3, x4, x5, x6, x7⟩ := x
    obtain ⟨h1, h2, h3, h4, h5, h6, h7⟩ := hx
    dsimp only at h1 h2 h3 h4 h5 h6 h7
    subst h1 h2
    obtain ⟨i1, i2⟩ := aTicks_I hI k (by omega)
    obtain ⟨-, -, i3⟩ := aTick_I i1 (by omega)
    obtain ⟨q', t', l', p', e', k1, k2, k3, k4, k5, k6⟩ := j_tick (e := x7) i1 (by omega) h3 h4 h5 h6
    have hb := aEnds_b a k
    have es : zsum (aEnds a) (k + 1) = zsum (aEnds a) k + aEnds a k := rfl
    unfold q_L_turn_L752
    dsimp only
    rw [e1, if_neg (show ¬ zI ((1 + n : Nat) : Int) ≤ zI k from zle_n (zr_s (by omega)) (zr_s (by omega)) (by omega)), k1, zb_some, zI_1]
    dsimp only
    by_cases c : (aTick (aTicks a k)).1 = -6
    · rw [if_neg (show ¬ 0 ≤ zI (aTick (aTicks a k)).1 from zle_n (x := 0) (zr_s (by omega)) (zr_s (by omega)) (by omega)), zI_a0]
      refine ⟨_, rfl, ?_, rfl, k2, k3, k4, k5, k6 h7⟩
      dsimp only
      rw [es]
      unfold aEnds
      rw [if_pos c, Int.add_zero]
    · rw [if_pos (show 0 ≤ zI (aTick (aTicks a k)).1 from zle_p (x := 0) (zr_s (by omega)) (zr_s (by omega)) (by omega)), zI_a1]
      refine ⟨_, rfl, ?_, rfl, k2, k3, k4, k5, k6 h7⟩
      dsimp only
      rw [es]
      have : aEnds a k = 1 := if_neg c
      rw [this]) (fun x hx => by
    obtain ⟨x1, x2, x3, x4, x5, x6, x7⟩ := x
    obtain ⟨h1, h2, h3, h4, h5, h6, h7⟩ := hx
    dsimp only at h1 h2 h3 h4 h5 h6 h7
    subst h1 h2
    unfold q_L_turn_L752
    dsimp only
    rw [e1, if_pos (show zI ((1 + n : Nat) : Int) ≤ zI ((1 + n : Nat) : Int) from zle_p (zr_s (by omega)) (zr_s (by omega)) (by omega))]
    exact ⟨_, rfl, rfl, h3, h4, h5, h6, h7⟩) 1000000 0 (0, 0, q, t, l, p, e) ⟨rfl, rfl, hQ, hT, hL, hP, hE⟩ (by omega) (by omega)
  obtain ⟨r, r1, r2, r3⟩ := k_quiet hU (n := 1 + n) (by omega) (by omega)
  obtain ⟨-, i4⟩ := aTicks_I hI (1 + n) (by omega)
  rw [hb1, zb_some]
  unfold q_L_turn_J789
  rw [e1, r1, zb_some, if_pos (show r.1 = bb.1 by rw [r2, hb2])]
  exact ⟨_, aTicks a (1 + n), rfl, ⟨r3, hb3⟩, by rw [i4]; omega⟩
end PG
