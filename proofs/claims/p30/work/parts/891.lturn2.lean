/-! the law's acts: spot, ask, unask -/
section PG2
variable {a b : Nat → Int} {q t l p e : Nat → Int32} {u : tX6} {m : Int}
theorem zsum_c {g g' : Nat → Int} {n : Nat} (h : ∀ k, k < n → g k = g' k) : zsum g n = zsum g' n := by
  induction n with
  | zero => rfl
  | succ n ih =>
    show zsum g n + g n = zsum g' n + g' n
    rw [ih (fun k hk => h k (by omega)), h n (by omega)]
theorem aCnt_add {s T : Int} (h : 0 ≤ a 2 ∧ a 2 < 20) : aCnt (aAdd a s T) s = 1 + aCnt a s := by
  obtain ⟨n, hn⟩ : ∃ n : Nat, n = (a 2).toNat := ⟨_, rfl⟩
  have e2 : aAdd a s T 2 = a 2 + 1 := up_at _ _ _
  have e : ∀ i, i ≠ 2 → (i < 34 + 2 * n ∨ 34 + 2 * n + 1 < i) → aAdd a s T i = a i := fun i u1 u2 => by
    unfold aAdd
    rw [up_ne _ _ u1, ePut_ne (by omega)]
  have en : aAdd a s T (34 + 2 * n) = s := by
    unfold aAdd
    rw [up_ne _ _ (by omega), ← hn, ePut_0]
  unfold aCnt
  rw [e2, show (a 2 + 1).toNat = n + 1 by omega, ← hn]
  show zsum (gCnt (aAdd a s T) s) n + gCnt (aAdd a s T) s n = _
  rw [zsum_c (g' := gCnt a s) (fun k hk => by unfold gCnt; rw [e _ (by omega) (by omega)])]
  have : gCnt (aAdd a s T) s n = 1 := by
    unfold gCnt
    rw [en, if_pos rfl]
  omega
theorem g_many {s : Nat} (h : aI 0 a) (hQ : vQ q a) (hP : vP p a) (hs : s < 8) : zl 1000000 (q_L_turn_L205 q p (zI s)) (1, 0) = some (zI (1 + aCnt a s)) := by
  have hN := h.2.1
  unfold aN at hN
  refine zl_run (fun k => (zI (1 + cN a s k), zI k)) (a := ((1 : Int32), (0 : Int32))) (b := zI (1 + cN a s (a 2).toNat)) (a 2).toNat rfl (by omega) (fun k hk => ?_) ?_
  · have hpk := h.2.2.2.2.1 k (by omega)
    obtain ⟨v1, v2⟩ := pv hpk.1 (T := a (34 + 2 * k + 1)) (by omega)
    unfold q_L_turn_L205
    dsimp only
    rw [if_neg (show ¬ q 2 ≤ zI k by rw [hQ 2 (by omega)]; exact zle_n (h.1 2) (zr_s (by omega)) (by omega)), zg_N (by omega) (by omega), hP k (by omega), v1, zI_1, cN_s]
    by_cases c1 : a (34 + 2 * k) = s
    · rw [if_pos (show zI (a (34 + 2 * k)) = zI s by rw [c1]), if_pos c1, zI_a1, Int.add_assoc]
    · rw [if_neg (zeq_n (h.1 _) (zr_s (by omega)) c1), if_neg c1, zI_a0, Int.add_zero]
  · unfold q_L_turn_L205
    dsimp only
    rw [if_pos (show q 2 ≤ zI ((a 2).toNat : Nat) by rw [hQ 2 (by omega)]; exact zle_p (h.1 2) (zr_s (by omega)) (by omega))]
theorem g_spot {s k : Nat} (h : GR (q, t, l, p, e, u) a) (hm : a 0 ≤ m) (hs : s < 8) (hk : k < 9) : okT m (if (q 2) = 20 then q_L_turn_J197 q t l p e u (zI s) (zI k) 1 else q_L_turn_J197 q t l p e u (zI s) (zI k) 0) := by
  obtain ⟨hU, hQ, hT, hL, hP, hE⟩ := h
  dsimp only at hU hQ hT hL hP hE
  have hI := hU.1
  have hN := hI.2.1
  unfold aN at hN
  have e1 : (1 : Int32) + zI k = zI (1 + (k : Int)) := zI_add 1 k
  by_cases c : a 2 = 20
  · rw [if_pos (show q 2 = 20 by rw [hQ 2 (by omega), c]; rfl)]
    obtain ⟨r, r1, r2, r3⟩ := k_spot_no hU (s := (s : Int)) (t := 1 + (k : Int)) (by omega) (by omega) c
    unfold q_L_turn_J197
    rw [g_many hI hQ hP hs, zb_some]
    unfold q_L_turn_J242
    rw [e1, r1, zb_some, if_neg (show ¬ (1 : Int32) = 0 by decide)]
    unfold q_L_turn_J262
    rw [if_pos (show r.1 = -4 by rw [r2, zm4]), if_neg (show ¬ (1 : Int32) = 0 by decide)]
    exact ⟨_, a, rfl, ⟨r3, hQ, hT, hL, hP, hE⟩, hm⟩
  · rw [if_neg (show ¬ q 2 = 20 by rw [hQ 2 (by omega)]; exact zeq_n (y := 20) (hI.1 2) (zr_s (by omega)) c)]
    obtain ⟨r, r1, r2, r3⟩ := k_spot hU (s := (s : Int)) (t := 1 + (k : Int)) (by omega) (by omega) (by omega)
    obtain ⟨n, hn⟩ : ∃ n : Nat, n = (a 2).toNat := ⟨_, rfl⟩
    have en : a 2 = (n : Int) := by omega
    have e9 : ∀ i, i ≠ 2 → (i < 34 ∨ 74 ≤ i) → aAdd a s (1 + (k : Int)) i = a i := fun i w1 w2 => aAdd_ne (by omega) w1 w2
    have e2 : aAdd a s (1 + (k : Int)) 2 = a 2 + 1 := up_at _ _ _
    unfold q_L_turn_J197
    rw [g_many hI hQ hP hs, zb_some]
    unfold q_L_turn_J242
    rw [e1, r1, zb_some, if_pos rfl]
    unfold q_L_turn_J262 zn
    rw [if_pos (show r.1 = zI (1 + aCnt a s) by rw [r2, aCnt_add (by omega)]), if_pos rfl]
    dsimp only
    rw [hQ 2 (by omega), e1, show (10 : Int32) * zI s = zI (10 * (s : Int)) from zI_mul 10 s, zI_add, zI_a1, en, zs_N (by omega) (by omega), ← en]
    refine ⟨_, aAdd a s (1 + (k : Int)), rfl, ⟨r3, fun i hi => ?_, vT_of hT (fun k hk => e9 _ (by omega) (by omega)), vL_of hL (e9 8 (by omega) (by omega)) (by omega) (fun k hk => e9 _ (by omega) (by omega)), fun j hj => ?_, vE_of hE (by omega) (e9 14 (by omega) (by omega)) (fun i u1 u2 => e9 i (by omega) (by omega))⟩, by rw [e9 0 (by omega) (by omega)]; exact hm⟩
    · dsimp only
      by_cases d : i = 2
      · rw [d, upd_at, e2]
      · rw [upd_ne' _ _ d, e9 i d (by omega)]
        exact hQ i hi
    · dsimp only at hj ⊢
      rw [e2] at hj
      unfold aAdd
      rw [up_ne _ _ (by omega), up_ne _ _ (by omega), ← hn]
      by_cases d : j = n
      · rw [d, upd_at, ePut_0, ePut_1]
      · rw [upd_ne' _ _ d, ePut_ne (by omega), ePut_ne (by omega)]
        exact hP j (by omega)
theorem GR_ask {s : Nat} {v : Int} (hQ : vQ q a) (hT : vT t a) (hL : vL l a) (hP : vP p a) (hE : vE e a) (hI : aI 0 a) (h6 : a 8 < 6) : vQ (upd q 8 (zI (a 8 + 1))) (aAsk a v) ∧ vT t (aAsk a v) ∧ vL (upd l (a 8).toNat (zI v)) (aAsk a v) ∧ vP p (aAsk a v) ∧ vE e (aAsk a v) := by
  have hN := hI.2.1
  unfold aN at hN
  have e9 : ∀ i, i ≠ 8 → (i < 28 ∨ 34 ≤ i) → aAsk a v i = a i := fun i w1 w2 => aAsk_ne (by omega) w1 w2
  refine ⟨fun i hi => ?_, vT_of hT (fun k hk => e9 _ (by omega) (by omega)), fun j hj => ?_, vP_of hP (e9 2 (by omega) (by omega)) (by omega) (fun i u1 u2 => e9 i (by omega) (by omega)), vE_of hE (by omega) (e9 14 (by omega) (by omega)) (fun i u1 u2 => e9 i (by omega) (by omega))⟩
  · by_cases d : i = 8
    · rw [d, upd_at, aAsk_8]
    · rw [upd_ne' _ _ d, e9 i d (by omega)]
      exact hQ i hi
  · rw [aAsk_8] at hj
    unfold aAsk
    rw [up_ne _ _ (by omega)]
    by_cases d : j = (a 8).toNat
    · rw [d, upd_at, up_at]
    · rw [upd_ne' _ _ d, up_ne _ _ (by omega)]
      exact hL j (by omega)
theorem g_ask {s : Nat} (h : GR (q, t, l, p, e, u) a) (hm : a 0 ≤ m) (hs : s < 8) : okT m (zb (q_L_place q l (zI s)) fun r305 => (if 0 ≤ r305 then q_L_turn_J324 q t l p e u (zI s) 1 else (if (q 5) = zI s then q_L_turn_J324 q t l p e u (zI s) 1 else q_L_turn_J324 q t l p e u (zI s) 0))) := by
  obtain ⟨hU, hQ, hT, hL, hP, hE⟩ := h
  dsimp only at hU hQ hT hL hP hE
  have hI := hU.1
  have hN := hI.2.1
  unfold aN at hN
  have hz : zr (s : Int) := zr_s (by omega)
  have hpl := aPl_b a s (by omega)
  obtain ⟨r, r1, r2, r3⟩ := k_ask hU hz
  rw [j_place hI hz hQ hL, zb_some]
  have isin : aWhy a s = -3 → okT m (q_L_turn_J324 q t l p e u (zI s) 1) := by
    intro hw
    unfold q_L_turn_J324
    rw [if_neg (show ¬ (1 : Int32) = 0 by decide)]
    unfold q_L_turn_J345
    rw [r1, zb_some, if_neg (show ¬ (1 : Int32) = 0 by decide)]
    unfold q_L_turn_J377
    have ea : aAsk' a s = a := by unfold aAsk'; rw [if_neg (by omega)]
    rw [ea] at r3
    rw [if_pos (show r.1 = -3 by rw [r2, if_neg (by omega), hw, zm3]), if_pos rfl]
    exact ⟨_, a, rfl, ⟨r3, hQ, hT, hL, hP, hE⟩, hm⟩
  by_cases c1 : aPlace a s = -6
  · rw [if_neg (show ¬ 0 ≤ zI (aPlace a s) from zle_n (x := 0) (zr_s (by omega)) (zr_s (by omega)) (by omega))]
    by_cases c2 : a 5 = s
    · rw [if_pos (show q 5 = zI s by rw [hQ 5 (by omega), c2])]
      exact isin (by unfold aWhy; rw [if_pos (by omega), if_pos c1, if_pos c2])
    · rw [if_neg (show ¬ q 5 = zI s by rw [hQ 5 (by omega)]; exact zeq_n (hI.1 5) hz c2)]
      unfold q_L_turn_J324
      rw [if_pos rfl]
      by_cases c3 : a 8 = 6
      · have hw : aWhy a s = -4 := by unfold aWhy; rw [if_pos (by omega), if_pos c1, if_neg c2, if_pos c3]
        rw [if_pos (show 6 ≤ q 8 by rw [hQ 8 (by omega)]; exact zle_p (x := 6) (zr_s (by omega)) (hI.1 8) (by omega))]
        unfold q_L_turn_J345
        rw [r1, zb_some, if_pos rfl, if_pos rfl]
        unfold q_L_turn_J377
        have ea : aAsk' a s = a := by unfold aAsk'; rw [if_neg (by omega)]
        rw [ea] at r3
        rw [if_pos (show r.1 = -4 by rw [r2, if_neg (by omega), hw, zm4]), if_pos rfl]
        exact ⟨_, a, rfl, ⟨r3, hQ, hT, hL, hP, hE⟩, hm⟩
      · have hw : aWhy a s = 0 := by unfold aWhy; rw [if_pos (by omega), if_pos c1, if_neg c2, if_neg c3]
        rw [if_neg (show ¬ 6 ≤ q 8 by rw [hQ 8 (by omega)]; exact zle_n (x := 6) (zr_s (by omega)) (hI.1 8) (by omega))]
        unfold q_L_turn_J345
        rw [r1, zb_some, if_pos rfl, if_neg (show ¬ (1 : Int32) = 0 by decide)]
        unfold q_L_turn_J377 zn
        have ea : aAsk' a s = aAsk a s := if_pos hw
        rw [ea] at r3
        obtain ⟨n, hn⟩ : ∃ n : Nat, n = (a 8).toNat := ⟨_, rfl⟩
        have en : a 8 = (n : Int) := by omega
        obtain ⟨g1, g2, g3, g4, g5⟩ := GR_ask (s := s) (v := (s : Int)) hQ hT hL hP hE hI (by omega)
        rw [if_pos (show r.1 = q 8 by rw [r2, if_pos hw, hQ 8 (by omega)]), if_neg (show ¬ (1 : Int32) = 0 by decide)]
        dsimp only
        rw [hQ 8 (by omega), zI_a1, en, zs_N (by omega) (by omega), ← en, hn]
        exact ⟨_, aAsk a s, rfl, ⟨r3, g1, g2, g3, g4, g5⟩, by rw [aAsk_ne (by omega) (by omega) (by omega)]; exact hm⟩
  · rw [if_pos (show 0 ≤ zI (aPlace a s) from zle_p (x := 0) (zr_s (by omega)) (zr_s (by omega)) (by omega))]
    exact isin (by unfold aWhy; rw [if_pos (by omega), if_neg c1])
theorem g_unask {s : Nat} (h : GR (q, t, l, p, e, u) a) (hm : a 0 ≤ m) (hs : s < 8) : okT m (zb (q_L_place q l (zI s)) fun r415 => (if r415 < 0 then q_L_turn_J433 t p e u (zI s) r415 q l else zb (q_L_drop q l r415) fun r430 => q_L_turn_J433 t p e u (zI s) r415 r430.1 r430.2)) := by
  obtain ⟨hU, hQ, hT, hL, hP, hE⟩ := h
  dsimp only at hU hQ hT hL hP hE
  have hI := hU.1
  have hN := hI.2.1
  unfold aN at hN
  have hz : zr (s : Int) := zr_s (by omega)
  have hpl := aPl_b a s (by omega)
  obtain ⟨r, r1, r2, r3⟩ := k_unask hU (s := (s : Int)) (by omega)
  rw [j_place hI hz hQ hL, zb_some]
  by_cases c1 : aPlace a s = -6
  · obtain ⟨r4, r5⟩ := r2 c1
    rw [if_pos (show zI (aPlace a s) < 0 from zlt_p (y := 0) (zr_s (by omega)) (zr_s (by omega)) (by omega))]
    unfold q_L_turn_J433
    rw [r1, zb_some, if_neg (show ¬ 0 ≤ zI (aPlace a s) from zle_n (x := 0) (zr_s (by omega)) (zr_s (by omega)) (by omega)), if_pos (show r.1 = -3 by rw [r4, zm3])]
    exact ⟨_, a, rfl, ⟨r5, hQ, hT, hL, hP, hE⟩, hm⟩
  · obtain ⟨n, hn⟩ : ∃ n : Nat, n = (aPlace a s).toNat := ⟨_, rfl⟩
    have en : aPlace a s = (n : Int) := by omega
    obtain ⟨r4, r5⟩ := r3 n en
    obtain ⟨l', d1, d2⟩ := j_drop (n := n) hI (by omega) hQ hL
    have e9 : ∀ i, i ≠ 8 → (i < 28 ∨ 34 ≤ i) → aTake a n i = a i := fun i v1 v2 => aTake_ne a n (by omega) (by omega) v1 v2
    rw [if_neg (show ¬ zI (aPlace a s) < 0 from zlt_n (y := 0) (zr_s (by omega)) (zr_s (by omega)) (by omega)), en, d1, zb_some]
    unfold q_L_turn_J433
    dsimp only
    rw [r1, zb_some, if_pos (show 0 ≤ zI (n : Nat) from zle_p (x := 0) (zr_s (by omega)) (zr_s (by omega)) (by omega)), if_pos (show r.1 = upd q 8 (zI (a 8 - 1)) 8 by rw [r4, upd_at])]
    exact ⟨_, aTake a n, rfl, ⟨r5, vQ_take hI (by omega) hQ, vT_of hT (fun k hk => e9 _ (by omega) (by omega)), d2, vP_of hP (e9 2 (by omega) (by omega)) (by omega) (fun i u1 u2 => e9 i (by omega) (by omega)), vE_of hE (by omega) (e9 14 (by omega) (by omega)) (fun i u1 u2 => e9 i (by omega) (by omega))⟩, by rw [e9 0 (by omega) (by omega)]; exact hm⟩
end PG2
