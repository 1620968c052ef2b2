/-! class and model side by side: read -/
section PR
variable {u : tX6} {x y : Int32} {a : Nat → Int} {r : (Nat → Int32) × (Nat → Int32) × Int32 × (Nat → Int32) × Int32 × Int32 × Int32 × Int32 × Int32 × Int32}
abbrev wkP (a : Nat → Int) (s : Int) (k : Nat) : Prop := a (34 + 2 * k) = s ∧ a 18 ≤ a (34 + 2 * k + 1)
def wk (a : Nat → Int) (s : Int) : Nat → Int
  | 0 => 0
  | n + 1 => if wk a s n = 1 then 1 else if wkP a s n then 1 else 0
theorem wk_b (a : Nat → Int) (s : Int) (n : Nat) : wk a s n = 0 ∨ wk a s n = 1 := by
  cases n with
  | zero => exact Or.inl rfl
  | succ n =>
    unfold wk
    split
    · exact Or.inr rfl
    · split
      · exact Or.inr rfl
      · exact Or.inl rfl
theorem wk_none {s : Int} {n : Nat} (h : ∀ k, k < n → ¬ wkP a s k) : wk a s n = 0 := by
  induction n with
  | zero => rfl
  | succ n ih =>
    unfold wk
    rw [ih (fun k hk => h k (by omega)), if_neg (by omega), if_neg (h n (by omega))]
theorem wk_some {s : Int} {n k : Nat} (hk : k < n) (h : wkP a s k) : wk a s n = 1 := by
  induction n with
  | zero => omega
  | succ n ih =>
    unfold wk
    by_cases c : k = n
    · subst c
      rw [if_pos h]
      split <;> rfl
    · rw [if_pos (ih (by omega))]
theorem c_hasWeak {t : tX5} {s : Int} (hr : ∀ i, zr (a i)) (h2 : 0 ≤ a 2 ∧ a 2 ≤ 20) (hs : zr s) (hR : sR t a) : q_X5_hasWeak t (zI s) (zI (a 18)) = some (zI (wk a s (a 2).toNat)) := by
  have key : ∀ j : Nat, (∀ k : Nat, k < j → ¬ wkP a s k) → j ≤ (a 2).toNat → ∀ fuel : Nat, (a 2).toNat - j < fuel → zb (zl fuel (q_X5_hasWeak_L2 t (zI s) (zI (a 18))) (zI j)) (zm (fun e2_0 => some (0)) (fun e2_1 => some (1))) = some (zI (wk a s (a 2).toNat)) := by
    intro j hj hj2 fuel
    induction fuel generalizing j with
    | zero => intro h9; omega
    | succ fuel ih =>
      intro h9
      unfold zl
      by_cases c1 : j = (a 2).toNat
      · have step : q_X5_hasWeak_L2 t (zI s) (zI (a 18)) (zI j) = some (Sum.inr (Sum.inl ())) := by
          unfold q_X5_hasWeak_L2
          rw [if_pos (show t.2.2 ≤ zI j by rw [hR.2]; exact zle_p (hr 2) (zr_s (by omega)) (by omega))]
        rw [step, wk_none (fun k hk => hj k (by omega))]
        rfl
      · obtain ⟨e1, e2⟩ := hR.1 j (by omega)
        by_cases c2 : wkP a s j
        · have step : q_X5_hasWeak_L2 t (zI s) (zI (a 18)) (zI j) = some (Sum.inr (Sum.inr ())) := by
            unfold q_X5_hasWeak_L2
            rw [if_neg (show ¬ t.2.2 ≤ zI j by rw [hR.2]; exact zle_n (hr 2) (zr_s (by omega)) (by omega)), zg_N (by omega) (by omega), e1, if_pos (show zI (a (34 + 2 * j)) = zI s by rw [c2.1]), zg_N (by omega) (by omega), e2, if_neg (zlt_n (hr _) (hr 18) c2.2)]
          rw [step, wk_some (show j < (a 2).toNat by omega) c2]
          rfl
        · have step : q_X5_hasWeak_L2 t (zI s) (zI (a 18)) (zI j) = some (Sum.inl (zI ((j + 1 : Nat) : Int))) := by
            unfold q_X5_hasWeak_L2
            rw [if_neg (show ¬ t.2.2 ≤ zI j by rw [hR.2]; exact zle_n (hr 2) (zr_s (by omega)) (by omega)), zg_N (by omega) (by omega), e1, zI_1]
            by_cases c3 : a (34 + 2 * j) = s
            · rw [if_pos (show zI (a (34 + 2 * j)) = zI s by rw [c3]), zg_N (by omega) (by omega), e2, if_pos (zlt_p (hr _) (hr 18) (by
                by_cases c4 : a (34 + 2 * j + 1) < a 18
                · exact c4
                · exact absurd ⟨c3, by omega⟩ c2))]
            · rw [if_neg (zeq_n (hr _) hs c3)]
          rw [step]
          refine ih (j + 1) (fun k hk => ?_) (by omega) (by omega)
          by_cases c3 : k = j
          · rw [c3]; exact c2
          · exact hj k (by omega)
  unfold q_X5_hasWeak
  exact key 0 (fun k hk => by omega) (by omega) 1000000 (by omega)
theorem up_up {i j : Nat} {p q : Int} (h : i ≠ j) : up (up a i p) j q = up (up a j q) i p := by
  funext k
  unfold up
  by_cases c1 : k = i
  · have c2 : k ≠ j := by omega
    rw [if_neg c2, if_pos c1, if_pos c1]
  · rw [if_neg c1, if_neg c1]
theorem aLogs_up {j : Nat} {q k s : Int} (h0 : j ≠ 0) (h14 : j < 14) : aLogs (up a j q) k s = up (aLogs a k s) j q := by
  have hb := eL_b a
  have hE : eL (up a j q) = eL a := by
    unfold eL
    rw [up_ne a q (by omega)]
  unfold aLogs
  rw [hE, up_ne a q (show 0 ≠ j by omega), up_ne a q (show 14 ≠ j by omega), up_up (show j ≠ eL a by omega), up_up (show j ≠ eL a + 1 by omega), up_up (show j ≠ eL a + 2 by omega), up_up (show j ≠ 14 by omega)]
/-- an entry, and a number of the disk one more -/
theorem aI_log1 {c k s : Int} {j : Nat} (h : aI (c + 1) a) (hc : 0 ≤ c) (hk : 1 ≤ k ∧ k ≤ 6) (hs : 0 ≤ s ∧ s ≤ 7) (hj : j = 10 ∨ j = 12) : aI c (aLogs (up a j (a j + 1)) k s) := by
  have hN := h.2.1
  unfold aN at hN
  have h1 := aI_logs h hc hk hs
  have hN1 := h1.2.1
  have e14 : aLogs a k s 14 = a 14 + 1 := aLogs_14 a k s
  have el : ∀ i, i < 74 → i ≠ 14 → aLogs a k s i = a i := fun i w1 w2 => aLogs_lo a k s w1 w2
  rw [aLogs_up (by omega) (by omega)]
  have e : ∀ i, i ≠ j → up (aLogs a k s) j (a j + 1) i = aLogs a k s i := fun i w => up_ne _ _ w
  have ej : up (aLogs a k s) j (a j + 1) j = a j + 1 := up_at _ _ _
  refine aI_num h1 ?_ (zr_up h1.1 _ (zr_s (by rcases hj with rfl | rfl <;> omega))) (by rw [e 0 (by omega)]; omega) (e 2 (by omega)) (e 8 (by omega)) (e 14 (by omega)) (fun i w1 w2 => e i (by omega))
  unfold aN at hN1 ⊢
  rw [e 0 (by omega), e 1 (by omega), e 2 (by omega), e 3 (by omega), e 4 (by omega), e 5 (by omega), e 6 (by omega), e 7 (by omega), e 8 (by omega), e 9 (by omega), e 11 (by omega), e 13 (by omega), e 14 (by omega), e 15 (by omega), e 16 (by omega), e 17 (by omega), e 18 (by omega), e 19 (by omega)]
  have l10 := el 10 (by omega) (by omega)
  have l12 := el 12 (by omega) (by omega)
  rcases hj with rfl | rfl
  · rw [ej, e 12 (by omega)]
    omega
  · rw [ej, e 10 (by omega)]
    omega
/-- the slow read -/
def aSl (a : Nat → Int) (s : Int) : Int × (Nat → Int) := if wk a s (a 2).toNat = 0 then (0, a) else (1, aAsk' (aLogs (up a 12 (a 12 + 1)) 6 s) s)
def aRd0 (a : Nat → Int) (t : Int) : Nat → Int := up (up a 1 0) 0 (a 0 + t)
def aRd1 (a : Nat → Int) : Nat → Int := if a 5 = -6 then a else aLogs (up (up a 6 (if 2 ≤ a 6 then a 6 - 2 else 0)) 10 (a 10 + 1)) 2 (a 5)
def aRead (a : Nat → Int) (s t : Int) : Int × (Nat → Int) := aSl (aRd1 (aRd0 a t)) s
theorem aI_rd0 {t : Int} (h : aI 0 a) (ht : 1 ≤ t) (h9 : a 0 + t ≤ 99999) : aI 22 (aRd0 a t) := by
  have hN := h.2.1
  unfold aN at hN
  have e : ∀ i, i ≠ 0 → i ≠ 1 → aRd0 a t i = a i := fun i w1 w2 => by
    unfold aRd0
    rw [up_ne _ _ w1, up_ne _ _ w2]
  have e0 : aRd0 a t 0 = a 0 + t := up_at _ _ _
  have e1 : aRd0 a t 1 = 0 := by
    unfold aRd0
    rw [up_ne _ _ (by omega), up_at]
  refine aI_num h ?_ (zr_up (zr_up h.1 _ (zr_s (by omega))) _ (zr_s (by omega))) (by rw [e0]; omega) (e 2 (by omega) (by omega)) (e 8 (by omega) (by omega)) (e 14 (by omega) (by omega)) (fun i w1 w2 => e i (by omega) (by omega))
  unfold aN
  rw [e0, e1, e 2 (by omega) (by omega), e 3 (by omega) (by omega), e 4 (by omega) (by omega), e 5 (by omega) (by omega), e 6 (by omega) (by omega), e 7 (by omega) (by omega), e 8 (by omega) (by omega), e 9 (by omega) (by omega), e 10 (by omega) (by omega), e 11 (by omega) (by omega), e 12 (by omega) (by omega), e 13 (by omega) (by omega), e 14 (by omega) (by omega), e 15 (by omega) (by omega), e 16 (by omega) (by omega), e 17 (by omega) (by omega), e 18 (by omega) (by omega), e 19 (by omega) (by omega)]
  omega
theorem aI_rd1 {c : Int} (h : aI (c + 1) a) (hc : 0 ≤ c) : aI c (aRd1 a) ∧ aRd1 a 0 = a 0 := by
  have hN := h.2.1
  unfold aN at hN
  unfold aRd1
  by_cases c1 : a 5 = -6
  · rw [if_pos c1]
    exact ⟨aI_mono h (by omega), rfl⟩
  · rw [if_neg c1]
    have h6 : aI (c + 1) (up a 6 (if 2 ≤ a 6 then a 6 - 2 else 0)) := aI_num1 h (Or.inr rfl) (by split <;> omega) (by omega) (fun _ => by split <;> omega)
    have e10 : up a 6 (if 2 ≤ a 6 then a 6 - 2 else 0) 10 = a 10 := up_ne _ _ (by omega)
    have := aI_log1 (k := 2) (s := a 5) (j := 10) h6 hc (by omega) (by omega) (Or.inl rfl)
    rw [e10] at this
    exact ⟨this, by rw [aLogs_lo _ _ _ (by omega) (by omega), up_ne _ _ (by omega), up_ne _ _ (by omega)]⟩
theorem aI_sl {c s : Int} (h : aI (c + 1) a) (hc : 0 ≤ c) (hs : 0 ≤ s ∧ s ≤ 7) : aI c (aSl a s).2 ∧ (aSl a s).2 0 = a 0 ∧ (0 ≤ (aSl a s).1 ∧ (aSl a s).1 ≤ 1) := by
  unfold aSl
  split
  · exact ⟨aI_mono h (by omega), rfl, by dsimp only; omega⟩
  · have h1 := aI_log1 (k := 6) (s := s) (j := 12) h hc (by omega) hs (Or.inr rfl)
    refine ⟨aI_ask' h1, ?_, by dsimp only; omega⟩
    dsimp only
    rw [aAsk'_ne h1 (by omega) (by omega), aLogs_lo _ _ _ (by omega) (by omega), up_ne _ _ (by omega)]
theorem aI_read {s t : Int} (h : aI 0 a) (hs : 0 ≤ s ∧ s ≤ 7) (ht : 1 ≤ t) (h9 : a 0 + t ≤ 99999) : aI 0 (aRead a s t).2 ∧ (aRead a s t).2 0 = a 0 + t ∧ (0 ≤ (aRead a s t).1 ∧ (aRead a s t).1 ≤ 1) := by
  have h0 := aI_rd0 h ht h9
  obtain ⟨h1, e1⟩ := aI_rd1 (c := 21) h0 (by omega)
  obtain ⟨h2, e2, h3⟩ := aI_sl (c := 20) h1 (by omega) hs
  exact ⟨aI_mono h2 (by omega), by unfold aRead; rw [e2, e1]; exact up_at _ _ _, h3⟩
theorem c_J66 {d : tX1} {k0 w1 w2 : Int32} {w0 : tX3} {c s : Int} (h : aI (c + 1) a) (hc : 0 ≤ c) (hs : 0 ≤ s ∧ s ≤ 7) (h9 : a 0 ≤ 99999) (hd : dR (d.1, d.2.1, d.2.2.1, d.2.2.2.1, w0, d.2.2.2.2.2.1, d.2.2.2.2.2.2.1, k0, 0, d.2.2.2.2.2.2.2.2.2.1, w1, d.2.2.2.2.2.2.2.2.2.2.2.1, d.2.2.2.2.2.2.2.2.2.2.2.2.1, d.2.2.2.2.2.2.2.2.2.2.2.2.2.1, w2, d.2.2.2.2.2.2.2.2.2.2.2.2.2.2.2.1, d.2.2.2.2.2.2.2.2.2.2.2.2.2.2.2.2) a) : ∃ d' : tX1, q_X1_hostReads_J66 d (zI s) k0 w0 w1 w2 = some (zI (aSl a s).1, d') ∧ dR d' (aSl a s).2 := by
  have hN := h.2.1
  unfold aN at hN
  obtain ⟨q1, q2, q3, q4, q5, n1, n2, n3, n4, n5, n6, n7, n8, n9, n10, n11, n12⟩ := id hd
  dsimp only at q1 q2 q3 q4 q5 n1 n2 n3 n4 n5 n6 n7 n8 n9 n10 n11 n12
  unfold q_X1_hostReads_J66 aSl
  rw [q1 3 (by omega), show q_X5_hasWeak d.2.2.1 (zI s) (zI (a (15 + 3))) = _ from c_hasWeak h.1 (by omega) (zr_s (by omega)) q3, zb_some]
  rcases wk_b a s (a 2).toNat with c1 | c1
  · rw [c1, if_pos (show zI 0 = 0 from rfl), if_pos rfl]
    exact ⟨_, rfl, hd⟩
  · have h1 := aI_log1 (k := 6) (s := s) (j := 12) h hc (by omega) hs (Or.inr rfl)
    have hN1 := h1.2.1
    unfold aN at hN1
    have ep : ∀ i, i ≠ 12 → up a 12 (a 12 + 1) i = a i := fun i w => up_ne _ _ w
    have el : ∀ i, i < 74 → i ≠ 14 → i ≠ 12 → aLogs (up a 12 (a 12 + 1)) 6 s i = a i := fun i w1 w2 w3 => by rw [aLogs_lo _ _ _ w1 w2, ep i w3]
    have e12 : aLogs (up a 12 (a 12 + 1)) 6 s 12 = a 12 + 1 := by rw [aLogs_lo _ _ _ (by omega) (by omega), up_at]
    obtain ⟨g', v1, v2⟩ := c_log (a := up a 12 (a 12 + 1)) (g := w0) (k := 6) (s := s) (by rw [ep 14 (by omega)]; omega) (lR_of q5 (ep 14 (by omega)) (fun i w1 w2 => ep i (by omega)))
    rw [ep 0 (by omega)] at v1
    have hd1 : dR (d.1, d.2.1, d.2.2.1, d.2.2.2.1, g', d.2.2.2.2.2.1, d.2.2.2.2.2.2.1, k0, 0, d.2.2.2.2.2.2.2.2.2.1, w1, d.2.2.2.2.2.2.2.2.2.2.2.1, d.2.2.2.2.2.2.2.2.2.2.2.2.1, d.2.2.2.2.2.2.2.2.2.2.2.2.2.1, w2, d.2.2.2.2.2.2.2.2.2.2.2.2.2.2.2.1, zI (a 12 + 1)) (aLogs (up a 12 (a 12 + 1)) 6 s) := by
      refine ⟨fun j hj => ?_, fun j hj => ?_, sR_of q3 (el 2 (by omega) (by omega) (by omega)) (by omega) (fun i v1 v2 => el i (by omega) (by omega) (by omega)), qR_of q4 (el 8 (by omega) (by omega) (by omega)) (by omega) (fun j hj => el _ (by omega) (by omega) (by omega)), v2, ?_⟩
      · rw [el _ (by omega) (by omega) (by omega)]
        exact q1 j hj
      · rw [el _ (by omega) (by omega) (by omega)]
        exact q2 j hj
      · unfold nR
        dsimp only
        rw [e12, el 4 (by omega) (by omega) (by omega), el 3 (by omega) (by omega) (by omega), el 0 (by omega) (by omega) (by omega), el 1 (by omega) (by omega) (by omega), el 5 (by omega) (by omega) (by omega), el 6 (by omega) (by omega) (by omega), el 7 (by omega) (by omega) (by omega), el 13 (by omega) (by omega) (by omega), el 9 (by omega) (by omega) (by omega), el 10 (by omega) (by omega) (by omega), el 11 (by omega) (by omega) (by omega)]
        exact ⟨n1, n2, n3, n4, n5, n6, n7, n8, n9, n10, n11, rfl⟩
    obtain ⟨q', k1, k2, k3⟩ := c_askByHand h1 (zr_s (x := s) (by omega)) hd1
    rw [c1, if_neg (show ¬ zI 1 = 0 by decide), if_neg (show ¬ (1 : Int) = 0 by omega), n12, zI_a1, n3]
    unfold zn
    rw [n3] at k1 hd1
    dsimp only
    rw [show q_X3_append w0 (zI (a 0)) 6 (zI s) = some g' from v1, zb_some, k1, zb_some]
    refine ⟨_, rfl, dR_list hd1 (by omega) k2 (fun i w1 w2 => aAsk'_ne h1 w1 w2) rfl rfl rfl rfl⟩
theorem c_hostReads {d : tX1} {s t : Int} (h : aI 0 a) (hd : dR d a) (hs : 0 ≤ s ∧ s ≤ 7) (ht : 1 ≤ t ∧ t ≤ 200) (h9 : a 0 + t ≤ 99999) : ∃ d' : tX1, q_X1_hostReads d (zI s) (zI t) = some (zI (aRead a s t).1, d') ∧ dR d' (aRead a s t).2 := by
  have h0 := aI_rd0 h ht.1 h9
  obtain ⟨h1, e1⟩ := aI_rd1 (c := 21) h0 (by omega)
  have hN := h.2.1
  unfold aN at hN
  have hN0 := h0.2.1
  unfold aN at hN0
  have e00 : aRd0 a t 0 = a 0 + t := up_at _ _ _
  have e01 : aRd0 a t 1 = 0 := by
    unfold aRd0
    rw [up_ne _ _ (by omega), up_at]
  have e : ∀ i, i ≠ 0 → i ≠ 1 → aRd0 a t i = a i := fun i w1 w2 => by
    unfold aRd0
    rw [up_ne _ _ w1, up_ne _ _ w2]
  obtain ⟨q1, q2, q3, q4, q5, n1, n2, n3, n4, n5, n6, n7, n8, n9, n10, n11, n12⟩ := id hd
  have hd0 : dR (d.1, d.2.1, d.2.2.1, d.2.2.2.1, d.2.2.2.2.1, d.2.2.2.2.2.1, d.2.2.2.2.2.2.1, zI (a 0 + t), 0, d.2.2.2.2.2.2.2.2.2.1, d.2.2.2.2.2.2.2.2.2.2.1, d.2.2.2.2.2.2.2.2.2.2.2.1, d.2.2.2.2.2.2.2.2.2.2.2.2.1, d.2.2.2.2.2.2.2.2.2.2.2.2.2.1, d.2.2.2.2.2.2.2.2.2.2.2.2.2.2.1, d.2.2.2.2.2.2.2.2.2.2.2.2.2.2.2.1, d.2.2.2.2.2.2.2.2.2.2.2.2.2.2.2.2) (aRd0 a t) := by
    refine dR_num hd (by omega) (by omega) (e 2 (by omega) (by omega)) (e 8 (by omega) (by omega)) (e 14 (by omega) (by omega)) (fun i w1 w2 => e i (by omega) (by omega)) ⟨rfl, rfl, rfl, rfl⟩ rfl ?_
    unfold nR
    dsimp only
    rw [e00, e01, e 4 (by omega) (by omega), e 3 (by omega) (by omega), e 5 (by omega) (by omega), e 6 (by omega) (by omega), e 7 (by omega) (by omega), e 13 (by omega) (by omega), e 9 (by omega) (by omega), e 10 (by omega) (by omega), e 11 (by omega) (by omega), e 12 (by omega) (by omega)]
    exact ⟨n1, n2, rfl, rfl, n5, n6, n7, n8, n9, n10, n11, n12⟩
  unfold q_X1_hostReads zn
  rw [c_isSpan (zr_s (by omega)), zb_some, if_pos hs, if_neg (by decide), if_neg (show ¬ zI t < 1 from zlt_n (y := 1) (zr_s (by omega)) (zr_s (by omega)) (by omega)), if_pos (show zI t ≤ 200 from zle_p (y := 200) (zr_s (by omega)) (zr_s (by omega)) (by omega)), n3, zI_add, if_pos (show zI (a 0 + t) ≤ 99999 from zle_p (y := 99999) (zr_s (by omega)) (zr_s (by omega)) (by omega))]
  have b5 : aRd0 a t 5 = a 5 := e 5 (by omega) (by omega)
  have b6 : aRd0 a t 6 = a 6 := e 6 (by omega) (by omega)
  have b10 : aRd0 a t 10 = a 10 := e 10 (by omega) (by omega)
  unfold aRead
  generalize aRd0 a t = b at h0 h1 e1 hN0 e00 hd0 b5 b6 b10 ⊢
  dsimp only
  by_cases c1 : b 5 = -6
  · have eR : aRd1 b = b := if_pos c1
    rw [if_pos (show d.2.2.2.2.2.2.2.2.2.1 = -6 by rw [n5, ← b5, c1, z6]), eR]
    exact c_J66 (c := 21) h0 (by omega) hs (by omega) hd0
  · rw [if_neg (show ¬ d.2.2.2.2.2.2.2.2.2.1 = -6 by rw [n5, ← b5, z6]; exact zeq_n (h0.1 5) (zr_s (by omega)) c1)]
    obtain ⟨z, hz⟩ : ∃ z : Int, z = (if 2 ≤ b 6 then b 6 - 2 else 0) := ⟨_, rfl⟩
    have eR : aRd1 b = aLogs (up (up b 6 z) 10 (b 10 + 1)) 2 (b 5) := by
      unfold aRd1
      rw [if_neg c1, hz]
    have hzb : 0 ≤ z ∧ z ≤ b 6 := by
      rw [hz]
      split <;> omega
    have ep : ∀ i, i ≠ 6 → i ≠ 10 → up (up b 6 z) 10 (b 10 + 1) i = b i := fun i w1 w2 => by rw [up_ne _ _ w2, up_ne _ _ w1]
    have el : ∀ i, i < 74 → i ≠ 14 → i ≠ 6 → i ≠ 10 → aRd1 b i = b i := fun i w1 w2 w3 w4 => by rw [eR, aLogs_lo _ _ _ w1 w2, ep i w3 w4]
    have e10 : aRd1 b 10 = b 10 + 1 := by rw [eR, aLogs_lo _ _ _ (by omega) (by omega), up_at]
    have e6 : aRd1 b 6 = z := by rw [eR, aLogs_lo _ _ _ (by omega) (by omega), up_ne _ _ (by omega), up_at]
    obtain ⟨m1, m2, m3, m4, m5, l1, l2, l3, l4, l5, l6, l7, l8, l9, l10, l11, l12⟩ := id hd0
    dsimp only at m1 m2 m3 m4 m5 l1 l2 l3 l4 l5 l6 l7 l8 l9 l10 l11 l12
    obtain ⟨g', v1, v2⟩ := c_log (a := up (up b 6 z) 10 (b 10 + 1)) (g := d.2.2.2.2.1) (k := 2) (s := b 5) (by rw [ep 14 (by omega) (by omega)]; omega) (lR_of m5 (ep 14 (by omega) (by omega)) (fun i w1 w2 => ep i (by omega) (by omega)))
    rw [ep 0 (by omega) (by omega), e00] at v1
    rw [← eR] at v2
    have hmax : (if (0 : Int32) < d.2.2.2.2.2.2.2.2.2.2.1 - 2 then d.2.2.2.2.2.2.2.2.2.2.1 - 2 else 0) = zI z := by
      rw [l6, show zI (b 6) - 2 = zI (b 6 - 2) from zI_sub _ 2, hz]
      by_cases c2 : 2 < b 6
      · rw [if_pos (show (0 : Int32) < zI (b 6 - 2) from zlt_p (x := 0) (zr_s (by omega)) (zr_s (by omega)) (by omega)), if_pos (by omega)]
      · rw [if_neg (show ¬ (0 : Int32) < zI (b 6 - 2) from zlt_n (x := 0) (zr_s (by omega)) (zr_s (by omega)) (by omega))]
        by_cases c3 : 2 ≤ b 6
        · rw [if_pos c3, show b 6 - 2 = 0 by omega]
          rfl
        · rw [if_neg c3]
          rfl
    have hp : q_X1_pauseCheck (d.1, d.2.1, d.2.2.1, d.2.2.2.1, d.2.2.2.2.1, d.2.2.2.2.2.1, d.2.2.2.2.2.2.1, zI (a 0 + t), 0, d.2.2.2.2.2.2.2.2.2.1, d.2.2.2.2.2.2.2.2.2.2.1, d.2.2.2.2.2.2.2.2.2.2.2.1, d.2.2.2.2.2.2.2.2.2.2.2.2.1, d.2.2.2.2.2.2.2.2.2.2.2.2.2.1, d.2.2.2.2.2.2.2.2.2.2.2.2.2.2.1, d.2.2.2.2.2.2.2.2.2.2.2.2.2.2.2.1, d.2.2.2.2.2.2.2.2.2.2.2.2.2.2.2.2) = some (g', zI z, zI (b 10 + 1)) := by
      unfold q_X1_pauseCheck zn
      dsimp only
      rw [hmax, l10, zI_a1, l5, show q_X3_append d.2.2.2.2.1 (zI (a 0 + t)) 2 (zI (b 5)) = some g' from v1, zb_some]
    rw [hp, zb_some]
    refine c_J66 (c := 20) h1 (by omega) hs (by omega) ?_
    refine ⟨fun j hj => ?_, fun j hj => ?_, sR_of m3 (el 2 (by omega) (by omega) (by omega) (by omega)) (by omega) (fun i v1 v2 => el i (by omega) (by omega) (by omega) (by omega)), qR_of m4 (el 8 (by omega) (by omega) (by omega) (by omega)) (by omega) (fun j hj => el _ (by omega) (by omega) (by omega) (by omega)), v2, ?_⟩
    · rw [el _ (by omega) (by omega) (by omega) (by omega)]
      exact m1 j hj
    · rw [el _ (by omega) (by omega) (by omega) (by omega)]
      exact m2 j hj
    · unfold nR
      dsimp only
      rw [e6, e10, el 4 (by omega) (by omega) (by omega) (by omega), el 3 (by omega) (by omega) (by omega) (by omega), el 0 (by omega) (by omega) (by omega) (by omega), el 1 (by omega) (by omega) (by omega) (by omega), el 5 (by omega) (by omega) (by omega) (by omega), el 7 (by omega) (by omega) (by omega) (by omega), el 13 (by omega) (by omega) (by omega) (by omega), el 9 (by omega) (by omega) (by omega) (by omega), el 11 (by omega) (by omega) (by omega) (by omega), el 12 (by omega) (by omega) (by omega) (by omega)]
      exact ⟨l1, l2, l3, l4, l5, rfl, l7, l8, l9, rfl, l11, l12⟩
end PR
