/-! the class's disk against the model's row -/
def sRn (s : tX5) (a : Nat → Int) (n : Nat) : Prop := ∀ k : Nat, k < n → s.1 k = zI (a (34 + 2 * k)) ∧ s.2.1 k = zI (a (34 + 2 * k + 1))
def sR (s : tX5) (a : Nat → Int) : Prop := sRn s a (a 2).toNat ∧ s.2.2 = zI (a 2)
def qR (q : tX0) (a : Nat → Int) : Prop := (∀ k : Nat, (k : Int) < a 8 → q.1 k = zI (a (28 + k))) ∧ q.2 = zI (a 8)
def nx (L : Int) : Int := if L = 0 then 0 else (L - 1) % 10 + 1
def mn (L : Int) : Int := if L < 10 then L else 10
def lR (g : tX3) (a : Nat → Int) : Prop := (∀ k : Nat, k < 10 → g.1 k = zI (a (74 + 3 * k)) ∧ g.2.1 k = zI (a (74 + 3 * k + 1)) ∧ g.2.2.1 k = zI (a (74 + 3 * k + 2))) ∧ g.2.2.2.1 = zI (nx (a 14)) ∧ g.2.2.2.2 = zI (mn (a 14))
def rs (x : Int) : Int := if x = -6 then 0 else (x + 1) % 8
def nR (d : tX1) (a : Nat → Int) : Prop := d.2.2.2.2.2.1 = zI (a 4) ∧ d.2.2.2.2.2.2.1 = zI (a 3) ∧ d.2.2.2.2.2.2.2.1 = zI (a 0) ∧ d.2.2.2.2.2.2.2.2.1 = zI (a 1) ∧ d.2.2.2.2.2.2.2.2.2.1 = zI (a 5) ∧ d.2.2.2.2.2.2.2.2.2.2.1 = zI (a 6) ∧ d.2.2.2.2.2.2.2.2.2.2.2.1 = zI (a 7) ∧ d.2.2.2.2.2.2.2.2.2.2.2.2.1 = zI (rs (a 13)) ∧ d.2.2.2.2.2.2.2.2.2.2.2.2.2.1 = zI (a 9) ∧ d.2.2.2.2.2.2.2.2.2.2.2.2.2.2.1 = zI (a 10) ∧ d.2.2.2.2.2.2.2.2.2.2.2.2.2.2.2.1 = zI (a 11) ∧ d.2.2.2.2.2.2.2.2.2.2.2.2.2.2.2.2 = zI (a 12)
def dR (d : tX1) (a : Nat → Int) : Prop := (∀ k : Nat, k < 5 → d.1 k = zI (a (15 + k))) ∧ (∀ k : Nat, k < 8 → d.2.1 k = zI (a (20 + k))) ∧ sR d.2.2.1 a ∧ qR d.2.2.2.1 a ∧ lR d.2.2.2.2.1 a ∧ nR d a
theorem zg_N {β : Type} {n : Nat} {f : Nat → Int32} {i : Nat} {K : Int32 → Option β} (hi : i < n) (hn : n < 2147483648) : zg n f (zI i) K = K (f i) := by
  rw [zg_zI (by omega) hn]
  rfl
theorem zs_N {β : Type} {n : Nat} {f : Nat → Int32} {i : Nat} {x : Int32} {K : (Nat → Int32) → Option β} (hi : i < n) (hn : n < 2147483648) : zs n f (zI i) x K = K (upd f i x) := by
  rw [zs_zI (by omega) hn]
  rfl
theorem upd_at (f : Nat → Int32) (k : Nat) (x : Int32) : upd f k x k = x := if_pos rfl
theorem upd_ne' (f : Nat → Int32) {k i : Nat} (x : Int32) (h : i ≠ k) : upd f k x i = f i := if_neg h
section PC
variable {a : Nat → Int}
theorem c_isSpan {p : Int} (hp : zr p) : q_X6_isSpan (zI p) = some (if 0 ≤ p ∧ p ≤ 7 then 1 else 0) := by
  unfold q_X6_isSpan
  simp only [show (zI p < (0 : Int32)) = _ from propext (zI_lt (y := 0) hp (zr_s (by omega))), show ((8 : Int32) ≤ zI p) = _ from propext (zI_le (x := 8) (zr_s (by omega)) hp)]
  split
  · rw [if_neg (by omega)]
  · split
    · rw [if_neg (by omega)]
    · rw [if_pos (by omega)]
theorem c_isSetting {p : Int} (hp : zr p) : q_X6_isSetting (zI p) = some (if 0 ≤ p ∧ p ≤ 4 then 1 else 0) := by
  unfold q_X6_isSetting
  simp only [show (zI p < (0 : Int32)) = _ from propext (zI_lt (y := 0) hp (zr_s (by omega))), show ((5 : Int32) ≤ zI p) = _ from propext (zI_le (x := 5) (zr_s (by omega)) hp)]
  split
  · rw [if_neg (by omega)]
  · split
    · rw [if_neg (by omega)]
    · rw [if_pos (by omega)]
theorem c_sumOf {s : tX5} {sp mo : Int} (hr : ∀ i, zr (a i)) (h2 : 0 ≤ a 2 ∧ a 2 ≤ 20) (hs : zr sp) (hm : zr mo) (hR : sR s a) : q_X5_sumOf s (zI sp) (zI mo) = some (zI (aSum a sp mo)) := by
  unfold q_X5_sumOf aSum
  rw [zl_run (fun k => (zI (zsum (gSum a sp mo) k), zI k)) (a := ((0 : Int32), (0 : Int32))) (b := zI (zsum (gSum a sp mo) (a 2).toNat)) (a 2).toNat rfl (by omega) ?_ ?_, zb_some]
  · intro k hk
    obtain ⟨e1, e2⟩ := hR.1 k hk
    unfold q_X5_sumOf_L5
    dsimp only
    rw [if_neg (show ¬ s.2.2 ≤ zI k by rw [hR.2]; exact zle_n (hr 2) (zr_s (by omega)) (by omega)), zg_N (by omega) (by omega), e1, zg_N (by omega) (by omega), e2]
    simp only [zI_eq (hr (34 + 2 * k)) hs, zI_lt hm (hr (34 + 2 * k + 1)), zI_1]
    show _ = some (Sum.inl (zI (zsum (gSum a sp mo) k + gSum a sp mo k), _))
    unfold gSum zn
    by_cases c1 : a (34 + 2 * k) = sp
    · rw [if_pos c1, if_pos c1]
      by_cases c2 : mo < a (34 + 2 * k + 1)
      · rw [if_pos c2, if_pos (by omega)]
        dsimp only
        rw [zI_add]
      · rw [if_neg c2]
        dsimp only
        rw [zI_add]
        by_cases c3 : mo ≤ a (34 + 2 * k + 1)
        · rw [if_pos c3, show a (34 + 2 * k + 1) = mo by omega]
        · rw [if_neg c3]
    · rw [if_neg c1, if_neg c1, Int.add_zero]
  · unfold q_X5_sumOf_L5
    dsimp only
    rw [if_pos (show s.2.2 ≤ zI ((a 2).toNat : Nat) by rw [hR.2]; exact zle_p (hr 2) (zr_s (by omega)) (by omega))]
theorem c_sizeOf {s : tX5} {sp : Int} (hr : ∀ i, zr (a i)) (h2 : 0 ≤ a 2 ∧ a 2 ≤ 20) (hs : zr sp) (hR : sR s a) : q_X5_sizeOf s (zI sp) = some (zI (aCnt a sp)) := by
  unfold q_X5_sizeOf aCnt
  rw [zl_run (fun k => (zI (zsum (gCnt a sp) k), zI k)) (a := ((0 : Int32), (0 : Int32))) (b := zI (zsum (gCnt a sp) (a 2).toNat)) (a 2).toNat rfl (by omega) ?_ ?_, zb_some]
  · intro k hk
    obtain ⟨e1, e2⟩ := hR.1 k hk
    unfold q_X5_sizeOf_L4
    dsimp only
    rw [if_neg (show ¬ s.2.2 ≤ zI k by rw [hR.2]; exact zle_n (hr 2) (zr_s (by omega)) (by omega)), zg_N (by omega) (by omega), e1]
    simp only [zI_eq (hr (34 + 2 * k)) hs, zI_1]
    show _ = some (Sum.inl (zI (zsum (gCnt a sp) k + gCnt a sp k), _))
    unfold gCnt
    split
    · rw [zI_a1]
    · rw [Int.add_zero]
  · unfold q_X5_sizeOf_L4
    dsimp only
    rw [if_pos (show s.2.2 ≤ zI ((a 2).toNat : Nat) by rw [hR.2]; exact zle_p (hr 2) (zr_s (by omega)) (by omega))]
/-- appending a spot to the first n -/
theorem c_append {s : tX5} {b : Nat → Int} {n : Nat} {sp t : Int} (hn : n < 20) (hR : sRn s b n) (h2 : s.2.2 = zI n) : ∃ s' : tX5, q_X5_append s (zI sp) (zI t) = some (1, s') ∧ sRn s' (ePut b n sp t) (n + 1) ∧ s'.2.2 = zI ((n + 1 : Nat) : Int) ∧ ∀ k, n < k → s'.1 k = s.1 k ∧ s'.2.1 k = s.2.1 k := by
  refine ⟨(upd s.1 n (zI sp), upd s.2.1 n (zI t), zI ((n + 1 : Nat) : Int)), ?_, fun k hk => ?_, rfl, fun k hk => ⟨upd_ne' _ _ (by omega), upd_ne' _ _ (by omega)⟩⟩
  · unfold q_X5_append zn
    rw [h2, if_pos (show zI n < (20 : Int32) from zlt_p (y := 20) (zr_s (by omega)) (zr_s (by omega)) (by omega)), zs_N hn (by omega), zs_N hn (by omega), zI_1]
  · dsimp only
    by_cases c : k = n
    · subst c
      rw [upd_at, upd_at, ePut_0, ePut_1]
      exact ⟨rfl, rfl⟩
    · rw [upd_ne' _ _ c, upd_ne' _ _ c, ePut_ne (by omega), ePut_ne (by omega)]
      exact hR k (by omega)
/-- the list -/
theorem c_placeOf {q : tX0} {s : Int} {c : Int} (h : aI c a) (hs : zr s) (hR : qR q a) : q_X0_placeOf q (zI s) = some (zI (aPlace a s)) := by
  have hr := h.1
  have hN := h.2.1
  unfold aN at hN
  have hd := h.2.2.2.1.2
  have key : ∀ j : Nat, (∀ k : Nat, k < j → a (28 + k) ≠ s) → (j : Int) ≤ a 8 → ∀ fuel : Nat, (a 8).toNat - j < fuel → zb (zl fuel (q_X0_placeOf_L2 q (zI s)) (zI j)) (zm (fun e2_0 => some ((-6))) (fun e2_1 => some (e2_1))) = some (zI (aPlace a s)) := by
    intro j hj hj8 fuel
    induction fuel generalizing j with
    | zero => intro h9; omega
    | succ fuel ih =>
      intro h9
      unfold zl
      have step : q_X0_placeOf_L2 q (zI s) (zI j) = if (j : Int) = a 8 then some (Sum.inr (Sum.inl ())) else if a (28 + j) = s then some (Sum.inr (Sum.inr (zI j))) else some (Sum.inl (zI ((j + 1 : Nat) : Int))) := by
        unfold q_X0_placeOf_L2
        by_cases c1 : (j : Int) = a 8
        · rw [if_pos c1, if_pos (show q.2 ≤ zI j by rw [hR.2]; exact zle_p (hr 8) (zr_s (by omega)) (by omega))]
        · rw [if_neg c1, if_neg (show ¬ q.2 ≤ zI j by rw [hR.2]; exact zle_n (hr 8) (zr_s (by omega)) (by omega)), zg_N (by omega) (by omega), hR.1 j (by omega)]
          simp only [zI_eq (hr (28 + j)) hs, zI_1]
      rw [step]
      by_cases c1 : (j : Int) = a 8
      · rw [if_pos c1]
        show some (-6 : Int32) = _
        unfold aPlace
        rw [pl_none (fun k hk => hj k (by omega)), z6]
      · rw [if_neg c1]
        by_cases c2 : a (28 + j) = s
        · rw [if_pos c2]
          show some (zI j) = _
          unfold aPlace
          rw [pl_some (k := j) (by omega) c2 (fun i h1 h2 h3 => hd j i (by omega) h1 (by rw [c2, h3]))]
        · rw [if_neg c2]
          refine ih (j + 1) (fun k hk => ?_) (by omega) (by omega)
          by_cases c3 : k = j
          · subst c3; exact c2
          · exact hj k (by omega)
  unfold q_X0_placeOf
  exact key 0 (fun k hk => by omega) (by omega) 1000000 (by omega)
end PC
