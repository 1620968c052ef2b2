/-! the law's own disk: its leaves over a row -/
def vQ (q : Nat → Int32) (a : Nat → Int) : Prop := ∀ i, i < 20 → q i = zI (a i)
def vT (t : Nat → Int32) (a : Nat → Int) : Prop := ∀ k, k < 8 → t k = zI (a (20 + k))
def vL (l : Nat → Int32) (a : Nat → Int) : Prop := ∀ k : Nat, (k : Int) < a 8 → l k = zI (a (28 + k))
def vP (p : Nat → Int32) (a : Nat → Int) : Prop := ∀ k : Nat, (k : Int) < a 2 → p k = zI (10 * a (34 + 2 * k) + a (34 + 2 * k + 1))
def vE (e : Nat → Int32) (a : Nat → Int) : Prop := ∀ k : Nat, (k : Int) < aMany a → ∀ c, c < 3 → e (3 * k + c) = zI (eV a k c)
section PY
variable {a : Nat → Int} {q t l p e : Nat → Int32}
theorem z_and (x : Int32) : ∃ y : Int, (0 ≤ y ∧ y < 2147483648) ∧ x &&& 2147483647 = zI y := by
  refine ⟨(x &&& 2147483647).toInt, ⟨?_, Int32.toInt_lt _⟩, (zI_of _).symm⟩
  show 0 ≤ (x &&& 2147483647).toBitVec.toInt
  have h : (x &&& 2147483647).toBitVec.msb = false := by
    rw [Int32.toBitVec_and, BitVec.msb_and]
    rw [show (2147483647 : Int32).toBitVec.msb = false by decide +kernel]
    simp
  rw [BitVec.toInt_eq_msb_cond, h]
  simp
theorem j_low (x : Int32) {n : Nat} (hn : 0 < n ∧ n < 2147483648) : ∃ m : Nat, m < n ∧ q_L_low x (zI n) = some (zI m) := by
  obtain ⟨y, hy, e⟩ := z_and x
  refine ⟨(y % n).toNat, ?_, ?_⟩
  · have := Int.emod_lt_of_pos y (show (0 : Int) < n by omega)
    have := Int.emod_nonneg y (show (n : Int) ≠ 0 by omega)
    omega
  · unfold q_L_low
    rw [zq_t (show ¬ zI (n : Nat) = 0 from zeq_n (y := 0) ⟨by omega, by omega⟩ (zr_s (by omega)) (by omega)), e, zmod n hy hn]
theorem vQ_logs {k s : Int} (h : vQ q a) : vQ (upd q 14 (zI (a 14 + 1))) (aLogs a k s) := fun i hi => by
  by_cases c : i = 14
  · rw [c, upd_at, aLogs_14]
  · rw [upd_ne' _ _ c, aLogs_lo _ _ _ (by omega) c, h i hi]
theorem aLogs_at (a : Nat → Int) (k s : Int) : aLogs a k s (eL a) = a 0 ∧ aLogs a k s (eL a + 1) = k ∧ aLogs a k s (eL a + 2) = s ∧ ∀ i, i ≠ 14 → i ≠ eL a → i ≠ eL a + 1 → i ≠ eL a + 2 → aLogs a k s i = a i := by
  have hb := eL_b a
  unfold aLogs
  refine ⟨?_, ?_, ?_, fun i h1 h2 h3 h4 => ?_⟩
  · rw [up_ne _ _ (by omega), up_ne _ _ (by omega), up_ne _ _ (by omega), up_at]
  · rw [up_ne _ _ (by omega), up_ne _ _ (by omega), up_at]
  · rw [up_ne _ _ (by omega), up_at]
  · rw [up_ne _ _ h1, up_ne _ _ h4, up_ne _ _ h3, up_ne _ _ h2]
theorem j_log {k s : Int} (h14 : q 14 = zI (a 14)) (h0 : q 0 = zI (a 0)) (h : 0 ≤ a 14 ∧ a 14 < 3000000) : ∃ e', q_L_log q e (zI k) (zI s) = some (upd q 14 (zI (a 14 + 1)), e') ∧ (vE e a → vE e' (aLogs a k s)) := by
  obtain ⟨g1, g2, g3, g4⟩ := aLogs_at a k s
  have e14 := aLogs_14 a k s
  have j53 : ∀ (w : Nat → Int32) (n : Nat), n < 10 → q_L_log_J53 q (zI k) (zI s) w (zI n) = some (upd q 14 (zI (a 14 + 1)), upd (upd (upd w (3 * n) (zI (a 0))) (3 * n + 1) (zI k)) (3 * n + 2) (zI s)) := by
    intro w n hn
    unfold q_L_log_J53 zn
    have e0 : (3 : Int32) * zI n = zI ((3 * n : Nat) : Int) := by
      rw [show (3 : Int32) = zI 3 from rfl, zI_mul]
      congr 1
    rw [e0, zs_N (by omega) (by omega), zI_1, zs_N (by omega) (by omega), show zI ((3 * n : Nat) : Int) + 2 = zI ((3 * n + 2 : Nat) : Int) from zI_k _ 2, zs_N (by omega) (by omega), h14, h0, zI_a1]
  unfold q_L_log
  by_cases c1 : a 14 < 10
  · obtain ⟨n, hn⟩ : ∃ n : Nat, n = (a 14).toNat := ⟨_, rfl⟩
    have en : a 14 = (n : Int) := by omega
    refine ⟨upd (upd (upd e (3 * n) (zI (a 0))) (3 * n + 1) (zI k)) (3 * n + 2) (zI s), ?_, fun hE i hi c hc => ?_⟩
    · rw [h14, if_pos (show zI (a 14) < 10 from zlt_p (y := 10) (zr_s (by omega)) (zr_s (by omega)) c1)]
      unfold q_L_log_J35
      rw [h14, if_neg (show ¬ 10 ≤ zI (a 14) from zle_n (x := 10) (zr_s (by omega)) (zr_s (by omega)) c1)]
      have := j53 e n (by omega)
      rw [← en] at this
      exact this
    · have hM : aMany (aLogs a k s) = a 14 + 1 := by
        unfold aMany
        rw [e14]
        split <;> omega
      have hA : ∀ j : Nat, (j : Int) ≤ a 14 → aAt (aLogs a k s) j = j := fun j hj => by
        unfold aAt
        rw [hM, e14]
        omega
      have hL : eL a = 74 + 3 * n := by unfold eL; omega
      rw [hM] at hi
      unfold eV
      rw [hA i (by omega)]
      rw [hL] at g1 g2 g3 g4
      by_cases c2 : i = n
      · rw [c2]
        rcases (show c = 0 ∨ c = 1 ∨ c = 2 by omega) with rfl | rfl | rfl
        · rw [upd_ne' _ _ (by omega), upd_ne' _ _ (by omega), Nat.add_zero, upd_at, Nat.add_zero, g1]
        · rw [upd_ne' _ _ (by omega), upd_at, g2]
        · rw [upd_at, g3]
      · rw [upd_ne' _ _ (by omega), upd_ne' _ _ (by omega), upd_ne' _ _ (by omega), g4 _ (by omega) (by omega) (by omega) (by omega)]
        have hM0 : aMany a = a 14 := by
          unfold aMany
          split <;> omega
        have := hE i (by omega) c hc
        unfold eV aAt at this
        rw [hM0] at this
        rw [this]
        congr 4
        omega
  · have hsh : zl 1000000 q_L_log_L12 (0, e) = some (fun j => if j < 27 then e (j + 3) else e j) := by
      refine zl_run (fun k => (zI k, fun j => if j < k then e (j + 3) else e j)) (a := ((0 : Int32), e)) (b := fun j => if j < 27 then e (j + 3) else e j) 27 ?_ (by omega) ?_ ?_
      · congr 1
      · intro k hk
        unfold q_L_log_L12
        dsimp only
        rw [if_neg (show ¬ (27 : Int32) ≤ zI k from zle_n (x := 27) (zr_s (by omega)) (zr_s (by omega)) (by omega)), show zI k + 3 = zI ((k + 3 : Nat) : Int) from zI_k k 3, zg_N (by omega) (by omega), zs_N (by omega) (by omega), zI_1]
        congr 3
        funext i
        unfold upd
        dsimp only
        by_cases c1 : i = k
        · subst c1
          rw [if_pos rfl, if_neg (by omega), if_pos (by omega)]
        · rw [if_neg c1]
          by_cases c2 : i < k
          · rw [if_pos c2, if_pos (by omega)]
          · rw [if_neg c2, if_neg (by omega)]
      · unfold q_L_log_L12
        dsimp only
        rw [if_pos (show (27 : Int32) ≤ zI (27 : Nat) from zle_p (x := 27) (zr_s (by omega)) (zr_s (by omega)) (by omega))]
    refine ⟨upd (upd (upd (fun j => if j < 27 then e (j + 3) else e j) (3 * 9) (zI (a 0))) (3 * 9 + 1) (zI k)) (3 * 9 + 2) (zI s), ?_, fun hE i hi c hc => ?_⟩
    · rw [h14, if_neg (show ¬ zI (a 14) < 10 from zlt_n (y := 10) (zr_s (by omega)) (zr_s (by omega)) (by omega)), hsh, zb_some]
      unfold q_L_log_J35
      rw [h14, if_pos (show 10 ≤ zI (a 14) from zle_p (x := 10) (zr_s (by omega)) (zr_s (by omega)) (by omega))]
      exact j53 _ 9 (by omega)
    · have hM : aMany (aLogs a k s) = 10 := by
        unfold aMany
        rw [e14]
        split <;> omega
      have hM0 : aMany a = 10 := by
        unfold aMany
        split <;> omega
      rw [hM] at hi
      have hL : eL a = 74 + 3 * (a 14 % 10).toNat := rfl
      have hA : aAt (aLogs a k s) i = ((a 14 + 1 - 10 + i) % 10).toNat := by
        unfold aAt
        rw [hM, e14]
      unfold eV
      by_cases c2 : i = 9
      · have hA2 : aAt (aLogs a k s) i = (a 14 % 10).toNat := by rw [hA]; omega
        rw [hA2]
        rw [hL] at g1 g2 g3
        rw [c2]
        rcases (show c = 0 ∨ c = 1 ∨ c = 2 by omega) with rfl | rfl | rfl
        · rw [upd_ne' _ _ (by omega), upd_ne' _ _ (by omega), Nat.add_zero, upd_at, Nat.add_zero, g1]
        · rw [upd_ne' _ _ (by omega), upd_at, g2]
        · rw [upd_at, g3]
      · rw [upd_ne' _ _ (by omega), upd_ne' _ _ (by omega), upd_ne' _ _ (by omega), if_pos (by omega), g4 _ (by omega) (by omega) (by omega) (by omega)]
        have := hE (i + 1) (by omega) c hc
        unfold eV aAt at this
        rw [hM0] at this
        rw [show 3 * i + c + 3 = 3 * (i + 1) + c by omega, this, hA, show a 14 - 10 + ((i + 1 : Nat) : Int) = a 14 + 1 - 10 + i by omega]
theorem pv {S T : Int} (hS : 0 ≤ S ∧ S ≤ 7) (hT : 0 ≤ T ∧ T ≤ 9) : zI (10 * S + T) / 10 = zI S ∧ zI (10 * S + T) - zI (10 * S + T) / 10 * 10 = zI T := by
  have h1 : zI (10 * S + T) / 10 = zI S := by
    rw [show zI (10 * S + T) / 10 = zI ((10 * S + T) / 10) from zI_div (y := 10) (by omega) (by omega)]
    congr 1
    omega
  refine ⟨h1, ?_⟩
  rw [h1, show (10 : Int32) = zI 10 from rfl, zI_mul, zI_sub]
  congr 1
  omega
theorem j_sum {c s mo : Int} (h : aI c a) (hs : zr s) (hm : zr mo) (hQ : vQ q a) (hP : vP p a) : q_L_sum q p (zI s) (zI mo) = some (zI (aSum a s mo)) := by
  have hr := h.1
  have hN := h.2.1
  unfold aN at hN
  have h2 := hQ 2 (by omega)
  unfold q_L_sum aSum
  rw [zl_run (fun k => (zI (zsum (gSum a s mo) k), zI k)) (a := ((0 : Int32), (0 : Int32))) (b := zI (zsum (gSum a s mo) (a 2).toNat)) (a 2).toNat rfl (by omega) ?_ ?_, zb_some]
  · intro k hk
    have hpk := h.2.2.2.2.1 k (by omega)
    obtain ⟨v1, v2⟩ := pv hpk.1 (T := a (34 + 2 * k + 1)) (by omega)
    unfold q_L_sum_L6
    dsimp only
    rw [h2, if_neg (show ¬ zI (a 2) ≤ zI k from zle_n (hr 2) (zr_s (by omega)) (by omega)), zg_N (by omega) (by omega), hP k (by omega), zg_N (by omega) (by omega), hP k (by omega), zg_N (by omega) (by omega), hP k (by omega), v2, v1, zI_1]
    show _ = some (Sum.inl (zI (zsum (gSum a s mo) k + gSum a s mo k), _))
    unfold gSum
    by_cases c1 : a (34 + 2 * k) = s
    · rw [if_pos (show zI (a (34 + 2 * k)) = zI s by rw [c1]), if_pos c1]
      by_cases c2 : a (34 + 2 * k + 1) ≤ mo
      · rw [if_pos (zle_p (hr _) hm c2), zI_add]
        by_cases c3 : mo ≤ a (34 + 2 * k + 1)
        · rw [if_pos c3, show a (34 + 2 * k + 1) = mo by omega]
        · rw [if_neg c3]
      · rw [if_neg (zle_n (hr _) hm (by omega)), zI_add, if_pos (by omega)]
    · rw [if_neg (zeq_n (hr _) hs c1), if_neg c1, Int.add_zero]
  · unfold q_L_sum_L6
    dsimp only
    rw [h2, if_pos (show zI (a 2) ≤ zI ((a 2).toNat : Nat) from zle_p (hr 2) (zr_s (by omega)) (by omega))]
theorem j_place {c s : Int} (h : aI c a) (hs : zr s) (hQ : vQ q a) (hR : vL l a) : q_L_place q l (zI s) = some (zI (aPlace a s)) := by
  have hr := h.1
  have hN := h.2.1
  unfold aN at hN
  have hd := h.2.2.2.1.2
  have h8 := hQ 8 (by omega)
  have key : ∀ j : Nat, (∀ k : Nat, k < j → a (28 + k) ≠ s) → (j : Int) ≤ a 8 → ∀ fuel : Nat, (a 8).toNat - j < fuel → zb (zl fuel (q_L_place_L2 q l (zI s)) (zI j)) (zm (fun e2_0 => some ((-6))) (fun e2_1 => some (e2_1))) = some (zI (aPlace a s)) := by
    intro j hj hj8 fuel
    induction fuel generalizing j with
    | zero => intro h9; omega
    | succ fuel ih =>
      intro h9
      unfold zl
      have step : q_L_place_L2 q l (zI s) (zI j) = if (j : Int) = a 8 then some (Sum.inr (Sum.inl ())) else if a (28 + j) = s then some (Sum.inr (Sum.inr (zI j))) else some (Sum.inl (zI ((j + 1 : Nat) : Int))) := by
        unfold q_L_place_L2
        rw [h8]
        by_cases c1 : (j : Int) = a 8
        · rw [if_pos c1, if_pos (show zI (a 8) ≤ zI j from zle_p (hr 8) (zr_s (by omega)) (by omega))]
        · rw [if_neg c1, if_neg (show ¬ zI (a 8) ≤ zI j from zle_n (hr 8) (zr_s (by omega)) (by omega)), zg_N (by omega) (by omega), hR j (by omega)]
          simp only [zI_eq (hr (28 + j)) hs, zI_1]
      rw [step]
      by_cases c1 : (j : Int) = a 8
      · rw [if_pos c1]
        show some (-6 : Int32) = _
        unfold aPlace
        rw [pl_none (fun k hk => hj k (by omega)), z6]
      · rw [if_neg c1]
        by_cases c2 : a (28 + j) = s
        · rw [if_pos c2]
          show some (zI j) = _
          unfold aPlace
          rw [pl_some (k := j) (by omega) c2 (fun i h1 h2 h3 => hd j i (by omega) h1 (by rw [c2, h3]))]
        · rw [if_neg c2]
          refine ih (j + 1) (fun k hk => ?_) (by omega) (by omega)
          by_cases c3 : k = j
          · subst c3; exact c2
          · exact hj k (by omega)
  unfold q_L_place
  exact key 0 (fun k hk => by omega) (by omega) 1000000 (by omega)
theorem vQ_take {c : Int} {n : Nat} (h : aI c a) (hp : (n : Int) < a 8) (hQ : vQ q a) : vQ (upd q 8 (zI (a 8 - 1))) (aTake a n) := fun i hi => by
  have hN := h.2.1
  unfold aN at hN
  by_cases c : i = 8
  · rw [c, upd_at, aTake_8]
  · rw [upd_ne' _ _ c, aTake_ne a n (by omega) hp c (by omega), hQ i hi]
theorem j_drop {c : Int} {n : Nat} (h : aI c a) (hp : (n : Int) < a 8) (hQ : vQ q a) (hR : vL l a) : ∃ l', q_L_drop q l (zI n) = some (upd q 8 (zI (a 8 - 1)), l') ∧ vL l' (aTake a n) := by
  have hr := h.1
  have hN := h.2.1
  unfold aN at hN
  have h8 := hQ 8 (by omega)
  refine ⟨fun i => if n ≤ i ∧ i < n + ((a 8).toNat - 1 - n) then l (i + 1) else l i, ?_, fun k hk => ?_⟩
  · unfold q_L_drop zn
    rw [h8, show zI (a 8) - 1 = zI (a 8 - 1) from zI_sub _ 1]
    dsimp only
    rw [zl_run (fun k => (zI ((n + k : Nat) : Int), fun i => if n ≤ i ∧ i < n + k then l (i + 1) else l i)) (a := (zI n, l)) (b := fun i => if n ≤ i ∧ i < n + ((a 8).toNat - 1 - n) then l (i + 1) else l i) ((a 8).toNat - 1 - n) ?_ (by omega) ?_ ?_, zb_some]
    · congr 1
      funext i
      rw [if_neg (by omega)]
    · intro k hk
      unfold q_L_drop_L10
      dsimp only
      rw [upd_at, if_neg (show ¬ zI (a 8 - 1) ≤ zI ((n + k : Nat) : Int) from zle_n (zr_s (by omega)) (zr_s (by omega)) (by omega)), zI_1, zg_N (by omega) (by omega), zs_N (by omega) (by omega)]
      congr 3
      funext i
      unfold upd
      dsimp only
      by_cases c1 : i = n + k
      · subst c1
        rw [if_pos rfl, if_neg (by omega), if_pos (by omega)]
      · rw [if_neg c1]
        by_cases c2 : n ≤ i ∧ i < n + k
        · rw [if_pos c2, if_pos (by omega)]
        · rw [if_neg c2, if_neg (by omega)]
    · unfold q_L_drop_L10
      dsimp only
      rw [upd_at, if_pos (show zI (a 8 - 1) ≤ zI ((n + ((a 8).toNat - 1 - n) : Nat) : Int) from zle_p (zr_s (by omega)) (zr_s (by omega)) (by omega))]
  · rw [aTake_8] at hk
    dsimp only
    rw [aTake_l a n (by omega) hp hk]
    by_cases c1 : k < n
    · rw [if_neg (by omega), if_pos c1]
      exact hR k (by omega)
    · rw [if_pos (by omega), if_neg c1]
      exact hR (k + 1) (by omega)
theorem j_late {c : Int} (h : aI c a) (hQ : vQ q a) (hT : vT t a) : q_L_late q t = some (zI (aOver a)) := by
  have hr := h.1
  have hN := h.2.1
  unfold aN at hN
  unfold q_L_late aOver
  rw [zl_run (fun k => (zI (zsum (gOver a) k), zI k)) (a := ((0 : Int32), (0 : Int32))) (b := zI (zsum (gOver a) 8)) 8 rfl (by omega) ?_ ?_, zb_some]
  · intro k hk
    have h1 := h.2.2.1 k hk
    unfold q_L_late_L4
    dsimp only
    rw [if_neg (show ¬ (8 : Int32) ≤ zI k from zle_n (x := 8) (zr_s (by omega)) (zr_s (by omega)) (by omega)), zg_N (by omega) (by omega), hT k hk, hQ 0 (by omega), hQ 19 (by omega), zI_sub, zI_1]
    show _ = some (Sum.inl (zI (zsum (gOver a) k + gOver a k), _))
    unfold gOver
    by_cases c1 : a 19 < a 0 - a (20 + k)
    · rw [if_neg (zle_n (zr_s (by omega)) (hr 19) c1), if_pos c1, zI_a1]
    · rw [if_pos (zle_p (zr_s (by omega)) (hr 19) (by omega)), if_neg c1, zI_a0, Int.add_zero]
  · unfold q_L_late_L4
    dsimp only
    rw [if_pos (show (8 : Int32) ≤ zI (8 : Nat) from zle_p (x := 8) (zr_s (by omega)) (zr_s (by omega)) (by omega))]
end PY
