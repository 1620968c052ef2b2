/-! the class: list, log, the next span -/
section PC2
variable {a : Nat → Int}
theorem c_drop_no {q : tX0} {s : Int} {c : Int} (h : aI c a) (hs : zr s) (hR : qR q a) (hp : aPlace a s = -6) : q_X0_drop q (zI s) = some (0, q) := by
  unfold q_X0_drop
  rw [c_placeOf h hs hR, zb_some, hp, if_pos (show zI (-6) = -6 from z6.symm)]
theorem c_drop_yes {q : tX0} {s : Int} {p : Nat} {c : Int} (h : aI c a) (hs : zr s) (hR : qR q a) (hp : aPlace a s = p) (hp8 : (p : Int) < a 8) : ∃ q' : tX0, q_X0_drop q (zI s) = some (1, q') ∧ qR q' (aTake a p) := by
  have hr := h.1
  have hN := h.2.1
  unfold aN at hN
  have h8 : 0 < a 8 ∧ a 8 ≤ 6 := by omega
  refine ⟨(fun i => if p ≤ i ∧ i < p + ((a 8).toNat - 1 - p) then q.1 (i + 1) else q.1 i, zI (a 8 - 1)), ?_, fun k hk => ?_, ?_⟩
  · unfold q_X0_drop
    rw [c_placeOf h hs hR, zb_some, hp, if_neg (show ¬ zI (p : Nat) = -6 by rw [z6]; exact zeq_n (zr_s (by omega)) (zr_s (by omega)) (by omega)), zI_1]
    rw [zl_run (fun k => (zI ((p + 1 + k : Nat) : Int), fun i => if p ≤ i ∧ i < p + k then q.1 (i + 1) else q.1 i)) (a := (zI ((p + 1 : Nat) : Int), q.1)) (b := fun i => if p ≤ i ∧ i < p + ((a 8).toNat - 1 - p) then q.1 (i + 1) else q.1 i) ((a 8).toNat - 1 - p) ?_ (by omega) ?_ ?_, zb_some]
    · unfold q_X0_drop_J46 zn
      rw [hR.2, show zI (a 8) - 1 = zI (a 8 - 1) from zI_sub _ 1]
    · congr 1
      funext i
      rw [if_neg (by omega)]
    · intro k hk
      unfold q_X0_drop_L18
      dsimp only
      rw [if_neg (show ¬ q.2 ≤ zI ((p + 1 + k : Nat) : Int) by rw [hR.2]; exact zle_n (hr 8) (zr_s (by omega)) (by omega)), zg_N (by omega) (by omega), show zI ((p + 1 + k : Nat) : Int) - 1 = zI ((p + k : Nat) : Int) by rw [show (1 : Int32) = zI 1 from rfl, zI_sub]; congr 1; omega, zs_N (by omega) (by omega), zI_1]
      congr 3
      funext i
      unfold upd
      dsimp only
      by_cases c1 : i = p + k
      · subst c1
        rw [if_pos rfl, if_neg (show ¬ (p ≤ p + 1 + k ∧ p + 1 + k < p + k) by omega), if_pos (show p ≤ p + k ∧ p + k < p + (k + 1) by omega), show p + 1 + k = p + k + 1 by omega]
      · rw [if_neg c1]
        by_cases c2 : p ≤ i ∧ i < p + k
        · rw [if_pos c2, if_pos (by omega)]
        · rw [if_neg c2, if_neg (by omega)]
    · unfold q_X0_drop_L18
      dsimp only
      rw [if_pos (show q.2 ≤ zI ((p + 1 + ((a 8).toNat - 1 - p) : Nat) : Int) by rw [hR.2]; exact zle_p (hr 8) (zr_s (by omega)) (by omega))]
  · rw [aTake_8] at hk
    dsimp only
    rw [aTake_l a p h8 hp8 hk]
    by_cases c1 : k < p
    · rw [if_neg (by omega), if_pos c1]
      exact hR.1 k (by omega)
    · rw [if_pos (by omega), if_neg c1]
      exact hR.1 (k + 1) (by omega)
  · rw [aTake_8]
theorem c_log {g : tX3} {k s : Int} (h : 0 ≤ a 14 ∧ a 14 < 3000000) (hR : lR g a) : ∃ g' : tX3, q_X3_append g (zI (a 0)) (zI k) (zI s) = some g' ∧ lR g' (aLogs a k s) := by
  obtain ⟨h1, h2, h3⟩ := hR
  obtain ⟨e, he⟩ : ∃ e : Nat, e = (a 14 % 10).toNat := ⟨_, rfl⟩
  have heL : eL a = 74 + 3 * e := by unfold eL; rw [he]
  have he10 : e < 10 := by omega
  refine ⟨(upd g.1 e (zI (a 0)), upd g.2.1 e (zI k), upd g.2.2.1 e (zI s), zI (nx (a 14 + 1)), zI (mn (a 14 + 1))), ?_, fun j hj => ?_, ?_, ?_⟩
  · have key : ∀ w : Int32, w = zI e → q_X3_append_J14 g (zI (a 0)) (zI k) (zI s) w = some (upd g.1 e (zI (a 0)), upd g.2.1 e (zI k), upd g.2.2.1 e (zI s), zI (nx (a 14 + 1)), zI (mn (a 14 + 1))) := by
      intro w hw
      subst hw
      unfold q_X3_append_J14 zn
      rw [zs_N he10 (by omega), zs_N he10 (by omega), zs_N he10 (by omega), h3]
      have e1 : zI e + 1 = zI (nx (a 14 + 1)) := by
        rw [zI_a1]
        congr 1
        unfold nx
        rw [if_neg (by omega)]
        omega
      rw [e1]
      dsimp only
      by_cases c1 : a 14 < 10
      · rw [if_neg (show ¬ (10 : Int32) ≤ zI (mn (a 14)) from zle_n (x := 10) (zr_s (by omega)) (zr_s (by unfold mn; rw [if_pos c1]; omega)) (by unfold mn; rw [if_pos c1]; omega)), zI_a1, show mn (a 14) + 1 = mn (a 14 + 1) by unfold mn; rw [if_pos c1]; split <;> omega]
      · rw [if_pos (show (10 : Int32) ≤ zI (mn (a 14)) from zle_p (x := 10) (zr_s (by omega)) (zr_s (by unfold mn; rw [if_neg c1]; omega)) (by unfold mn; rw [if_neg c1]; omega)), show mn (a 14 + 1) = mn (a 14) by unfold mn; rw [if_neg c1, if_neg (by omega)]]
    unfold q_X3_append
    rw [h2]
    have hnx : nx (a 14) = if a 14 = 0 then 0 else (a 14 - 1) % 10 + 1 := rfl
    by_cases c1 : nx (a 14) < 10
    · rw [if_pos (show zI (nx (a 14)) < (10 : Int32) from zlt_p (y := 10) (zr_s (by rw [hnx]; split <;> omega)) (zr_s (by omega)) c1)]
      refine key _ ?_
      congr 1
      rw [hnx] at c1 ⊢
      split at c1 <;> rename_i c2
      · rw [if_pos c2]; omega
      · rw [if_neg c2]; omega
    · rw [if_neg (show ¬ zI (nx (a 14)) < (10 : Int32) from zlt_n (y := 10) (zr_s (by rw [hnx]; split <;> omega)) (zr_s (by omega)) (by omega))]
      refine key _ ?_
      rw [show (0 : Int32) = zI 0 from rfl]
      congr 1
      rw [hnx] at c1
      split at c1 <;> omega
  · have hd : ∀ i, i ≠ 14 → i ≠ eL a + 2 → i ≠ eL a + 1 → i ≠ eL a → aLogs a k s i = a i := fun i q1 q2 q3 q4 => by
      unfold aLogs
      rw [up_ne _ _ q1, up_ne _ _ q2, up_ne _ _ q3, up_ne _ _ q4]
    dsimp only
    by_cases c1 : j = e
    · subst c1
      rw [upd_at, upd_at, upd_at]
      have q0 : aLogs a k s (74 + 3 * j) = a 0 := by
        unfold aLogs
        rw [up_ne _ _ (by omega), up_ne _ _ (by omega), up_ne _ _ (by omega), heL, up_at]
      have q1 : aLogs a k s (74 + 3 * j + 1) = k := by
        unfold aLogs
        rw [up_ne _ _ (by omega), up_ne _ _ (by omega), heL, up_at]
      have q2 : aLogs a k s (74 + 3 * j + 2) = s := by
        unfold aLogs
        rw [up_ne _ _ (by omega), heL, up_at]
      rw [q0, q1, q2]
      exact ⟨rfl, rfl, rfl⟩
    · rw [upd_ne' _ _ c1, upd_ne' _ _ c1, upd_ne' _ _ c1, hd _ (by omega) (by omega) (by omega) (by omega), hd _ (by omega) (by omega) (by omega) (by omega), hd _ (by omega) (by omega) (by omega) (by omega)]
      exact h1 j hj
  · rw [aLogs_14]
  · rw [aLogs_14]
theorem c_ageOf {d : tX1} {k : Nat} (hk : k < 8) (hR : dR d a) : q_X1_ageOf d (zI k) = some (zI (aAge a k)) := by
  obtain ⟨h1, h2, h3, h4, h5, n1, n2, n3, n4⟩ := hR
  unfold q_X1_ageOf
  rw [c_isSpan (zr_s (by omega)), zb_some, if_pos (show 0 ≤ (k : Int) ∧ (k : Int) ≤ 7 by omega), if_neg (by decide), zg_N (by omega) (by omega), n3, h2 k hk, zI_sub]
  rfl
theorem c_isDue {d : tX1} {k : Nat} {c : Int} (h : aI c a) (hk : k < 8) (hR : dR d a) : q_X1_isDue d (zI k) = some (if aDue a k then 1 else 0) := by
  have hN := h.2.1
  unfold aN at hN
  have hS := h.2.2.1 k hk
  unfold q_X1_isDue
  rw [c_ageOf hk hR, zb_some, hR.1 4 (by omega), show zI (a (15 + 4)) / 2 = zI (a 19 / 2) from zI_div (x := a 19) (y := 2) (by omega) (by omega)]
  unfold aDue aAge
  simp only [zI_lt (zr_s (x := a 0 - a (20 + k)) (by omega)) (zr_s (x := a 19 / 2) (by omega))]
  split
  · rw [if_neg (by omega)]
  · rw [if_pos (by omega)]
def aRank (a : Nat → Int) (k : Nat) : Int := if a 4 = 0 then aAge a k else if a 4 = 1 then aSum a k 9 else 0
theorem c_rankOf {d : tX1} {k : Nat} {c : Int} (h : aI c a) (hk : k < 8) (hR : dR d a) : q_X1_rankOf d (zI k) = some (zI (aRank a k)) := by
  have hr := h.1
  have hN := h.2.1
  unfold aN at hN
  have hA := c_ageOf hk hR
  have hS : q_X5_sumOf d.2.2.1 (zI k) 9 = _ := c_sumOf (mo := 9) hr (by omega) (zr_s (x := (k : Int)) (by omega)) (zr_s (by omega)) hR.2.2.1
  unfold q_X1_rankOf aRank
  rw [hR.2.2.2.2.2.1, hA, hS]
  by_cases c1 : a 4 = 0
  · rw [if_pos (show zI (a 4) = 0 by rw [c1]; rfl), if_pos c1, zb_some]
  · rw [if_neg (show ¬ zI (a 4) = 0 from zeq_n (y := 0) (hr 4) (zr_s (by omega)) c1), if_neg c1]
    by_cases c2 : a 4 = 1
    · rw [if_pos (show zI (a 4) = 1 by rw [c2]; rfl), if_pos c2, zb_some]
    · rw [if_neg (show ¬ zI (a 4) = 1 from zeq_n (y := 1) (hr 4) (zr_s (by omega)) c2), if_neg c2]
      rfl
def rk (a : Nat → Int) (k : Nat) : Int := if bd a k = -6 then -1 else aRank a (bd a k).toNat
theorem aRank_b {k : Nat} {c : Int} (h : aI c a) (hk : k < 8) : 0 ≤ aRank a k ∧ aRank a k ≤ 110000 := by
  have hN := h.2.1
  unfold aN at hN
  have hS := h.2.2.1 k hk
  have hb := aSum_b (s := k) h (mo := 9) (by omega)
  unfold aRank aAge
  split
  · omega
  · split <;> omega
theorem c_chooseSpan {d : tX1} {c : Int} (h : aI c a) (hR : dR d a) : q_X1_chooseSpan d = some (zI (aNext a)) := by
  have hr := h.1
  have hN := h.2.1
  unfold aN at hN
  have key : ∀ y : Int, 0 ≤ y ∧ y ≤ 7 → (∀ k : Nat, k < 8 → ((y + k) % (8 : Nat)).toNat = aSpn a k) → q_X1_chooseSpan_J36 d (zI y) = some (zI (aBest a)) := by
    intro y hy hsp
    unfold q_X1_chooseSpan_J36 aBest
    rw [zl_run (fun k => (zI (bd a k), zI (rk a k), zI k)) (a := ((-6 : Int32), (-1 : Int32), (0 : Int32))) (b := zI (bd a 8)) 8 (by rw [z6]; rfl) (by omega) ?_ ?_, zb_some]
    · intro k hk
      have hb := bd_lt a (by omega) k (by omega)
      have hsl := aSpn_lt a hk (by omega)
      have hrk := aRank_b h hsl
      have hrb : -1 ≤ rk a k ∧ rk a k ≤ 110000 := by
        unfold rk
        split
        · omega
        · have := aRank_b h (k := (bd a k).toNat) (by omega)
          omega
      have hbt : rk a k < aRank a (aSpn a k) ↔ aBetter a (aSpn a k) (bd a k) := by
        unfold rk aBetter
        by_cases c1 : bd a k = -6
        · rw [if_pos c1]
          exact ⟨fun _ => Or.inl c1, fun _ => by omega⟩
        · rw [if_neg c1]
          have e9 : ((bd a k).toNat : Int) = bd a k := by omega
          unfold aRank
          by_cases c2 : a 4 = 0
          · rw [if_pos c2, if_pos c2]
            constructor
            · exact fun q => Or.inr (Or.inl ⟨c2, q⟩)
            · rintro (q | q | q)
              · exact absurd q c1
              · exact q.2
              · omega
          · rw [if_neg c2, if_neg c2]
            by_cases c3 : a 4 = 1
            · rw [if_pos c3, if_pos c3, e9]
              constructor
              · exact fun q => Or.inr (Or.inr ⟨c3, q⟩)
              · rintro (q | q | q)
                · exact absurd q c1
                · exact absurd q.1 c2
                · exact q.2
            · rw [if_neg c3, if_neg c3]
              constructor
              · intro q; omega
              · rintro (q | q | q)
                · exact absurd q c1
                · exact absurd q.1 c2
                · exact absurd q.1 c3
      have eb : bd a (k + 1) = if aDue a (aSpn a k) ∧ aBetter a (aSpn a k) (bd a k) then (aSpn a k : Int) else bd a k := rfl
      unfold q_X1_chooseSpan_L45
      dsimp only
      have es : (zI y + zI k) - (zI y + zI k) / 8 * 8 = zI (aSpn a k) := by
        rw [zI_add, show zI (y + k) - zI (y + k) / 8 * 8 = _ from zmod 8 (by omega) (by omega), hsp k hk]
      rw [if_neg (show ¬ (8 : Int32) ≤ zI k from zle_n (x := 8) (zr_s (by omega)) (zr_s (by omega)) (by omega)), es, c_isDue h hsl hR, zb_some, zI_1]
      by_cases c1 : aDue a (aSpn a k)
      · rw [if_pos c1, if_neg (by decide), c_rankOf h hsl hR, zb_some]
        by_cases c2 : aBetter a (aSpn a k) (bd a k)
        · rw [if_neg (zle_n (zr_s (by omega)) (zr_s (by omega)) (hbt.mpr c2)), zb_some]
          have e1 : bd a (k + 1) = aSpn a k := by rw [eb, if_pos ⟨c1, c2⟩]
          have e2 : rk a (k + 1) = aRank a (aSpn a k) := by
            unfold rk
            rw [e1, if_neg (by omega)]
            rfl
          rw [e1, e2]
        · rw [if_pos (zle_p (zr_s (by omega)) (zr_s (by omega)) (by
            have := mt hbt.mp c2
            omega))]
          have e1 : bd a (k + 1) = bd a k := by rw [eb, if_neg (fun q => c2 q.2)]
          have e2 : rk a (k + 1) = rk a k := by unfold rk; rw [e1]
          rw [e1, e2]
      · rw [if_neg c1, if_pos rfl]
        have e1 : bd a (k + 1) = bd a k := by rw [eb, if_neg (fun q => c1 q.1)]
        have e2 : rk a (k + 1) = rk a k := by unfold rk; rw [e1]
        rw [e1, e2]
    · unfold q_X1_chooseSpan_L45
      dsimp only
      rw [if_pos (show (8 : Int32) ≤ zI (8 : Nat) from zle_p (x := 8) (zr_s (by omega)) (zr_s (by omega)) (by omega))]
  obtain ⟨h1, h2, h3, h4, h5, n1, n2, n3, n4, n5, n6, n7, n8, -⟩ := hR
  unfold q_X1_chooseSpan aNext
  by_cases c1 : a 8 ≤ 0
  · rw [if_pos (show d.2.2.2.1.2 ≤ 0 by rw [h4.2]; exact zle_p (y := 0) (hr 8) (zr_s (by omega)) c1), if_pos c1]
    by_cases c2 : a 4 = 2
    · rw [if_pos (show d.2.2.2.2.2.1 = 2 by rw [n1, c2]; rfl), n8]
      refine key _ (by unfold rs; split <;> omega) (fun k hk => ?_)
      unfold aSpn rs
      rw [if_pos c2]
      by_cases c3 : a 13 = -6
      · rw [if_pos c3, if_pos c3]; congr 1; omega
      · rw [if_neg c3, if_neg c3]; congr 1; omega
    · rw [if_neg (show ¬ d.2.2.2.2.2.1 = 2 by rw [n1]; exact zeq_n (y := 2) (hr 4) (zr_s (by omega)) c2)]
      refine key 0 (by omega) (fun k hk => ?_)
      unfold aSpn
      rw [if_neg c2]
      omega
  · rw [if_neg (show ¬ d.2.2.2.1.2 ≤ 0 by rw [h4.2]; exact zle_n (y := 0) (hr 8) (zr_s (by omega)) (by omega)), if_neg c1, h4.1 0 (by omega)]
end PC2
