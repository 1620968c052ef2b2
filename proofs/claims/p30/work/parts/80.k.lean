/-! the class's calls over a row -/
def UR (u : tX6) (a : Nat → Int) : Prop := aI 0 a ∧ a 0 ≤ 99999 ∧ dR u.1 a ∧ (∃ n : Nat, n ≤ 6 ∧ u.2.2.1.2.2 = zI n) ∧ jR u.2.2.2.2
section PX
variable {u : tX6} {a : Nat → Int}
theorem UR_line {g : tJ4} {t : tX1} {p : tX4} (h : UR u a) (hg : jR g) : UR (u.1, t, u.2.2.1, p, g) a := ⟨h.1, h.2.1, h.2.2.1, h.2.2.2.1, hg⟩
theorem h_keep {w : tX2} {d : tX1} (h : aI 0 a) (hd : dR d a) (hw : ∃ n : Nat, n ≤ 6 ∧ w.2.2 = zI n) : ∃ rows' : Nat → tX1, q_X2_draft w d = some rows' ∧ ∀ x : Int, zr x → ∃ w' : tX2, q_X2_keep (w.1, rows', w.2.2) (zI x) = some (zI x, w') ∧ ∃ n : Nat, n ≤ 6 ∧ w'.2.2 = zI n := by
  obtain ⟨n, hn, hsz⟩ := hw
  have hN := h.2.1
  unfold aN at hN
  obtain ⟨d1, hc, hd1⟩ := c_copyFrom (d := w.2.1 n) (by omega) (by omega) hd
  have e : (zI n).toNatClampNeg = n := by rw [zI_clamp (zr_s (by omega))]; rfl
  refine ⟨va_up w.2.1 n d1, ?_, fun x hx => ?_⟩
  · unfold q_X2_draft
    rw [hsz, e, if_neg (show ¬ zI n < 0 from zlt_n (y := 0) (zr_s (by omega)) (zr_s (by omega)) (by omega)), if_neg (by omega), hc, zb_some]
  · unfold q_X2_keep
    dsimp only
    by_cases c : 0 ≤ x
    · rw [if_pos (show 0 ≤ zI x from zle_p (x := 0) (zr_s (by omega)) hx c), hsz]
      by_cases c6 : n = 6
      · rw [if_pos (show 6 ≤ zI n from zle_p (x := 6) (zr_s (by omega)) (zr_s (by omega)) (by omega))]
        exact ⟨_, rfl, n, hn, rfl⟩
      · rw [if_neg (show ¬ 6 ≤ zI n from zle_n (x := 6) (zr_s (by omega)) (zr_s (by omega)) (by omega)), zI_1]
        exact ⟨_, rfl, n + 1, by omega, rfl⟩
    · rw [if_neg (show ¬ 0 ≤ zI x from zle_n (x := 0) (zr_s (by omega)) hx (by omega))]
      exact ⟨_, rfl, n, hn, hsz⟩
theorem k_entries (h : UR u a) : q_X6_entries u = some (zI (aMany a)) := by
  obtain ⟨hI, h9, hd, hh, hj⟩ := h
  unfold q_X6_entries
  rw [hd.2.2.2.2.1.2.2]
  congr 2
  unfold mn aMany
  split <;> split <;> omega
theorem k_overdue (h : UR u a) : q_X6_overdue u = some (zI (aOver a)) := by
  unfold q_X6_overdue
  rw [c_overdueSpans h.1 h.2.2.1, zb_some]
theorem k_nextCheck (h : UR u a) : q_X6_nextCheck u = some (zI (aNext a)) := by
  unfold q_X6_nextCheck
  rw [c_chooseSpan h.1 h.2.2.1, zb_some]
theorem k_setting (h : UR u a) {k : Nat} (hk : k < 5) : q_X6_setting u (zI k) = some (zI (a (15 + k))) := by
  obtain ⟨hI, h9, hd, hh, hj⟩ := h
  unfold q_X6_setting
  rw [c_isSetting (zr_s (by omega)), zb_some, if_pos (show 0 ≤ (k : Int) ∧ (k : Int) ≤ 4 by omega), if_neg (by decide), zg_N (by omega) (by omega), hd.1 k hk]
theorem k_count (h : UR u a) {k : Nat} (hk : k < 13) : q_X6_count u (zI k) = some (zI (a k)) := by
  obtain ⟨hI, h9, hd, hh, hj⟩ := h
  obtain ⟨q1, q2, q3, q4, q5, n1, n2, n3, n4, n5, n6, n7, n8, n9, n10, n11, n12⟩ := id hd
  have hp : zr (k : Int) := zr_s (by omega)
  have e : q_X1_numberOfDisk u.1 (zI k) = some (zI (a k)) := by
    unfold q_X1_numberOfDisk
    rw [n1, n2, n3, n4, n5, n6, n7, n9, n10, n11, n12, q3.2, q4.2]
    rcases (show k = 0 ∨ k = 1 ∨ k = 2 ∨ k = 3 ∨ k = 4 ∨ k = 5 ∨ k = 6 ∨ k = 7 ∨ k = 8 ∨ k = 9 ∨ k = 10 ∨ k = 11 ∨ k = 12 by omega) with rfl | rfl | rfl | rfl | rfl | rfl | rfl | rfl | rfl | rfl | rfl | rfl | rfl <;> rfl
  unfold q_X6_count
  rw [if_neg (show ¬ zI (k : Nat) < 0 from zlt_n (y := 0) hp (zr_s (by omega)) (by omega)), if_pos (show zI (k : Nat) < 13 from zlt_p (y := 13) hp (zr_s (by omega)) (by omega)), e, zb_some]
theorem k_span (h : UR u a) {k w : Nat} (hk : k < 8) (hw : w < 7) : q_X6_span u (zI k) (zI w) = some (zI (aOf a k w)) := by
  obtain ⟨hI, h9, hd, hh, hj⟩ := h
  unfold q_X6_span
  rw [c_isSpan (zr_s (by omega)), zb_some, if_pos (show 0 ≤ (k : Int) ∧ (k : Int) ≤ 7 by omega), if_neg (show ¬ (1 : Int32) = 0 by decide), if_neg (show ¬ zI (w : Nat) < 0 from zlt_n (y := 0) (zr_s (by omega)) (zr_s (by omega)) (by omega)), if_pos (show zI (w : Nat) < 7 from zlt_p (y := 7) (zr_s (by omega)) (zr_s (by omega)) (by omega)), c_numberOfSpan hI hk hw hd, zb_some]
theorem k_tries (h : UR u a) {s j : Nat} {i : Int} (hs : s < 8) (hk : j < (a 2).toNat) (h1 : a (34 + 2 * j) = s) (hc : cN a s j = i) : q_X6_tries u (zI s) (zI i) = some (zI (a (34 + 2 * j + 1))) := by
  obtain ⟨hI, h9, hd, hh, hj⟩ := h
  have hN := hI.2.1
  unfold aN at hN
  have hb := cN_b a s j
  unfold q_X6_tries
  rw [c_isSpan (zr_s (by omega)), zb_some, if_pos (show 0 ≤ (s : Int) ∧ (s : Int) ≤ 7 by omega), if_neg (show ¬ (1 : Int32) = 0 by decide), c_triesAt hI.1 (by omega) (zr_s (by omega)) (zr_s (by omega)) hd.2.2.1 hk h1 hc, zb_some]
theorem k_tries_no (h : UR u a) {s : Nat} (hs : s < 8) : q_X6_tries u (zI s) (zI (aCnt a s)) = some (-1) := by
  obtain ⟨hI, h9, hd, hh, hj⟩ := h
  have hN := hI.2.1
  unfold aN at hN
  have hb : 0 ≤ aCnt a s ∧ aCnt a s ≤ (a 2).toNat := cN_b a s (a 2).toNat
  unfold q_X6_tries
  rw [c_isSpan (zr_s (by omega)), zb_some, if_pos (show 0 ≤ (s : Int) ∧ (s : Int) ≤ 7 by omega), if_neg (show ¬ (1 : Int32) = 0 by decide), c_triesAt_no hI.1 (by omega) (zr_s (by omega)) (zr_s (by omega)) hd.2.2.1 (by omega), zb_some]
theorem k_entry (h : UR u a) {i c : Nat} (hi : (i : Int) < aMany a) (hc : c < 3) : q_X6_entry u (zI i) (zI c) = some (zI (eV a i c), u.2.2.2.2) := by
  obtain ⟨hI, h9, hd, hh, hj⟩ := h
  have hN := hI.2.1
  unfold aN at hN
  have hl := hd.2.2.2.2.1
  have hb : aMany a ≤ 10 := by
    unfold aMany
    split <;> omega
  unfold q_X6_entry
  rw [c_has (by omega) (zr_s (by omega)) hl, zb_some, if_pos (show 0 ≤ (i : Int) ∧ (i : Int) < aMany a by omega), if_neg (show ¬ (1 : Int32) = 0 by decide), if_neg (show ¬ zI (c : Nat) < 0 from zlt_n (y := 0) (zr_s (by omega)) (zr_s (by omega)) (by omega)), if_pos (show zI (c : Nat) < 4 from zlt_p (y := 4) (zr_s (by omega)) (zr_s (by omega)) (by omega))]
  rcases (show c = 0 ∨ c = 1 ∨ c = 2 by omega) with rfl | rfl | rfl
  · rw [if_pos (show zI ((0 : Nat) : Int) = 0 from rfl), c_tickAt (by omega) hi hl, zb_some]
  · rw [if_neg (show ¬ zI ((1 : Nat) : Int) = 0 by decide), if_pos (show zI ((1 : Nat) : Int) = 1 from rfl), c_kindAt (by omega) hi hl, zb_some]
  · rw [if_neg (show ¬ zI ((2 : Nat) : Int) = 0 by decide), if_neg (show ¬ zI ((2 : Nat) : Int) = 1 by decide), if_pos (show zI ((2 : Nat) : Int) = 2 from rfl), c_spanAt (by omega) hi hl, zb_some]
theorem k_entry_no (h : UR u a) : q_X6_entry u (zI (aMany a)) 0 = some (-1, u.2.2.2.2) := by
  obtain ⟨hI, h9, hd, hh, hj⟩ := h
  have hN := hI.2.1
  unfold aN at hN
  have hl := hd.2.2.2.2.1
  have hb : 0 ≤ aMany a ∧ aMany a ≤ 10 := by
    unfold aMany
    split <;> omega
  unfold q_X6_entry
  rw [c_has (by omega) (zr_s (by omega)) hl, zb_some, if_neg (show ¬ (0 ≤ aMany a ∧ aMany a < aMany a) by omega), if_pos rfl]
theorem k_entry3 (h : UR u a) {i : Nat} (hi : (i : Int) < aMany a) : ∃ g : tJ4, q_X6_entry u (zI i) 3 = some (zI (lL (eV a i 0) (eV a i 1) : Nat), g) ∧ jR g := by
  obtain ⟨hI, h9, hd, hh, hj⟩ := h
  have hN := hI.2.1
  unfold aN at hN
  have hl := hd.2.2.2.2.1
  obtain ⟨hT, hK, hS⟩ := eV_b hI hi
  have hb : aMany a ≤ 10 := by
    unfold aMany
    split <;> omega
  obtain ⟨g, w1, w2⟩ := c_writeLine hI h9 hi hl hj
  refine ⟨g, ?_, jR_lW (by omega) hK w2⟩
  unfold q_X6_entry
  rw [c_has (by omega) (zr_s (by omega)) hl, zb_some, if_pos (show 0 ≤ (i : Int) ∧ (i : Int) < aMany a by omega), if_neg (show ¬ (1 : Int32) = 0 by decide), if_neg (show ¬ (3 : Int32) < 0 by decide), if_pos (show (3 : Int32) < 4 by decide), if_neg (show ¬ (3 : Int32) = 0 by decide), if_neg (show ¬ (3 : Int32) = 1 by decide), if_neg (show ¬ (3 : Int32) = 2 by decide), w1, zb_some]
  unfold q_J4_length_8abf5 q_J5_length_8abf5
  rw [zb_some, zb_some, w2.2.1]
theorem k_lineAt (h : UR u a) {i p : Nat} (hi : (i : Int) < aMany a) (hp : p < lL (eV a i 0) (eV a i 1)) : ∃ g : tJ4, q_X6_lineAt u (zI i) (zI p) = some (zI (lI (eV a i 0) (eV a i 1) (eV a i 2) p), g) ∧ jR g := by
  obtain ⟨hI, h9, hd, hh, hj⟩ := h
  have hN := hI.2.1
  unfold aN at hN
  have hl := hd.2.2.2.2.1
  obtain ⟨hT, hK, hS⟩ := eV_b hI hi
  have hb : aMany a ≤ 10 := by
    unfold aMany
    split <;> omega
  have hL := lL_b (T := eV a i 0) (by omega) hK
  obtain ⟨g, w1, w2⟩ := c_writeLine hI h9 hi hl hj
  refine ⟨g, ?_, jR_lW (by omega) hK w2⟩
  unfold q_X6_lineAt
  rw [c_has (by omega) (zr_s (by omega)) hl, zb_some, if_pos (show 0 ≤ (i : Int) ∧ (i : Int) < aMany a by omega), if_neg (show ¬ (1 : Int32) = 0 by decide), w1, zb_some]
  unfold q_J4_length_8abf5 q_J5_length_8abf5
  rw [zb_some, zb_some, w2.2.1, if_neg (show ¬ zI (p : Nat) < 0 from zlt_n (y := 0) (zr_s (by omega)) (zr_s (by omega)) (by omega)), if_pos (show zI (p : Nat) < zI (lL (eV a i 0) (eV a i 1) : Nat) from zlt_p (zr_s (by omega)) (zr_s (by omega)) (by omega)), c_charAt (by omega) hK hS w2 hp, zb_some]
theorem k_lineAt_no (h : UR u a) {i : Nat} (hi : (i : Int) < aMany a) : ∃ g : tJ4, q_X6_lineAt u (zI i) (zI (lL (eV a i 0) (eV a i 1) : Nat)) = some (-1, g) ∧ jR g := by
  obtain ⟨hI, h9, hd, hh, hj⟩ := h
  have hN := hI.2.1
  unfold aN at hN
  have hl := hd.2.2.2.2.1
  obtain ⟨hT, hK, hS⟩ := eV_b hI hi
  have hb : aMany a ≤ 10 := by
    unfold aMany
    split <;> omega
  have hL := lL_b (T := eV a i 0) (by omega) hK
  obtain ⟨g, w1, w2⟩ := c_writeLine hI h9 hi hl hj
  refine ⟨g, ?_, jR_lW (by omega) hK w2⟩
  unfold q_X6_lineAt
  rw [c_has (by omega) (zr_s (by omega)) hl, zb_some, if_pos (show 0 ≤ (i : Int) ∧ (i : Int) < aMany a by omega), if_neg (show ¬ (1 : Int32) = 0 by decide), w1, zb_some]
  unfold q_J4_length_8abf5 q_J5_length_8abf5
  rw [zb_some, zb_some, w2.2.1, if_neg (show ¬ zI (lL (eV a i 0) (eV a i 1) : Nat) < 0 from zlt_n (y := 0) (zr_s (by omega)) (zr_s (by omega)) (by omega)), if_neg (show ¬ zI (lL (eV a i 0) (eV a i 1) : Nat) < zI (lL (eV a i 0) (eV a i 1) : Nat) from zlt_n (zr_s (by omega)) (zr_s (by omega)) (by omega))]
/-- forecasts -/
noncomputable def xW (a : Nat → Int) (n : Nat) (w : Int) : Int := aOver (aTicks (up a 4 w) n)
theorem up_self (a : Nat → Int) (k : Nat) : up a k (a k) = a := by
  funext i
  unfold up
  split
  · rename_i h
    rw [h]
  · rfl
theorem k_ifQuiet (h : UR u a) {n : Nat} (hn : n ≤ 3000) : ∃ d' : tX1, q_X6_ifQuiet u (zI n) = some (zI (xW a n (a 4)), d') := by
  obtain ⟨hI, h9, hd, hh, hj⟩ := h
  have hN := hI.2.1
  unfold aN at hN
  obtain ⟨d', w1⟩ := c_over (u := u) (w := a 4) (n := n) hI h9 hd (by omega) hn
  refine ⟨d', ?_⟩
  unfold q_X6_ifQuiet
  rw [if_neg (show ¬ zI n < 0 from zlt_n (y := 0) (zr_s (by omega)) (zr_s (by omega)) (by omega)), if_pos (show zI n ≤ 3000 from zle_p (y := 3000) (zr_s (by omega)) (zr_s (by omega)) (by omega)), hd.2.2.2.2.2.1, w1, zb_some]
  rfl
theorem aOver_b (a : Nat → Int) : 0 ≤ aOver a ∧ aOver a ≤ 8 := by
  have := zsum_le (g := gOver a) (c := 1) (n := 8) (fun k _ => by unfold gOver; split <;> omega)
  unfold aOver
  omega
theorem k_bestWay (h : UR u a) {n : Nat} (hn : n ≤ 3000) : ∃ d' : tX1, q_X6_bestWay u (zI n) = some (zI (if (if xW a n 0 ≤ xW a n 1 then xW a n 0 else xW a n 1) ≤ xW a n 2 then (if xW a n 0 ≤ xW a n 1 then 0 else 1) else 2), d') := by
  obtain ⟨hI, h9, hd, hh, hj⟩ := h
  have hN := hI.2.1
  unfold aN at hN
  obtain ⟨d1, k1⟩ := c_over (u := u) (w := 0) (n := n) hI h9 hd (by omega) (by omega)
  obtain ⟨d2, k2⟩ := c_over (u := (u.1, d1, u.2.2.1, u.2.2.2.1, u.2.2.2.2)) (w := 1) (n := n) hI h9 hd (by omega) (by omega)
  obtain ⟨d3, k3⟩ := c_over (u := (u.1, d2, u.2.2.1, u.2.2.2.1, u.2.2.2.2)) (w := 2) (n := n) hI h9 hd (by omega) (by omega)
  have b0 : 0 ≤ xW a n 0 ∧ xW a n 0 ≤ 8 := aOver_b _
  have b1 : 0 ≤ xW a n 1 ∧ xW a n 1 ≤ 8 := aOver_b _
  have b2 : 0 ≤ xW a n 2 ∧ xW a n 2 ≤ 8 := aOver_b _
  change q_X6_overdueAfter u (zI n) (zI 0) = some (zI (xW a n 0), d1) at k1
  change q_X6_overdueAfter _ (zI n) (zI 1) = some (zI (xW a n 1), d2) at k2
  change q_X6_overdueAfter _ (zI n) (zI 2) = some (zI (xW a n 2), d3) at k3
  generalize xW a n 0 = x0 at *
  generalize xW a n 1 = x1 at *
  generalize xW a n 2 = x2 at *
  have cs1 : ∀ (g : Int32) (f : Int), 0 ≤ f ∧ f ≤ 8 → q_X6_bestWay_L26 u (zI (n : Nat)) (g, zI f, 1, d1) = some (Sum.inl ((if f ≤ x1 then g else 1), zI (if f ≤ x1 then f else x1), 2, d2)) := by
    intro g f hf
    unfold q_X6_bestWay_L26
    dsimp only
    rw [if_neg (show ¬ (3 : Int32) ≤ 1 by decide), show q_X6_overdueAfter (u.1, d1, u.2.2.1, u.2.2.2.1, u.2.2.2.2) (zI (n : Nat)) 1 = _ from k2, zb_some]
    dsimp only
    by_cases c : f ≤ x1
    · rw [if_pos (zle_p (zr_s (by omega)) (zr_s (by omega)) c), if_pos c, if_pos c]
      rfl
    · rw [if_neg (zle_n (zr_s (by omega)) (zr_s (by omega)) (by omega)), if_neg c, if_neg c]
      rfl
  have cs2 : ∀ (g : Int32) (f : Int), 0 ≤ f ∧ f ≤ 8 → q_X6_bestWay_L26 u (zI (n : Nat)) (g, zI f, 2, d2) = some (Sum.inl ((if f ≤ x2 then g else 2), zI (if f ≤ x2 then f else x2), 3, d3)) := by
    intro g f hf
    unfold q_X6_bestWay_L26
    dsimp only
    rw [if_neg (show ¬ (3 : Int32) ≤ 2 by decide), show q_X6_overdueAfter (u.1, d2, u.2.2.1, u.2.2.2.1, u.2.2.2.2) (zI (n : Nat)) 2 = _ from k3, zb_some]
    dsimp only
    by_cases c : f ≤ x2
    · rw [if_pos (zle_p (zr_s (by omega)) (zr_s (by omega)) c), if_pos c, if_pos c]
      rfl
    · rw [if_neg (zle_n (zr_s (by omega)) (zr_s (by omega)) (by omega)), if_neg c, if_neg c]
      rfl
  have cs3 : ∀ (g f : Int32), q_X6_bestWay_L26 u (zI (n : Nat)) (g, f, 3, d3) = some (Sum.inr (g, d3)) := by
    intro g f
    unfold q_X6_bestWay_L26
    dsimp only
    rw [if_pos (show (3 : Int32) ≤ 3 by decide)]
  have hm : 0 ≤ (if x0 ≤ x1 then x0 else x1) ∧ (if x0 ≤ x1 then x0 else x1) ≤ 8 := by split <;> omega
  have cl : zl 1000000 (q_X6_bestWay_L26 u (zI (n : Nat))) (0, zI x0, 1, d1) = some ((if (if x0 ≤ x1 then x0 else x1) ≤ x2 then (if x0 ≤ x1 then (0 : Int32) else 1) else 2), d3) :=
    (zl_in (n := 999999) (cs1 _ _ b0)).trans ((zl_in (n := 999998) (cs2 _ _ hm)).trans (zl_out (n := 999997) (cs3 _ _)))
  refine ⟨d3, ?_⟩
  unfold q_X6_bestWay
  rw [if_neg (show ¬ zI n < 0 from zlt_n (y := 0) (zr_s (by omega)) (zr_s (by omega)) (by omega)), if_pos (show zI n ≤ 3000 from zle_p (y := 3000) (zr_s (by omega)) (zr_s (by omega)) (by omega)), show q_X6_overdueAfter u (zI (n : Nat)) 0 = _ from k1, zb_some]
  dsimp only
  rw [cl, zb_some]
  dsimp only
  congr 2
  by_cases q1 : x0 ≤ x1
  · simp only [if_pos q1]
    by_cases q2 : x0 ≤ x2
    · simp only [if_pos q2]
      rfl
    · simp only [if_neg q2]
      rfl
  · simp only [if_neg q1]
    by_cases q2 : x1 ≤ x2
    · simp only [if_pos q2]
      rfl
    · simp only [if_neg q2]
      rfl
theorem k_checkedIn (h : UR u a) {s : Nat} (hs : s < 8) : (∀ k : Nat, k < 3000 → cIn a s k → (∀ j, j < k → ¬ cIn a s j) → ∃ d' : tX1, q_X6_checkedIn u (zI s) = some (zI ((k + 1 : Nat) : Int), d')) ∧ ((∀ j, j < 3000 → ¬ cIn a s j) → ∃ d' : tX1, q_X6_checkedIn u (zI s) = some (zI (-6), d')) := by
  obtain ⟨hI, h9, hd, hh, hj⟩ := h
  have hN := hI.2.1
  unfold aN at hN
  have hp : zr (s : Int) := zr_s (by omega)
  obtain ⟨d1, hc, hd1⟩ := c_copyFrom (d := u.2.1) (by omega) (by omega) hd
  unfold q_X6_checkedIn
  rw [c_isSpan hp, zb_some, if_pos (show 0 ≤ (s : Int) ∧ (s : Int) ≤ 7 by omega), if_neg (show ¬ (1 : Int32) = 0 by decide), hc, zb_some]
  refine ⟨fun k k1 k2 k3 => ?_, fun hno => ?_⟩
  · obtain ⟨d', w1⟩ := (c_checkedIn hI h9 hd1 hp).1 k k1 k2 k3
    rw [w1, zb_some]
    exact ⟨_, rfl⟩
  · obtain ⟨d', w1⟩ := (c_checkedIn hI h9 hd1 hp).2 hno
    rw [w1, zb_some]
    exact ⟨_, by rw [← z6]; rfl⟩
end PX
