/-! reading a plan: signs, words, digits, numbers -/
section PX
variable {p : tX4} {v : tX7} {T : Nat → Int} {m q : Nat}
def xT (f : Nat → Int32) (T : Nat → Int) (m : Nat) : Prop := m ≤ 80 ∧ ∀ k, k < m → (32 ≤ T k ∧ T k ≤ 126) ∧ f k = zI (T k)
abbrev isC (T : Nat → Int) (m q : Nat) (c : Int) : Prop := q < m ∧ T q = c
abbrev dgC (T : Nat → Int) (m q : Nat) (lo hi : Int) : Prop := q < m ∧ lo ≤ T q ∧ T q ≤ hi
theorem c_sign (hx : xT p.1 T m) (hl : p.2.1 = zI m) (ha : p.2.2.1 = zI q) (hq : q ≤ m) : q_X4_sign p = some (zI (if q < m then T q else 0)) := by
  have hm := hx.1
  unfold q_X4_sign
  rw [ha, hl, if_neg (show ¬ zI (q : Nat) < 0 from zlt_n (y := 0) (zr_s (by omega)) (zr_s (by omega)) (by omega))]
  by_cases c : q < m
  · obtain ⟨h1, h2⟩ := hx.2 q c
    rw [if_neg (zle_n (zr_s (by omega)) (zr_s (by omega)) (by omega)), zg_N (by omega) (by omega), h2, if_pos c, zq_t ⟨zle_p (x := 0) (zr_s (by omega)) (zr_s (by omega)) (by omega), zlt_p (y := 65536) (zr_s (by omega)) (zr_s (by omega)) (by omega)⟩]
  · rw [if_pos (zle_p (zr_s (by omega)) (zr_s (by omega)) (by omega)), if_neg c]
    rfl
theorem m_char (hx : xT v.2.2.2.2.1 T m) (hl : v.2.2.2.2.2.1 = zI m) (hq : q ≤ m) : q_X7_character v (zI q) = some (zI (if q < m then T q else -1)) := by
  have hm := hx.1
  unfold q_X7_character
  rw [hl]
  by_cases c : q < m
  · rw [if_neg (zle_n (zr_s (by omega)) (zr_s (by omega)) (by omega)), zg_N (by omega) (by omega), (hx.2 q c).2, if_pos c]
  · rw [if_pos (zle_p (zr_s (by omega)) (zr_s (by omega)) (by omega)), if_neg c, zm1]
theorem sg_ne {c z : Int} (hx : ∀ k, k < m → 32 ≤ T k ∧ T k ≤ 126) (hc : 0 < c ∧ c < 1000) (hz : -1 ≤ z ∧ z ≤ 0) (h : ¬ isC T m q c) : ¬ zI (if q < m then T q else z) = zI c := by
  by_cases c1 : q < m
  · have := hx q c1
    rw [if_pos c1]
    exact zeq_n (zr_s (by omega)) (zr_s (by omega)) (fun w => h ⟨c1, w⟩)
  · rw [if_neg c1]
    exact zeq_n (zr_s (by omega)) (zr_s (by omega)) (by omega)
theorem c_sgY {c : Int} (hx : xT p.1 T m) (hl : p.2.1 = zI m) (ha : p.2.2.1 = zI q) (h : isC T m q c) : q_X4_takeSign p (zI c) = some (1, zI ((q + 1 : Nat) : Int)) := by
  unfold q_X4_takeSign zn
  rw [c_sign hx hl ha (by have := h.1; omega), zb_some, if_pos h.1, h.2, if_pos rfl, ha, zI_1]
theorem c_sgN {c : Int} (hx : xT p.1 T m) (hl : p.2.1 = zI m) (ha : p.2.2.1 = zI q) (hq : q ≤ m) (hc : 0 < c ∧ c < 1000) (h : ¬ isC T m q c) : q_X4_takeSign p (zI c) = some (0, zI q) := by
  unfold q_X4_takeSign zn
  rw [c_sign hx hl ha hq, zb_some, if_neg (sg_ne (fun k hk => (hx.2 k hk).1) hc (by omega) h), ha]
theorem m_sgY {c : Int} (hx : xT v.2.2.2.2.1 T m) (hl : v.2.2.2.2.2.1 = zI m) (ha : v.2.2.2.2.2.2.1 = zI q) (h : isC T m q c) : q_X7_isNext v (zI c) = some (1, zI ((q + 1 : Nat) : Int)) := by
  unfold q_X7_isNext q_X7_isNext_J17 q_X7_isNext_J32 zn
  rw [ha, m_char hx hl (by have := h.1; omega), zb_some, if_pos h.1, h.2, if_pos rfl, if_neg (show ¬ (1 : Int32) = 0 by decide)]
  dsimp only
  rw [zq_t (Or.inr rfl), zI_1]
theorem m_sgN {c : Int} (hx : xT v.2.2.2.2.1 T m) (hl : v.2.2.2.2.2.1 = zI m) (ha : v.2.2.2.2.2.2.1 = zI q) (hq : q ≤ m) (hc : 0 < c ∧ c < 1000) (h : ¬ isC T m q c) : q_X7_isNext v (zI c) = some (0, zI q) := by
  unfold q_X7_isNext q_X7_isNext_J17 q_X7_isNext_J32 zn
  rw [ha, m_char hx hl hq, zb_some, if_neg (sg_ne (fun k hk => (hx.2 k hk).1) hc (by omega) h), if_pos rfl]
  dsimp only
  rw [zq_t (Or.inl rfl), zI_a0]
-- words
def wc (k j : Nat) : Int := (zSB k j).toInt
abbrev wY (T : Nat → Int) (m q k : Nat) : Prop := ∀ j, j < zSL k → isC T m (q + j) (wc k j)
abbrev wN (T : Nat → Int) (m q k i : Nat) : Prop := i < zSL k ∧ (∀ j, j < i → isC T m (q + j) (wc k j)) ∧ ¬ isC T m (q + i) (wc k i)
theorem w_out (T : Nat → Int) (m q k : Nat) : wY T m q k ∨ ∃ i, wN T m q k i := by
  rcases zfirst (fun j => ¬ isC T m (q + j) (wc k j)) (zSL k) with ⟨i, h1, h2, h3⟩ | h
  · exact Or.inr ⟨i, h1, fun j hj => Classical.not_not.mp (h3 j hj), h2⟩
  · exact Or.inl (fun j hj => Classical.not_not.mp (h j hj))
theorem wY_le {k : Nat} (hk : 0 < zSL k) (h : wY T m q k) : q + zSL k ≤ m := by
  have := (h (zSL k - 1) (by omega)).1
  omega
theorem wN_le {k i : Nat} (hq : q ≤ m) (h : wN T m q k i) : q + i ≤ m := by
  by_cases c : i = 0
  · omega
  · have := (h.2.1 (i - 1) (by omega)).1
    omega
theorem z_lenB : ∀ k : Fin 14, 0 < zSL k ∧ zSL k ≤ 8 := by decide +kernel
theorem z_charF : ∀ k : Fin 14, ∀ j : Fin 8, (j : Nat) < zSL k → q_J0_charAt_5068e k (zI ((j : Nat) : Int)) = some (zSB k j) := by decide +kernel
theorem z_charB : ∀ k : Fin 14, ∀ j : Fin 8, (j : Nat) < zSL k → 0 < wc k j ∧ wc k j < 128 := by unfold wc; decide +kernel
theorem z_char {k j : Nat} (hk : k < 14) (hj : j < zSL k) : q_J0_charAt_5068e k (zI j) = some (zI (wc k j)) ∧ 0 < wc k j ∧ wc k j < 128 := by
  have hb := z_lenB ⟨k, hk⟩
  dsimp only at hb
  refine ⟨?_, z_charB ⟨k, hk⟩ ⟨j, by omega⟩ hj⟩
  have := z_charF ⟨k, hk⟩ ⟨j, by omega⟩ hj
  dsimp only at this
  rw [this]
  unfold wc
  rw [zI_of]
theorem c_wstep {k i : Nat} (hk : k < 14) (hx : xT p.1 T m) (hl : p.2.1 = zI m) (hi : i < zSL k) (h : isC T m (q + i) (wc k i)) : q_X4_takeWord_L2 p k (zI i, zI ((q + i : Nat) : Int)) = some (Sum.inl (zI ((i + 1 : Nat) : Int), zI ((q + (i + 1) : Nat) : Int))) := by
  have hb := z_lenB ⟨k, hk⟩
  dsimp only at hb
  obtain ⟨e1, e2⟩ := z_char hk hi
  unfold q_X4_takeWord_L2
  dsimp only
  rw [zq_t hk, show q_J0_length_8abf5 k = _ from zlen ⟨k, hk⟩, zb_some]
  dsimp only
  rw [if_neg (show ¬ zI (zSL k : Nat) ≤ zI (i : Nat) from zle_n (zr_s (by omega)) (zr_s (by omega)) (by omega)), zq_t hk, e1, zb_some, c_sgY (p := (p.1, p.2.1, zI ((q + i : Nat) : Int), p.2.2.2)) hx hl rfl h, zb_some, zI_1]
  dsimp only
  rw [if_neg (show ¬ (1 : Int32) = 0 by decide)]
  rfl
theorem c_wordY {k : Nat} (hk : k < 14) (hx : xT p.1 T m) (hl : p.2.1 = zI m) (ha : p.2.2.1 = zI q) (h : wY T m q k) : q_X4_takeWord p k = some (1, zI ((q + zSL k : Nat) : Int)) := by
  have hb := z_lenB ⟨k, hk⟩
  dsimp only at hb
  unfold q_X4_takeWord
  rw [zl_run (fun j => (zI j, zI ((q + j : Nat) : Int))) (a := ((0 : Int32), p.2.2.1)) (b := Sum.inl (zI ((q + zSL k : Nat) : Int))) (zSL k) (by rw [ha]; rfl) (by omega) (fun j hj => c_wstep hk hx hl hj (h j hj)) (by
    unfold q_X4_takeWord_L2
    dsimp only
    rw [zq_t hk, show q_J0_length_8abf5 k = _ from zlen ⟨k, hk⟩, zb_some]
    dsimp only
    rw [if_pos (show zI (zSL k : Nat) ≤ zI (zSL k : Nat) from zle_p (zr_s (by omega)) (zr_s (by omega)) (by omega))]), zb_some]
  rfl
theorem c_wordN {k i : Nat} (hk : k < 14) (hx : xT p.1 T m) (hl : p.2.1 = zI m) (ha : p.2.2.1 = zI q) (hq : q ≤ m) (h : wN T m q k i) : q_X4_takeWord p k = some (0, zI ((q + i : Nat) : Int)) := by
  have hb := z_lenB ⟨k, hk⟩
  dsimp only at hb
  obtain ⟨h1, h2, h3⟩ := id h
  obtain ⟨e1, e2⟩ := z_char hk h1
  unfold q_X4_takeWord
  rw [zl_run (fun j => (zI j, zI ((q + j : Nat) : Int))) (a := ((0 : Int32), p.2.2.1)) (b := Sum.inr (zI ((q + i : Nat) : Int))) i (by rw [ha]; rfl) (by omega) (fun j hj => c_wstep hk hx hl (by omega) (h2 j hj)) (by
    unfold q_X4_takeWord_L2
    dsimp only
    rw [zq_t hk, show q_J0_length_8abf5 k = _ from zlen ⟨k, hk⟩, zb_some]
    dsimp only
    rw [if_neg (show ¬ zI (zSL k : Nat) ≤ zI (i : Nat) from zle_n (zr_s (by omega)) (zr_s (by omega)) (by omega)), zq_t hk, e1, zb_some, c_sgN (p := (p.1, p.2.1, zI ((q + i : Nat) : Int), p.2.2.2)) hx hl rfl (wN_le hq h) (by omega) h3, zb_some]
    dsimp only
    rw [if_pos rfl]), zb_some]
  rfl
def rsW (W : Int64) : Nat → Int64
  | 0 => W
  | n + 1 => rsW W n >>> (Int32.toInt64 8 &&& 63)
def wOk (W : Int64) (k : Nat) : Prop := (∀ j : Fin 8, (j : Nat) < zSL k → ¬ lg_cmp (rsW W j) 0 ≤ 0 ∧ Int64.toInt32 (rsW W j &&& 255) = zSB k j) ∧ lg_cmp (rsW W (zSL k)) 0 ≤ 0
theorem wok_6 : wOk 139123058034 6 := by unfold wOk; decide +kernel
theorem wok_7 : wOk 35684289705329 7 := by unfold wOk; decide +kernel
theorem wok_8 : wOk 543912801 8 := by unfold wOk; decide +kernel
theorem wok_9 : wOk 139392413811 9 := by unfold wOk; decide +kernel
theorem wok_10 : wOk 544825719 10 := by unfold wOk; decide +kernel
theorem wok_11 : wOk 128038971141231 11 := by unfold wOk; decide +kernel
theorem wok_12 : wOk 500153085815 12 := by unfold wOk; decide +kernel
theorem wok_13 : wOk 7827314 13 := by unfold wOk; decide +kernel
theorem m_wstepA {W : Int64} {k i : Nat} (hk : k < 14) (hW : wOk W k) (hi : i < zSL k) : q_X7_readsWord_L5 v (1, rsW W i, zI ((q + i : Nat) : Int)) = zb (q_X7_isNext (v.1, v.2.1, v.2.2.1, v.2.2.2.1, v.2.2.2.2.1, v.2.2.2.2.2.1, zI ((q + i : Nat) : Int), v.2.2.2.2.2.2.2) (zI (wc k i))) fun r24 => some (Sum.inl (r24.1, rsW W (i + 1), r24.2)) := by
  have hb := z_lenB ⟨k, hk⟩
  dsimp only at hb
  obtain ⟨w1, w2⟩ := hW.1 ⟨i, by omega⟩ hi
  dsimp only at w1 w2
  unfold q_X7_readsWord_L5
  dsimp only
  rw [if_neg w1, if_neg (show ¬ (1 : Int32) = 0 by decide), w2]
  unfold wc
  rw [zI_of]
  rfl
theorem m_wordY {W : Int64} {k : Nat} (hk : k < 14) (hW : wOk W k) (hx : xT v.2.2.2.2.1 T m) (hl : v.2.2.2.2.2.1 = zI m) (ha : v.2.2.2.2.2.2.1 = zI q) (h : wY T m q k) : q_X7_readsWord v W = some (1, zI ((q + zSL k : Nat) : Int)) := by
  have hb := z_lenB ⟨k, hk⟩
  dsimp only at hb
  unfold q_X7_readsWord
  rw [zl_run (fun j => ((1 : Int32), rsW W j, zI ((q + j : Nat) : Int))) (a := ((1 : Int32), W, v.2.2.2.2.2.2.1)) (b := ((1 : Int32), zI ((q + zSL k : Nat) : Int))) (zSL k) (by rw [ha]; rfl) (by omega) (fun j hj => by
    rw [m_wstepA hk hW hj, m_sgY (v := (v.1, v.2.1, v.2.2.1, v.2.2.2.1, v.2.2.2.2.1, v.2.2.2.2.2.1, zI ((q + j : Nat) : Int), v.2.2.2.2.2.2.2)) hx hl rfl (h j hj), zb_some]
    rfl) (by
    unfold q_X7_readsWord_L5
    dsimp only
    rw [if_pos hW.2]), zb_some]
  dsimp only
  rw [zq_t (Or.inr rfl)]
theorem m_wordN {W : Int64} {k i : Nat} (hk : k < 14) (hW : wOk W k) (hx : xT v.2.2.2.2.1 T m) (hl : v.2.2.2.2.2.1 = zI m) (ha : v.2.2.2.2.2.2.1 = zI q) (hq : q ≤ m) (h : wN T m q k i) : q_X7_readsWord v W = some (0, zI ((q + i : Nat) : Int)) := by
  have hb := z_lenB ⟨k, hk⟩
  dsimp only at hb
  obtain ⟨h1, h2, h3⟩ := id h
  obtain ⟨e1, e2⟩ := z_char hk h1
  unfold q_X7_readsWord
  rw [zl_run (fun j => if j ≤ i then ((1 : Int32), rsW W j, zI ((q + j : Nat) : Int)) else ((0 : Int32), rsW W j, zI ((q + i : Nat) : Int))) (a := ((1 : Int32), W, v.2.2.2.2.2.2.1)) (b := ((0 : Int32), zI ((q + i : Nat) : Int))) (i + 1) (by rw [if_pos (by omega), ha]; rfl) (by omega) (fun j hj => by
    rw [if_pos (show j ≤ i by omega), m_wstepA hk hW (by omega)]
    by_cases c : j = i
    · subst c
      rw [m_sgN (v := (v.1, v.2.1, v.2.2.1, v.2.2.2.1, v.2.2.2.2.1, v.2.2.2.2.2.1, zI ((q + j : Nat) : Int), v.2.2.2.2.2.2.2)) hx hl rfl (wN_le hq h) (by omega) h3, zb_some, if_neg (by omega)]
    · rw [m_sgY (v := (v.1, v.2.1, v.2.2.1, v.2.2.2.1, v.2.2.2.2.1, v.2.2.2.2.2.1, zI ((q + j : Nat) : Int), v.2.2.2.2.2.2.2)) hx hl rfl (h2 j (by omega)), zb_some, if_pos (show j + 1 ≤ i by omega)]
      rfl) (by
    rw [if_neg (by omega)]
    unfold q_X7_readsWord_L5
    dsimp only
    split
    · rfl
    · rw [if_pos rfl]), zb_some]
  dsimp only
  rw [zq_t (Or.inl rfl)]
-- digits
theorem c_dgY {lo hi : Int} (hx : xT p.1 T m) (hl : p.2.1 = zI m) (ha : p.2.2.1 = zI q) (hc : 0 < lo ∧ lo < 1000 ∧ 0 < hi ∧ hi < 1000) (h : dgC T m q lo hi) : q_X4_takeDigit p (zI lo) (zI hi) = some (1, zI ((q + 1 : Nat) : Int), zI (T q - 48)) := by
  obtain ⟨h1, h2, h3⟩ := h
  have hb := (hx.2 q h1).1
  unfold q_X4_takeDigit zn
  rw [c_sign hx hl ha (by omega), zb_some, if_pos h1, if_neg (zlt_n (zr_s (by omega)) (zr_s (by omega)) h2), if_pos (zle_p (zr_s (by omega)) (zr_s (by omega)) h3), ha, zI_1, show zI (T q) - 48 = zI (T q - 48) from zI_sub _ 48]
theorem c_dgN {lo hi : Int} (hx : xT p.1 T m) (hl : p.2.1 = zI m) (ha : p.2.2.1 = zI q) (hq : q ≤ m) (hc : 0 < lo ∧ lo < 1000 ∧ 0 < hi ∧ hi < 1000) (h : ¬ dgC T m q lo hi) : q_X4_takeDigit p (zI lo) (zI hi) = some (0, zI q, p.2.2.2.2.2.2.2) := by
  unfold q_X4_takeDigit zn
  rw [c_sign hx hl ha hq, zb_some, ha]
  by_cases c : q < m
  · have hb := (hx.2 q c).1
    rw [if_pos c]
    by_cases c2 : T q < lo
    · rw [if_pos (zlt_p (zr_s (by omega)) (zr_s (by omega)) c2)]
    · rw [if_neg (zlt_n (zr_s (by omega)) (zr_s (by omega)) (by omega)), if_neg (zle_n (zr_s (by omega)) (zr_s (by omega)) (by
        by_cases c3 : T q ≤ hi
        · exact absurd ⟨c, by omega, c3⟩ h
        · omega))]
  · rw [if_neg c, if_pos (zlt_p (zr_s (by omega)) (zr_s (by omega)) (by omega))]
theorem m_in (hx : xT v.2.2.2.2.1 T m) {lo hi : Int} (hc : 0 < lo ∧ lo < 1000 ∧ 0 < hi ∧ hi < 1000) : q_X7_within (zI (if q < m then T q else -1)) (zI lo) (zI hi) = some (if dgC T m q lo hi then 1 else 0) := by
  by_cases c : q < m
  · have hb := (hx.2 q c).1
    rw [if_pos c, m_within (zr_s (by omega)) (zr_s (by omega)) (zr_s (by omega))]
    by_cases c2 : lo ≤ T q ∧ T q ≤ hi
    · rw [if_pos c2, if_pos ⟨c, c2⟩]
    · rw [if_neg c2, if_neg (fun w => c2 w.2)]
  · rw [if_neg c, m_within (zr_s (by omega)) (zr_s (by omega)) (zr_s (by omega)), if_neg (by omega), if_neg (fun w => c w.1)]
theorem m_dgY {lo hi : Int} (hx : xT v.2.2.2.2.1 T m) (hl : v.2.2.2.2.2.1 = zI m) (ha : v.2.2.2.2.2.2.1 = zI q) (hc : 0 ≤ lo ∧ lo < 10 ∧ 0 ≤ hi ∧ hi < 10) (h : dgC T m q (48 + lo) (48 + hi)) : q_X7_readsDigit v (zI lo) (zI hi) = some (1, zI ((q + 1 : Nat) : Int), zI (T q - 48)) := by
  unfold q_X7_readsDigit q_X7_readsDigit_J49 zn
  rw [ha, m_char hx hl (by have := h.1; omega), zb_some, show (48 : Int32) + zI lo = zI (48 + lo) from zI_add 48 lo, show (48 : Int32) + zI hi = zI (48 + hi) from zI_add 48 hi, m_in hx (by omega), zb_some, if_pos h, zb_some]
  dsimp only
  rw [if_neg (show ¬ (1 : Int32) = 0 by decide), zq_t (Or.inr rfl), if_pos h.1, zI_1, show zI (T q) - 48 = zI (T q - 48) from zI_sub _ 48]
theorem m_dgN {lo hi : Int} (hx : xT v.2.2.2.2.1 T m) (hl : v.2.2.2.2.2.1 = zI m) (ha : v.2.2.2.2.2.2.1 = zI q) (hq : q ≤ m) (hc : 0 ≤ lo ∧ lo < 10 ∧ 0 ≤ hi ∧ hi < 10) (h : ¬ dgC T m q (48 + lo) (48 + hi)) : ∃ z : Int32, q_X7_readsDigit v (zI lo) (zI hi) = some (0, zI q, z) := by
  refine ⟨zI (if q < m then T q else -1) - 48, ?_⟩
  unfold q_X7_readsDigit q_X7_readsDigit_J49 zn
  rw [ha, m_char hx hl hq, zb_some, show (48 : Int32) + zI lo = zI (48 + lo) from zI_add 48 lo, show (48 : Int32) + zI hi = zI (48 + hi) from zI_add 48 hi, m_in hx (by omega), zb_some, if_neg h, zb_some]
  dsimp only
  rw [if_pos rfl, zq_t (Or.inl rfl), zI_a0]
-- numbers
def nv (T : Nat → Int) (q : Nat) : Nat → Int
  | 0 => 0
  | j + 1 => 10 * nv T q j + (T (q + j) - 48)
abbrev nP (T : Nat → Int) (m q i : Nat) : Prop := i ≤ 3 ∧ (∀ j, j < i → dgC T m (q + j) 48 57) ∧ (i = 3 ∨ ¬ dgC T m (q + i) 48 57)
theorem n_out (T : Nat → Int) (m q : Nat) : ∃ i, nP T m q i := by
  rcases zfirst (fun j => ¬ dgC T m (q + j) 48 57) 3 with ⟨i, h1, h2, h3⟩ | h
  · exact ⟨i, by omega, fun j hj => Classical.not_not.mp (h3 j hj), Or.inr h2⟩
  · exact ⟨3, by omega, fun j hj => Classical.not_not.mp (h j hj), Or.inl rfl⟩
theorem nP_le {i : Nat} (hq : q ≤ m) (h : nP T m q i) : q + i ≤ m := by
  by_cases c : i = 0
  · omega
  · have := (h.2.1 (i - 1) (by omega)).1
    omega
theorem nv_b {i : Nat} (h : nP T m q i) : ∀ j, j ≤ i → 0 ≤ nv T q j ∧ nv T q j ≤ 999 := by
  have h1 := h.1
  have hb : ∀ j, j ≤ i → 0 ≤ nv T q j ∧ nv T q j < (if j = 0 then 1 else if j = 1 then 10 else if j = 2 then 100 else 1000) := by
    intro j
    induction j with
    | zero =>
      intro _
      show (0 : Int) ≤ 0 ∧ (0 : Int) < _
      rw [if_pos rfl]
      omega
    | succ j ih =>
      intro hj
      have h2 := ih (by omega)
      have h3 := h.2.1 j (by omega)
      show 0 ≤ 10 * nv T q j + (T (q + j) - 48) ∧ 10 * nv T q j + (T (q + j) - 48) < _
      rcases (show j = 0 ∨ j = 1 ∨ j = 2 by omega) with rfl | rfl | rfl
      · rw [if_pos rfl] at h2
        rw [if_neg (by omega), if_pos rfl]
        omega
      · rw [if_neg (by omega), if_pos rfl] at h2
        rw [if_neg (by omega), if_neg (by omega), if_pos rfl]
        omega
      · rw [if_neg (by omega), if_neg (by omega), if_pos rfl] at h2
        rw [if_neg (by omega), if_neg (by omega), if_neg (by omega)]
        omega
  intro j hj
  have := hb j hj
  split at this
  · omega
  · split at this
    · omega
    · split at this <;> omega
def vl (T : Nat → Int) (q : Nat) (z : Int32) : Nat → Int32
  | 0 => z
  | j + 1 => zI (T (q + j) - 48)
theorem c_num {i : Nat} (hx : xT p.1 T m) (hl : p.2.1 = zI m) (ha : p.2.2.1 = zI q) (hq : q ≤ m) (h : nP T m q i) : q_X4_takeNumber p = some (if i = 0 then 0 else 1, zI ((q + i : Nat) : Int), zI (nv T q i)) := by
  obtain ⟨h1, h2, h3⟩ := id h
  unfold q_X4_takeNumber
  rw [zl_run (fun j => (zI j, zI (nv T q j), zI ((q + j : Nat) : Int), vl T q p.2.2.2.2.2.2.2 j)) (a := ((0 : Int32), (0 : Int32), p.2.2.1, p.2.2.2.2.2.2.2)) (b := (zI i, zI (nv T q i), zI ((q + i : Nat) : Int), vl T q p.2.2.2.2.2.2.2 i)) i (by rw [ha]; rfl) (by omega) (fun j hj => by
    unfold q_X4_takeNumber_L4
    dsimp only
    rw [if_neg (show ¬ (3 : Int32) ≤ zI j from zle_n (x := 3) (zr_s (by omega)) (zr_s (by omega)) (by omega)), show q_X4_takeDigit (p.1, p.2.1, zI ((q + j : Nat) : Int), p.2.2.2.1, p.2.2.2.2.1, p.2.2.2.2.2.1, p.2.2.2.2.2.2.1, vl T q p.2.2.2.2.2.2.2 j) 48 57 = _ from c_dgY (lo := 48) (hi := 57) hx hl rfl (by omega) (h2 j hj), zb_some, zI_1]
    dsimp only
    rw [if_neg (show ¬ (1 : Int32) = 0 by decide), show (10 : Int32) * zI (nv T q j) = zI (10 * nv T q j) from zI_mul 10 _, zI_add]
    rfl) (by
    unfold q_X4_takeNumber_L4
    dsimp only
    by_cases c : i = 3
    · rw [if_pos (show (3 : Int32) ≤ zI i from zle_p (x := 3) (zr_s (by omega)) (zr_s (by omega)) (by omega))]
    · rw [if_neg (show ¬ (3 : Int32) ≤ zI i from zle_n (x := 3) (zr_s (by omega)) (zr_s (by omega)) (by omega)), show q_X4_takeDigit (p.1, p.2.1, zI ((q + i : Nat) : Int), p.2.2.2.1, p.2.2.2.2.1, p.2.2.2.2.2.1, p.2.2.2.2.2.2.1, vl T q p.2.2.2.2.2.2.2 i) 48 57 = _ from c_dgN (lo := 48) (hi := 57) hx hl rfl (nP_le hq h) (by omega) (h3.resolve_left c), zb_some]
      dsimp only
      rw [if_pos rfl]), zb_some]
  unfold q_X4_takeNumber_J36
  dsimp only
  by_cases c : i = 0
  · rw [if_pos (show zI i ≤ 0 from zle_p (y := 0) (zr_s (by omega)) (zr_s (by omega)) (by omega)), if_pos c]
  · rw [if_neg (show ¬ zI i ≤ 0 from zle_n (y := 0) (zr_s (by omega)) (zr_s (by omega)) (by omega)), if_neg c]
theorem m_num {i : Nat} (hx : xT v.2.2.2.2.1 T m) (hl : v.2.2.2.2.2.1 = zI m) (ha : v.2.2.2.2.2.2.1 = zI q) (hq : q ≤ m) (h : nP T m q i) : q_X7_readsNumber v = some (if i = 0 then 0 else 1, zI ((q + i : Nat) : Int), zI (nv T q i)) := by
  obtain ⟨h1, h2, h3⟩ := id h
  have hle := nP_le hq h
  have ch : ∀ (j : Nat) (z : Int32), j ≤ i → q_X7_character (v.1, v.2.1, v.2.2.1, v.2.2.2.1, v.2.2.2.2.1, v.2.2.2.2.2.1, zI ((q + j : Nat) : Int), v.2.2.2.2.2.2.2.1, v.2.2.2.2.2.2.2.2.1, v.2.2.2.2.2.2.2.2.2.1, z) (zI ((q + j : Nat) : Int)) = some (zI (if q + j < m then T (q + j) else -1)) := fun j z hj => m_char (v := (v.1, v.2.1, v.2.2.1, v.2.2.2.1, v.2.2.2.2.1, v.2.2.2.2.2.1, zI ((q + j : Nat) : Int), v.2.2.2.2.2.2.2.1, v.2.2.2.2.2.2.2.2.1, v.2.2.2.2.2.2.2.2.2.1, z)) hx hl (by omega)
  have inn : ∀ j : Nat, q_X7_within (zI (if q + j < m then T (q + j) else -1)) 48 57 = some (if dgC T m (q + j) 48 57 then 1 else 0) := fun j => m_in (v := v) (lo := 48) (hi := 57) hx (by omega)
  unfold q_X7_readsNumber
  rw [zl_run (fun j => (zI j, zI ((q + j : Nat) : Int), zI (nv T q j))) (a := ((0 : Int32), v.2.2.2.2.2.2.1, (0 : Int32))) (b := (zI i, zI ((q + i : Nat) : Int), zI (nv T q i))) i (by rw [ha]; rfl) (by omega) (fun j hj => by
    unfold q_X7_readsNumber_L7 zn
    dsimp only
    rw [if_neg (show ¬ (3 : Int32) ≤ zI j from zle_n (x := 3) (zr_s (by omega)) (zr_s (by omega)) (by omega)), ch j _ (by omega), zb_some, inn j, zb_some, if_pos (h2 j hj), if_neg (show ¬ (1 : Int32) = 0 by decide), zb_some, if_pos (h2 j hj).1, zI_1, zI_1, show (10 : Int32) * zI (nv T q j) = zI (10 * nv T q j) from zI_mul 10 _, zI_add, show zI (10 * nv T q j + T (q + j)) - 48 = zI (10 * nv T q j + T (q + j) - 48) from zI_sub _ 48, show 10 * nv T q j + T (q + j) - 48 = 10 * nv T q j + (T (q + j) - 48) by omega]
    rfl) (by
    unfold q_X7_readsNumber_L7
    dsimp only
    by_cases c : i = 3
    · rw [if_pos (show (3 : Int32) ≤ zI i from zle_p (x := 3) (zr_s (by omega)) (zr_s (by omega)) (by omega))]
    · rw [if_neg (show ¬ (3 : Int32) ≤ zI i from zle_n (x := 3) (zr_s (by omega)) (zr_s (by omega)) (by omega)), ch i _ (by omega), zb_some, inn i, zb_some, if_neg (h3.resolve_left c), if_pos rfl]), zb_some]
  unfold q_X7_readsNumber_J69
  dsimp only
  by_cases c : i = 0
  · rw [if_pos (show zI i ≤ 0 from zle_p (y := 0) (zr_s (by omega)) (zr_s (by omega)) (by omega)), if_pos c]
  · rw [if_neg (show ¬ zI i ≤ 0 from zle_n (y := 0) (zr_s (by omega)) (zr_s (by omega)) (by omega)), if_neg c]
theorem c_note {idx : Nat} {kd : Int32} (hi : idx < 16) : q_X4_note p (zI idx) kd = some (1, upd p.2.2.2.1 idx kd, upd p.2.2.2.2.1 idx p.2.2.2.2.2.2.2) := by
  unfold q_X4_note
  rw [if_neg (show ¬ zI idx < 0 from zlt_n (y := 0) (zr_s (by omega)) (zr_s (by omega)) (by omega)), if_neg (show ¬ (16 : Int32) ≤ zI idx from zle_n (x := 16) (zr_s (by omega)) (zr_s (by omega)) (by omega)), zs_N hi (by omega), zs_N hi (by omega)]
theorem c_note2 {idx : Nat} (hi : idx < 16) : q_X4_noteSecond p (zI idx) = some (1, upd p.2.2.2.2.2.1 idx p.2.2.2.2.2.2.2) := by
  unfold q_X4_noteSecond
  rw [if_neg (show ¬ zI idx < 0 from zlt_n (y := 0) (zr_s (by omega)) (zr_s (by omega)) (by omega)), if_neg (show ¬ (16 : Int32) ≤ zI idx from zle_n (x := 16) (zr_s (by omega)) (zr_s (by omega)) (by omega)), zs_N hi (by omega)]
end PX
