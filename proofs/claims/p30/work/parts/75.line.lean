/-! the line of an entry: its digits, its words -/
section PL
variable {u : tX6} {x y : Int32} {a : Nat → Int} {r : (Nat → Int32) × (Nat → Int32) × Int32 × (Nat → Int32) × Int32 × Int32 × Int32 × Int32 × Int32 × Int32}
theorem zq_t {β : Type} {c : Prop} [Decidable c] {K : Option β} (h : c) : zq c K = K := if_pos h
def td (t : Int) : Nat → Int
  | 0 => t
  | n + 1 => td t n / 10
theorem td_s (t : Int) (n : Nat) : td (t / 10) n = td t (n + 1) := by
  induction n with
  | zero => rfl
  | succ n ih =>
    show td (t / 10) n / 10 = td t (n + 1) / 10
    rw [ih]
theorem td_b {t : Int} (h : 0 ≤ t) (n : Nat) : 0 ≤ td t n ∧ td t n ≤ t := by
  induction n with
  | zero => exact ⟨h, Int.le_refl t⟩
  | succ n ih =>
    show 0 ≤ td t n / 10 ∧ td t n / 10 ≤ t
    omega
def nd (t : Int) : Nat := if t < 10 then 1 else if t < 100 then 2 else if t < 1000 then 3 else if t < 10000 then 4 else 5
theorem nd_cases {t : Int} (h : 0 ≤ t ∧ t ≤ 99999) : (t < 10 ∧ nd t = 1) ∨ ((10 ≤ t ∧ t < 100) ∧ nd t = 2) ∨ ((100 ≤ t ∧ t < 1000) ∧ nd t = 3) ∨ ((1000 ≤ t ∧ t < 10000) ∧ nd t = 4) ∨ (10000 ≤ t ∧ nd t = 5) := by
  unfold nd
  by_cases c1 : t < 10
  · rw [if_pos c1]; omega
  · rw [if_neg c1]
    by_cases c2 : t < 100
    · rw [if_pos c2]; omega
    · rw [if_neg c2]
      by_cases c3 : t < 1000
      · rw [if_pos c3]; omega
      · rw [if_neg c3]
        by_cases c4 : t < 10000
        · rw [if_pos c4]; omega
        · rw [if_neg c4]; omega
theorem nd_b {t : Int} (h : 0 ≤ t ∧ t ≤ 99999) : 1 ≤ nd t ∧ nd t ≤ 5 := by
  have := nd_cases h
  omega
theorem zI_ndiv {x y : Int} (hx : 0 ≤ x ∧ x < 2147483648) (hy : 0 < y ∧ y < 2147483648) : zI (-x) / zI y = zI (-(x / y)) := by
  apply Int32.toInt_inj.mp
  have h1 : zr (-x) := ⟨by omega, by omega⟩
  have h2 : zr y := ⟨by omega, hy.2⟩
  have h3 : 0 ≤ x / y := Int.ediv_nonneg hx.1 (by omega)
  have h4 : x / y ≤ x := Int.ediv_le_self y hx.1
  have h5 : zr (-(x / y)) := ⟨by omega, by omega⟩
  rw [zI_toInt h5, Int32.toInt_div_of_ne_right _ _ (by intro h; have := congrArg Int32.toInt h; rw [zI_toInt h2] at this; have e : (-1 : Int32).toInt = -1 := by decide
                                                       omega), zI_toInt h1, zI_toInt h2, Int.neg_tdiv, Int.tdiv_eq_ediv_of_nonneg hx.1]
theorem c_stringSize {t : Int} (h : 0 ≤ t ∧ t ≤ 99999) : q_J6_stringSize_0f7a4 (zI t) = some (zI (nd t : Nat)) := by
  have go0 : ∀ (n k : Nat) (P : Int), k < 10 → t < P → P ≤ 1000000 → zl (n + 1) (q_J6_stringSize_0f7a4_L16 (zI (-t))) (zI (-P), zI k) = some (Sum.inr (zI k)) := by
    intro n k P hk h0 h1
    refine zl_out ?_
    unfold q_J6_stringSize_0f7a4_L16
    dsimp only
    rw [if_neg (show ¬ (10 : Int32) ≤ zI k from zle_n (x := 10) (zr_s (by omega)) (zr_s (by omega)) (by omega)), if_neg (show ¬ zI (-t) ≤ zI (-P) from zle_n (zr_s (by omega)) (zr_s (by omega)) (by omega))]
  have go1 : ∀ (n k : Nat) (P : Int), k < 10 → 0 ≤ P → P ≤ t → zl (n + 1) (q_J6_stringSize_0f7a4_L16 (zI (-t))) (zI (-P), zI k) = zl n (q_J6_stringSize_0f7a4_L16 (zI (-t))) (zI (-(10 * P)), zI ((k + 1 : Nat) : Int)) := by
    intro n k P hk h0 h1
    refine zl_in ?_
    unfold q_J6_stringSize_0f7a4_L16
    dsimp only
    rw [if_neg (show ¬ (10 : Int32) ≤ zI k from zle_n (x := 10) (zr_s (by omega)) (zr_s (by omega)) (by omega)), if_pos (show zI (-t) ≤ zI (-P) from zle_p (zr_s (by omega)) (zr_s (by omega)) (by omega)), zI_1, show (10 : Int32) * zI (-P) = zI (-(10 * P)) by rw [show (10 : Int32) = zI 10 from rfl, zI_mul]; congr 1; omega]
  have h10 : ((-10 : Int32), (1 : Int32)) = (zI (-10), zI ((1 : Nat) : Int)) := by
    rw [show (-10 : Int32) = zI (-10) by decide +kernel]
    rfl
  unfold q_J6_stringSize_0f7a4
  rw [if_neg (show ¬ zI t < 0 from zlt_n (y := 0) (zr_s (by omega)) (zr_s (by omega)) h.1), zI_neg]
  unfold q_J6_stringSize_0f7a4_J11
  rw [h10]
  have fin : ∀ k : Nat, zl 1000000 (q_J6_stringSize_0f7a4_L16 (zI (-t))) (zI (-10), zI ((1 : Nat) : Int)) = some (Sum.inr (zI k)) → zb (zl 1000000 (q_J6_stringSize_0f7a4_L16 (zI (-t))) (zI (-10), zI ((1 : Nat) : Int))) (zm (fun e16_0 => some ((10 + (0 : Int32)))) (fun e16_1 => some ((e16_1 + 0)))) = some (zI k) := by
    intro k hk
    rw [hk, zb_some]
    show some (zI k + 0) = _
    rw [zI_a0]
  rcases nd_cases h with ⟨c, e⟩ | ⟨c, e⟩ | ⟨c, e⟩ | ⟨c, e⟩ | ⟨c, e⟩
  · rw [e]
    exact fin 1 (go0 999999 1 10 (by omega) (by omega) (by omega))
  · rw [e]
    exact fin 2 ((go1 999999 1 10 (by omega) (by omega) (by omega)).trans (go0 999998 2 (10 * 10) (by omega) (by omega) (by omega)))
  · rw [e]
    exact fin 3 ((go1 999999 1 10 (by omega) (by omega) (by omega)).trans ((go1 999998 2 (10 * 10) (by omega) (by omega) (by omega)).trans (go0 999997 3 (10 * (10 * 10)) (by omega) (by omega) (by omega))))
  · rw [e]
    exact fin 4 ((go1 999999 1 10 (by omega) (by omega) (by omega)).trans ((go1 999998 2 (10 * 10) (by omega) (by omega) (by omega)).trans ((go1 999997 3 (10 * (10 * 10)) (by omega) (by omega) (by omega)).trans (go0 999996 4 (10 * (10 * (10 * 10))) (by omega) (by omega) (by omega)))))
  · rw [e]
    exact fin 5 ((go1 999999 1 10 (by omega) (by omega) (by omega)).trans ((go1 999998 2 (10 * 10) (by omega) (by omega) (by omega)).trans ((go1 999997 3 (10 * (10 * 10)) (by omega) (by omega) (by omega)).trans ((go1 999996 4 (10 * (10 * (10 * 10))) (by omega) (by omega) (by omega)).trans (go0 999995 5 (10 * (10 * (10 * (10 * 10)))) (by omega) (by omega) (by omega))))))
/-- n digits of t put ahead of e -/
def dput (w : Nat → Int32) (e : Nat) (t : Int) : Nat → (Nat → Int32)
  | 0 => w
  | n + 1 => dput (upd w (e - 1) (zI (48 + t % 10))) (e - 1) (t / 10) n
theorem dput_at {n e : Nat} {t : Int} {w : Nat → Int32} (h : n ≤ e) (j : Nat) : dput w e t n j = if e - n ≤ j ∧ j < e then zI (48 + td t (e - 1 - j) % 10) else w j := by
  induction n generalizing e t w with
  | zero =>
    rw [if_neg (by omega)]
    rfl
  | succ n ih =>
    show dput (upd w (e - 1) (zI (48 + t % 10))) (e - 1) (t / 10) n j = _
    rw [ih (by omega)]
    by_cases c : e - 1 - n ≤ j ∧ j < e - 1
    · rw [if_pos c, if_pos (by omega), td_s, show e - 1 - 1 - j + 1 = e - 1 - j by omega]
    · rw [if_neg c]
      by_cases c2 : j = e - 1
      · rw [c2, upd_at, if_pos (by omega), Nat.sub_self]
        rfl
      · rw [upd_ne' _ _ c2, if_neg (by omega)]
theorem z_onesF : ∀ k : Fin 100, vp_nar .byte (zOnesI k) = zI (48 + ((k : Nat) : Int) % 10) := by decide +kernel
theorem z_tensF : ∀ k : Fin 100, vp_nar .byte (zTensI k) = zI (48 + ((k : Nat) : Int) / 10) := by decide +kernel
theorem z_ones {q : Int} (h : 0 ≤ q ∧ q < 100) : vp_nar .byte (zOnesI q.toNat) = zI (48 + q % 10) := by
  have := z_onesF ⟨q.toNat, by omega⟩
  rw [show ((q.toNat : Nat) : Int) = q by omega] at this
  exact this
theorem z_tens {q : Int} (h : 0 ≤ q ∧ q < 100) : vp_nar .byte (zTensI q.toNat) = zI (48 + q / 10) := by
  have := z_tensF ⟨q.toNat, by omega⟩
  rw [show ((q.toNat : Nat) : Int) = q by omega] at this
  exact this
theorem zI_m1 {e : Nat} (h : 1 ≤ e) : zI (e : Nat) + (-1) = zI ((e - 1 : Nat) : Int) := by
  rw [zm1, zI_add]
  congr 1
  omega
theorem c_getChars {w : Nat → Int32} {e : Nat} {t : Int} (h : 0 ≤ t ∧ t ≤ 99999) (he : nd t ≤ e) (he2 : e ≤ 16) : ∃ k : Int32, q_J6_getChars_ba4f3 16 w (zI t) (zI e) = some (k, dput w e t (nd t)) := by
  have go0 : ∀ (n e : Nat) (s : Int) (w : Nat → Int32), 0 ≤ s → s < 100 → zl (n + 1) (q_J6_getChars_ba4f3_L22 16) (zI (-s), zI e, w) = some (zI (-s), zI e, w) := by
    intro n e s w h0 h1
    refine zl_out ?_
    unfold q_J6_getChars_ba4f3_L22
    dsimp only
    rw [if_pos (show (-100 : Int32) < zI (-s) by rw [show (-100 : Int32) = zI (-100) by decide +kernel]; exact zlt_p (zr_s (by omega)) (zr_s (by omega)) (by omega))]
  have go1 : ∀ (n e : Nat) (s : Int) (w : Nat → Int32), 100 ≤ s → s ≤ 99999 → 2 ≤ e → e ≤ 16 → zl (n + 1) (q_J6_getChars_ba4f3_L22 16) (zI (-s), zI e, w) = zl n (q_J6_getChars_ba4f3_L22 16) (zI (-(s / 10 / 10)), zI ((e - 1 - 1 : Nat) : Int), dput w e s 2) := by
    intro n e s w h0 h1 h2 h3
    have eq : zI (-s) / 100 = zI (-(s / 100)) := zI_ndiv (y := 100) (by omega) (by omega)
    have er : zI (-(s / 100)) * 100 - zI (-s) = zI (s % 100) := by
      rw [show (100 : Int32) = zI 100 from rfl, zI_mul, zI_sub]
      congr 1
      omega
    refine zl_in ?_
    unfold q_J6_getChars_ba4f3_L22
    dsimp only
    rw [if_neg (show ¬ (-100 : Int32) < zI (-s) by rw [show (-100 : Int32) = zI (-100) by decide +kernel]; exact zlt_n (zr_s (by omega)) (zr_s (by omega)) (by omega)), eq, er, zg_zI (by omega) (by omega), zI_m1 (by omega), zs_N (by omega) (by omega), zg_zI (by omega) (by omega), zI_m1 (by omega), zs_N (by omega) (by omega), z_ones (by omega), z_tens (by omega)]
    show some (Sum.inl (zI (-(s / 100)), zI ((e - 1 - 1 : Nat) : Int), upd (upd w (e - 1) (zI (48 + s % 100 % 10))) (e - 1 - 1) (zI (48 + s % 100 / 10)))) = some (Sum.inl (zI (-(s / 10 / 10)), zI ((e - 1 - 1 : Nat) : Int), upd (upd w (e - 1) (zI (48 + s % 10))) (e - 1 - 1) (zI (48 + s / 10 % 10))))
    rw [show s / 100 = s / 10 / 10 by omega, show s % 100 % 10 = s % 10 by omega, show s % 100 / 10 = s / 10 % 10 by omega]
  have j1 : ∀ (e : Nat) (s : Int) (w : Nat → Int32), 0 ≤ s → s < 10 → 1 ≤ e → e ≤ 16 → ∃ k : Int32, q_J6_getChars_ba4f3_J72 16 0 (zI (-s)) (zI e) w = some (k, dput w e s 1) := by
    intro e s w h0 h1 h2 h3
    refine ⟨zI ((e - 1 : Nat) : Int), ?_⟩
    unfold q_J6_getChars_ba4f3_J72
    rw [zI_neg, Int.neg_neg, zg_zI (by omega) (by omega), zI_m1 (by omega), zs_N (by omega) (by omega), if_pos (show (-9 : Int32) ≤ zI (-s) by rw [show (-9 : Int32) = zI (-9) by decide +kernel]; exact zle_p (zr_s (by omega)) (zr_s (by omega)) (by omega)), if_pos rfl, z_ones (by omega)]
    rfl
  have j2 : ∀ (e : Nat) (s : Int) (w : Nat → Int32), 10 ≤ s → s < 100 → 2 ≤ e → e ≤ 16 → ∃ k : Int32, q_J6_getChars_ba4f3_J72 16 0 (zI (-s)) (zI e) w = some (k, dput w e s 2) := by
    intro e s w h0 h1 h2 h3
    refine ⟨zI ((e - 1 - 1 : Nat) : Int), ?_⟩
    unfold q_J6_getChars_ba4f3_J72
    rw [zI_neg, Int.neg_neg, zg_zI (by omega) (by omega), zI_m1 (by omega), zs_N (by omega) (by omega), if_neg (show ¬ (-9 : Int32) ≤ zI (-s) by rw [show (-9 : Int32) = zI (-9) by decide +kernel]; exact zle_n (zr_s (by omega)) (zr_s (by omega)) (by omega)), zg_zI (by omega) (by omega), zI_m1 (by omega), zs_N (by omega) (by omega), if_pos rfl, z_ones (by omega), z_tens (by omega)]
    show some (zI ((e - 1 - 1 : Nat) : Int), upd (upd w (e - 1) (zI (48 + s % 10))) (e - 1 - 1) (zI (48 + s / 10))) = some (zI ((e - 1 - 1 : Nat) : Int), upd (upd w (e - 1) (zI (48 + s % 10))) (e - 1 - 1) (zI (48 + s / 10 % 10)))
    rw [show s / 10 % 10 = s / 10 by omega]
  unfold q_J6_getChars_ba4f3
  rw [if_pos (show (0 : Int32) ≤ zI t from zle_p (x := 0) (zr_s (by omega)) (zr_s (by omega)) h.1)]
  unfold q_J6_getChars_ba4f3_J12
  rw [if_pos rfl]
  unfold q_J6_getChars_ba4f3_J22
  rw [zI_neg]
  rcases nd_cases h with ⟨c, d⟩ | ⟨c, d⟩ | ⟨c, d⟩ | ⟨c, d⟩ | ⟨c, d⟩
  · rw [d] at he ⊢
    rw [show zl 1000000 (q_J6_getChars_ba4f3_L22 16) (zI (-t), zI e, w) = _ from go0 999999 e t w (by omega) (by omega), zb_some]
    exact j1 e t w (by omega) (by omega) (by omega) (by omega)
  · rw [d] at he ⊢
    rw [show zl 1000000 (q_J6_getChars_ba4f3_L22 16) (zI (-t), zI e, w) = _ from go0 999999 e t w (by omega) (by omega), zb_some]
    exact j2 e t w (by omega) (by omega) (by omega) (by omega)
  · rw [d] at he ⊢
    rw [show zl 1000000 (q_J6_getChars_ba4f3_L22 16) (zI (-t), zI e, w) = _ from (go1 999999 e t w (by omega) (by omega) (by omega) (by omega)).trans (go0 999998 _ _ _ (by omega) (by omega)), zb_some]
    exact j1 _ _ _ (by omega) (by omega) (by omega) (by omega)
  · rw [d] at he ⊢
    rw [show zl 1000000 (q_J6_getChars_ba4f3_L22 16) (zI (-t), zI e, w) = _ from (go1 999999 e t w (by omega) (by omega) (by omega) (by omega)).trans (go0 999998 _ _ _ (by omega) (by omega)), zb_some]
    exact j2 _ _ _ (by omega) (by omega) (by omega) (by omega)
  · rw [d] at he ⊢
    rw [show zl 1000000 (q_J6_getChars_ba4f3_L22 16) (zI (-t), zI e, w) = _ from (go1 999999 e t w (by omega) (by omega) (by omega) (by omega)).trans ((go1 999998 _ _ _ (by omega) (by omega) (by omega) (by omega)).trans (go0 999997 _ _ _ (by omega) (by omega))), zb_some]
    exact j1 _ _ _ (by omega) (by omega) (by omega) (by omega)
/-- the StringBuilder -/
theorem c_ens {g : tJ4} {p : Nat} (hc : g.2.1 = 0) (hp : p ≤ 16) : q_J5_ensureCapacityInternal_d00df g (zI p) = some () := by
  unfold q_J5_ensureCapacityInternal_d00df
  rw [hc, show (16 : Int32) >>> ((0 : Int32) &&& 31) = zI 16 by decide +kernel, zI_sub, if_pos (show zI ((p : Int) - 16) ≤ 0 from zle_p (y := 0) (zr_s (by omega)) (zr_s (by omega)) (by omega))]
theorem c_latin {g : tJ4} (hc : g.2.1 = 0) : q_J5_isLatin1_aae02 g = some 1 := by
  unfold q_J5_isLatin1_aae02
  rw [if_neg (by decide), if_pos hc]
theorem c_setLen {g : tJ4} {m : Nat} (hc : g.2.1 = 0) (hm : g.2.2.2 = zI m) (h16 : m ≤ 16) : ∃ k : Int32, q_J4_setLength_d00df g 0 = some (k, 0) := by
  unfold q_J4_setLength_d00df q_J5_setLength_d00df
  rw [if_pos (by decide), show q_J5_ensureCapacityInternal_d00df g 0 = _ from c_ens (p := 0) hc (by omega), zb_some, hm, if_pos (show (0 : Int32) ≤ zI m from zle_p (x := 0) (zr_s (by omega)) (zr_s (by omega)) (by omega))]
  unfold q_J5_setLength_d00df_J76
  split
  · exact ⟨_, rfl⟩
  · exact ⟨_, rfl⟩
theorem c_appInt {g : tJ4} {m : Nat} {t : Int} (hc : g.2.1 = 0) (hm : g.2.2.2 = zI m) (ht : 0 ≤ t ∧ t ≤ 99999) (h16 : m + nd t ≤ 16) : q_J4_append_bf812 g (zI t) = some (dput g.1 (m + nd t) t (nd t), zI ((m + nd t : Nat) : Int)) := by
  obtain ⟨k, hk⟩ := c_getChars (w := g.1) (e := m + nd t) ht (by omega) h16
  unfold q_J4_append_bf812 q_J5_append_c97b9
  rw [c_stringSize ht, zb_some, hm, zI_k, c_ens hc h16, zb_some, c_latin hc, zb_some, if_neg (by decide), hk, zb_some]
  rfl
theorem c_appSp {g : tJ4} {m : Nat} (hc : g.2.1 = 0) (hm : g.2.2.2 = zI m) (h16 : m < 16) : q_J4_append_cf468 g 32 = some (upd g.1 m 32, zI ((m + 1 : Nat) : Int)) := by
  unfold q_J4_append_cf468 q_J5_append_3fe6f q_J1_canEncode_fc78d
  rw [hm, zI_1, c_ens hc (by omega), zb_some, c_latin hc, zb_some, if_neg (by decide), if_neg (by decide), zb_some, if_neg (by decide)]
  unfold zn
  dsimp only
  rw [zs_N h16 (by omega), zb_some, show vp_nar .byte (Int8.toInt32 (Int32.toInt8 32)) = 32 by decide +kernel]
theorem zlen : ∀ k : Fin 6, q_J0_length_8abf5 k = some (zI (zSL k : Nat)) := by decide +kernel
theorem zcod : ∀ k : Fin 6, q_J0_coder_7d493 k = some 0 := by decide +kernel
theorem zshl : ∀ m : Fin 17, zI ((m : Nat) : Int) <<< ((0 : Int32) &&& 31) = zI ((m : Nat) : Int) := by decide +kernel
theorem c_appStr {g : tJ4} {m k : Nat} (hc : g.2.1 = 0) (hm : g.2.2.2 = zI m) (hk : k < 6) (h16 : m + zSL k ≤ 16) : q_J4_append_15ec4 g k = some (va_cpy (zSB k) g.1 0 m (zSL k), zI ((m + zSL k : Nat) : Int)) := by
  have e1 : q_J0_length_8abf5 k = some (zI (zSL k : Nat)) := zlen ⟨k, hk⟩
  have e2 : q_J0_coder_7d493 k = some 0 := zcod ⟨k, hk⟩
  have e3 : zI (m : Nat) <<< ((0 : Int32) &&& 31) = zI (m : Nat) := zshl ⟨m, by omega⟩
  have em : (zI (m : Nat)).toNatClampNeg = m := by rw [zI_clamp (zr_s (by omega))]; rfl
  unfold q_J4_append_15ec4 q_J5_append_cf1ce q_J5_putStringAt_47b60 q_J5_inflateIfNeededFor_a7421 q_J0_getBytes_840e7
  rw [zq_t hk, e1, zb_some, hm, zI_k, c_ens hc h16, zb_some, if_neg (by decide), zq_t hk, e2, zb_some, hc, if_pos rfl, zb_some, zq_t hk, zq_t hk, zb_some, if_pos rfl, zq_t hk, zq_t hk, zq_t hk, zq_t hk, e3, em, zq_t ⟨show ¬ zI (m : Nat) < 0 from zlt_n (y := 0) (zr_s (by omega)) (zr_s (by omega)) (by omega), h16⟩]
  rfl
end PL
