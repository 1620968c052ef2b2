/-! reading a plan: a command -/
section PY2
variable {p : tX4} {v : tX7} {T : Nat → Int} {m q : Nat}
theorem z10 : ¬ (1 : Int32) = 0 := by decide
theorem z01 : ¬ (0 : Int32) = 1 := by decide
theorem c_sgc {c : Int} (hx : xT p.1 T m) (hl : p.2.1 = zI m) (ha : p.2.2.1 = zI q) (h : isC T m q c) : q_X4_sign p = some (zI c) := by
  rw [c_sign hx hl ha (by have := h.1; omega), if_pos h.1, h.2]
theorem m_sgc {c : Int} (hx : xT v.2.2.2.2.1 T m) (hl : v.2.2.2.2.2.1 = zI m) (ha : v.2.2.2.2.2.2.1 = zI q) (h : isC T m q c) : q_X7_character v v.2.2.2.2.2.2.1 = some (zI c) := by
  rw [ha, m_char hx hl (by have := h.1; omega), if_pos h.1, h.2]
theorem c_spY (hx : xT p.1 T m) (hl : p.2.1 = zI m) (ha : p.2.2.1 = zI q) (h : dgC T m q 48 55) : q_X4_takeSpan p = some (1, zI ((q + 1 : Nat) : Int), zI (T q - 48)) := by
  unfold q_X4_takeSpan
  rw [show q_X4_takeDigit p 48 55 = _ from c_dgY (lo := 48) (hi := 55) hx hl ha (by omega) h, zb_some]
  exact zq_t (Or.inr rfl)
theorem c_spN (hx : xT p.1 T m) (hl : p.2.1 = zI m) (ha : p.2.2.1 = zI q) (hq : q ≤ m) (h : ¬ dgC T m q 48 55) : q_X4_takeSpan p = some (0, zI q, p.2.2.2.2.2.2.2) := by
  unfold q_X4_takeSpan
  rw [show q_X4_takeDigit p 48 55 = _ from c_dgN (lo := 48) (hi := 55) hx hl ha hq (by omega) h, zb_some]
  exact zq_t (Or.inl rfl)
theorem m_spY (hx : xT v.2.2.2.2.1 T m) (hl : v.2.2.2.2.2.1 = zI m) (ha : v.2.2.2.2.2.2.1 = zI q) (h : dgC T m q 48 55) : q_X7_readsSpan v = some (1, zI ((q + 1 : Nat) : Int), zI (T q - 48), zI (T q - 48)) := by
  unfold q_X7_readsSpan
  rw [show q_X7_readsDigit v 0 7 = _ from m_dgY (lo := 0) (hi := 7) hx hl ha (by omega) h, zb_some]
  exact zq_t (Or.inr rfl)
theorem m_spN (hx : xT v.2.2.2.2.1 T m) (hl : v.2.2.2.2.2.1 = zI m) (ha : v.2.2.2.2.2.2.1 = zI q) (hq : q ≤ m) (h : ¬ dgC T m q 48 55) : ∃ z : Int32, q_X7_readsSpan v = some (0, zI q, z, z) := by
  obtain ⟨z, hz⟩ := m_dgN (lo := 0) (hi := 7) hx hl ha hq (by omega) h
  refine ⟨z, ?_⟩
  unfold q_X7_readsSpan
  rw [show q_X7_readsDigit v 0 7 = _ from hz, zb_some]
  exact zq_t (Or.inl rfl)
theorem c_d9Y (hx : xT p.1 T m) (hl : p.2.1 = zI m) (ha : p.2.2.1 = zI q) (h : dgC T m q 49 57) : q_X4_takeDigit p 49 57 = some (1, zI ((q + 1 : Nat) : Int), zI (T q - 48)) := c_dgY (lo := 49) (hi := 57) hx hl ha (by omega) h
theorem c_d9N (hx : xT p.1 T m) (hl : p.2.1 = zI m) (ha : p.2.2.1 = zI q) (hq : q ≤ m) (h : ¬ dgC T m q 49 57) : q_X4_takeDigit p 49 57 = some (0, zI q, p.2.2.2.2.2.2.2) := c_dgN (lo := 49) (hi := 57) hx hl ha hq (by omega) h
theorem m_d9Y (hx : xT v.2.2.2.2.1 T m) (hl : v.2.2.2.2.2.1 = zI m) (ha : v.2.2.2.2.2.2.1 = zI q) (h : dgC T m q 49 57) : q_X7_readsDigit v 1 9 = some (1, zI ((q + 1 : Nat) : Int), zI (T q - 48)) := m_dgY (lo := 1) (hi := 9) hx hl ha (by omega) h
theorem m_d9N (hx : xT v.2.2.2.2.1 T m) (hl : v.2.2.2.2.2.1 = zI m) (ha : v.2.2.2.2.2.2.1 = zI q) (hq : q ≤ m) (h : ¬ dgC T m q 49 57) : ∃ z : Int32, q_X7_readsDigit v 1 9 = some (0, zI q, z) := m_dgN (lo := 1) (hi := 9) hx hl ha hq (by omega) h
theorem c_coY (hx : xT p.1 T m) (hl : p.2.1 = zI m) (ha : p.2.2.1 = zI q) (h : isC T m q 58) : q_X4_takeSign p 58 = some (1, zI ((q + 1 : Nat) : Int)) := c_sgY (c := 58) hx hl ha h
theorem c_coN (hx : xT p.1 T m) (hl : p.2.1 = zI m) (ha : p.2.2.1 = zI q) (hq : q ≤ m) (h : ¬ isC T m q 58) : q_X4_takeSign p 58 = some (0, zI q) := c_sgN (c := 58) hx hl ha hq (by omega) h
theorem m_coY (hx : xT v.2.2.2.2.1 T m) (hl : v.2.2.2.2.2.1 = zI m) (ha : v.2.2.2.2.2.2.1 = zI q) (h : isC T m q 58) : q_X7_isNext v 58 = some (1, zI ((q + 1 : Nat) : Int)) := m_sgY (c := 58) hx hl ha h
theorem m_coN (hx : xT v.2.2.2.2.1 T m) (hl : v.2.2.2.2.2.1 = zI m) (ha : v.2.2.2.2.2.2.1 = zI q) (hq : q ≤ m) (h : ¬ isC T m q 58) : q_X7_isNext v 58 = some (0, zI q) := m_sgN (c := 58) hx hl ha hq (by omega) h
theorem c_nuY {i : Nat} (hx : xT p.1 T m) (hl : p.2.1 = zI m) (ha : p.2.2.1 = zI q) (hq : q ≤ m) (h : nP T m q i) (h0 : i ≠ 0) : q_X4_takeNumber p = some (1, zI ((q + i : Nat) : Int), zI (nv T q i)) := by
  rw [c_num hx hl ha hq h, if_neg h0]
theorem c_nuN {i : Nat} (hx : xT p.1 T m) (hl : p.2.1 = zI m) (ha : p.2.2.1 = zI q) (hq : q ≤ m) (h : nP T m q i) (h0 : i = 0) : q_X4_takeNumber p = some (0, zI ((q + i : Nat) : Int), zI (nv T q i)) := by
  rw [c_num hx hl ha hq h, if_pos h0]
theorem m_nuY {i : Nat} (hx : xT v.2.2.2.2.1 T m) (hl : v.2.2.2.2.2.1 = zI m) (ha : v.2.2.2.2.2.2.1 = zI q) (hq : q ≤ m) (h : nP T m q i) (h0 : i ≠ 0) : q_X7_readsNumber v = some (1, zI ((q + i : Nat) : Int), zI (nv T q i)) := by
  rw [m_num hx hl ha hq h, if_neg h0]
theorem m_nuN {i : Nat} (hx : xT v.2.2.2.2.1 T m) (hl : v.2.2.2.2.2.1 = zI m) (ha : v.2.2.2.2.2.2.1 = zI q) (hq : q ≤ m) (h : nP T m q i) (h0 : i = 0) : q_X7_readsNumber v = some (0, zI ((q + i : Nat) : Int), zI (nv T q i)) := by
  rw [m_num hx hl ha hq h, if_pos h0]
theorem L6 : zSL 6 = 5 := rfl
theorem L7 : zSL 7 = 6 := rfl
theorem L8 : zSL 8 = 4 := rfl
theorem L9 : zSL 9 = 5 := rfl
theorem L10 : zSL 10 = 4 := rfl
theorem L11 : zSL 11 = 6 := rfl
theorem L12 : zSL 12 = 5 := rfl
theorem L13 : zSL 13 = 3 := rfl
/-- the class reads a command: ok, its end, its kind and numbers -/
def cmC (T : Nat → Int) (m q : Nat) (o : Int32 × Nat × Int × Int × Int) : Prop := ∀ (p : tX4) (idx : Nat), xT p.1 T m → p.2.1 = zI m → p.2.2.1 = zI q → idx < 16 → ∃ p' : tX4, q_X4_takeCommand p (zI idx) = some (o.1, p') ∧ p'.1 = p.1 ∧ p'.2.1 = p.2.1 ∧ p'.2.2.1 = zI o.2.1 ∧ p'.2.2.2.2.2.2.1 = p.2.2.2.2.2.2.1 ∧ (∀ j, j ≠ idx → p'.2.2.2.1 j = p.2.2.2.1 j ∧ p'.2.2.2.2.1 j = p.2.2.2.2.1 j ∧ p'.2.2.2.2.2.1 j = p.2.2.2.2.2.1 j) ∧ (o.1 = 1 → p'.2.2.2.1 idx = zI o.2.2.1 ∧ p'.2.2.2.2.1 idx = zI o.2.2.2.1 ∧ (o.2.2.1 = 1 ∨ o.2.2.1 = 4 → p'.2.2.2.2.2.1 idx = zI o.2.2.2.2))
/-- a command as the model notes it -/
def cmK (o : Int32 × Nat × Int × Int × Int) (c one two : Int32) : Prop := (o.2.2.1 = 1 ∧ c = 114 ∧ one = zI o.2.2.2.1 ∧ two = zI o.2.2.2.2) ∨ (o.2.2.1 = 2 ∧ c = 113 ∧ two = zI o.2.2.2.1) ∨ (o.2.2.1 = 3 ∧ c = 97 ∧ one = zI o.2.2.2.1) ∨ (o.2.2.1 = 4 ∧ c = 115 ∧ one = zI o.2.2.2.1 ∧ two = zI o.2.2.2.2) ∨ (o.2.2.1 = 5 ∧ c = 119 ∧ two = zI o.2.2.2.1)
def cmM (T : Nat → Int) (m q : Nat) (o : Int32 × Nat × Int × Int × Int) : Prop := ∀ v : tX7, xT v.2.2.2.2.1 T m → v.2.2.2.2.2.1 = zI m → v.2.2.2.2.2.2.1 = zI q → ∃ c one two num : Int32, q_X7_readsCommand v = some (o.1, zI o.2.1, c, one, two, num) ∧ (o.1 = 1 → cmK o c one two)
def cmX (o : Int32 × Nat × Int × Int × Int) : Prop := (o.2.2.1 = 1 ∧ (0 ≤ o.2.2.2.1 ∧ o.2.2.2.1 ≤ 7) ∧ (0 ≤ o.2.2.2.2 ∧ o.2.2.2.2 ≤ 999)) ∨ (o.2.2.1 = 2 ∧ (0 ≤ o.2.2.2.1 ∧ o.2.2.2.1 ≤ 999)) ∨ (o.2.2.1 = 3 ∧ (0 ≤ o.2.2.2.1 ∧ o.2.2.2.1 ≤ 7)) ∨ (o.2.2.1 = 4 ∧ (0 ≤ o.2.2.2.1 ∧ o.2.2.2.1 ≤ 7) ∧ (1 ≤ o.2.2.2.2 ∧ o.2.2.2.2 ≤ 9)) ∨ (o.2.2.1 = 5 ∧ (0 ≤ o.2.2.2.1 ∧ o.2.2.2.1 ≤ 2))
def cmB (m q : Nat) (o : Int32 × Nat × Int × Int × Int) : Prop := (o.1 = 0 ∨ o.1 = 1) ∧ o.2.1 ≤ m ∧ (o.1 = 1 → q + 5 ≤ o.2.1 ∧ cmX o)
def cmA (T : Nat → Int) (m q : Nat) (o : Int32 × Nat × Int × Int × Int) : Prop := cmC T m q o ∧ cmM T m q o ∧ cmB m q o
theorem way_ex (T : Nat → Int) (m q : Nat) (hq : q ≤ m) : ∃ (ok : Int32) (q' : Nat) (x : Int), (ok = 0 ∨ ok = 1) ∧ q' ≤ m ∧ (ok = 1 → q + 3 ≤ q') ∧ (0 ≤ x ∧ x ≤ 2) ∧ (∀ p : tX4, xT p.1 T m → p.2.1 = zI m → p.2.2.1 = zI q → ∃ z : Int32, q_X4_takeWay p = some (ok, zI q', z) ∧ (ok = 1 → z = zI x)) ∧ (∀ v : tX7, xT v.2.2.2.2.1 T m → v.2.2.2.2.2.1 = zI m → v.2.2.2.2.2.2.1 = zI q → ∃ z : Int32, q_X7_readsWay v = some (ok, zI q', z) ∧ (ok = 1 → z = zI x)) := by
  by_cases h111 : isC T m q 111
  · rcases w_out T m q 11 with hw | ⟨i, hw⟩
    · have hle := wY_le (k := 11) (by decide) hw
      rw [L11] at hle
      refine ⟨1, q + zSL 11, 0, Or.inr rfl, by rw [L11]; exact hle, fun _ => by rw [L11]; omega, by omega, fun p hx hl ha => ⟨0, ?_, fun _ => rfl⟩, fun v hx hl ha => ⟨0, ?_, fun _ => rfl⟩⟩
      · unfold q_X4_takeWay
        rw [c_sgc hx hl ha h111, zb_some, if_pos (show zI 111 = 111 from rfl), c_wordY (p := (p.1, p.2.1, p.2.2.1, p.2.2.2.1, p.2.2.2.2.1, p.2.2.2.2.2.1, p.2.2.2.2.2.2.1, 0)) (by omega) hx hl ha hw, zb_some]
        exact zq_t (Or.inr rfl)
      · unfold q_X7_readsWay q_X7_readsWay_J31 q_X7_readsWay_J62
        rw [m_sgc hx hl ha h111, zb_some, if_pos (show zI 111 = 111 from rfl), if_pos (show zI 111 = 111 from rfl), m_wordY (v := (v.1, v.2.1, v.2.2.1, v.2.2.2.1, v.2.2.2.2.1, v.2.2.2.2.2.1, v.2.2.2.2.2.2.1, v.2.2.2.2.2.2.2.1, v.2.2.2.2.2.2.2.2.1, 0, v.2.2.2.2.2.2.2.2.2.2)) (by omega) wok_11 hx hl ha hw, zb_some]
        exact zq_t (Or.inr rfl)
    · have hle := wN_le hq hw
      refine ⟨0, q + i, 0, Or.inl rfl, hle, fun h => absurd h z01, by omega, fun p hx hl ha => ⟨0, ?_, fun h => absurd h z01⟩, fun v hx hl ha => ⟨0, ?_, fun h => absurd h z01⟩⟩
      · unfold q_X4_takeWay
        rw [c_sgc hx hl ha h111, zb_some, if_pos (show zI 111 = 111 from rfl), c_wordN (p := (p.1, p.2.1, p.2.2.1, p.2.2.2.1, p.2.2.2.2.1, p.2.2.2.2.2.1, p.2.2.2.2.2.2.1, 0)) (by omega) hx hl ha hq hw, zb_some]
        exact zq_t (Or.inl rfl)
      · unfold q_X7_readsWay q_X7_readsWay_J31 q_X7_readsWay_J62
        rw [m_sgc hx hl ha h111, zb_some, if_pos (show zI 111 = 111 from rfl), if_pos (show zI 111 = 111 from rfl), m_wordN (v := (v.1, v.2.1, v.2.2.1, v.2.2.2.1, v.2.2.2.2.1, v.2.2.2.2.2.1, v.2.2.2.2.2.2.1, v.2.2.2.2.2.2.2.1, v.2.2.2.2.2.2.2.2.1, 0, v.2.2.2.2.2.2.2.2.2.2)) (by omega) wok_11 hx hl ha hq hw, zb_some]
        exact zq_t (Or.inl rfl)
  by_cases h114 : isC T m q 114
  · rcases w_out T m q 13 with hw | ⟨i, hw⟩
    · have hle := wY_le (k := 13) (by decide) hw
      rw [L13] at hle
      refine ⟨1, q + zSL 13, 2, Or.inr rfl, by rw [L13]; exact hle, fun _ => by rw [L13]; omega, by omega, fun p hx hl ha => ⟨2, ?_, fun _ => rfl⟩, fun v hx hl ha => ⟨2, ?_, fun _ => rfl⟩⟩
      · unfold q_X4_takeWay
        rw [c_sgc hx hl ha h114, zb_some, if_neg (show ¬ zI 114 = 111 by decide), if_pos (show zI 114 = 114 from rfl), c_wordY (p := (p.1, p.2.1, p.2.2.1, p.2.2.2.1, p.2.2.2.2.1, p.2.2.2.2.2.1, p.2.2.2.2.2.2.1, 2)) (by omega) hx hl ha hw, zb_some]
        exact zq_t (Or.inr rfl)
      · unfold q_X7_readsWay q_X7_readsWay_J31 q_X7_readsWay_J62
        rw [m_sgc hx hl ha h114, zb_some, if_neg (show ¬ zI 114 = 111 by decide), if_neg (show ¬ zI 114 = 119 by decide), if_neg (show ¬ zI 114 = 111 by decide), if_neg (show ¬ zI 114 = 119 by decide), m_wordY (v := (v.1, v.2.1, v.2.2.1, v.2.2.2.1, v.2.2.2.2.1, v.2.2.2.2.2.1, v.2.2.2.2.2.2.1, v.2.2.2.2.2.2.2.1, v.2.2.2.2.2.2.2.2.1, 2, v.2.2.2.2.2.2.2.2.2.2)) (by omega) wok_13 hx hl ha hw, zb_some]
        exact zq_t (Or.inr rfl)
    · have hle := wN_le hq hw
      refine ⟨0, q + i, 0, Or.inl rfl, hle, fun h => absurd h z01, by omega, fun p hx hl ha => ⟨2, ?_, fun h => absurd h z01⟩, fun v hx hl ha => ⟨2, ?_, fun h => absurd h z01⟩⟩
      · unfold q_X4_takeWay
        rw [c_sgc hx hl ha h114, zb_some, if_neg (show ¬ zI 114 = 111 by decide), if_pos (show zI 114 = 114 from rfl), c_wordN (p := (p.1, p.2.1, p.2.2.1, p.2.2.2.1, p.2.2.2.2.1, p.2.2.2.2.2.1, p.2.2.2.2.2.2.1, 2)) (by omega) hx hl ha hq hw, zb_some]
        exact zq_t (Or.inl rfl)
      · unfold q_X7_readsWay q_X7_readsWay_J31 q_X7_readsWay_J62
        rw [m_sgc hx hl ha h114, zb_some, if_neg (show ¬ zI 114 = 111 by decide), if_neg (show ¬ zI 114 = 119 by decide), if_neg (show ¬ zI 114 = 111 by decide), if_neg (show ¬ zI 114 = 119 by decide), m_wordN (v := (v.1, v.2.1, v.2.2.1, v.2.2.2.1, v.2.2.2.2.1, v.2.2.2.2.2.1, v.2.2.2.2.2.2.1, v.2.2.2.2.2.2.2.1, v.2.2.2.2.2.2.2.2.1, 2, v.2.2.2.2.2.2.2.2.2.2)) (by omega) wok_13 hx hl ha hq hw, zb_some]
        exact zq_t (Or.inl rfl)
  by_cases h119 : isC T m q 119
  · rcases w_out T m q 12 with hw | ⟨i, hw⟩
    · have hle := wY_le (k := 12) (by decide) hw
      rw [L12] at hle
      refine ⟨1, q + zSL 12, 1, Or.inr rfl, by rw [L12]; exact hle, fun _ => by rw [L12]; omega, by omega, fun p hx hl ha => ⟨1, ?_, fun _ => rfl⟩, fun v hx hl ha => ⟨1, ?_, fun _ => rfl⟩⟩
      · unfold q_X4_takeWay
        rw [c_sgc hx hl ha h119, zb_some, if_neg (show ¬ zI 119 = 111 by decide), if_neg (show ¬ zI 119 = 114 by decide), if_pos (show zI 119 = 119 from rfl), c_wordY (p := (p.1, p.2.1, p.2.2.1, p.2.2.2.1, p.2.2.2.2.1, p.2.2.2.2.2.1, p.2.2.2.2.2.2.1, 1)) (by omega) hx hl ha hw, zb_some]
        exact zq_t (Or.inr rfl)
      · unfold q_X7_readsWay q_X7_readsWay_J31 q_X7_readsWay_J62
        rw [m_sgc hx hl ha h119, zb_some, if_neg (show ¬ zI 119 = 111 by decide), if_pos (show zI 119 = 119 from rfl), if_neg (show ¬ zI 119 = 111 by decide), if_pos (show zI 119 = 119 from rfl), m_wordY (v := (v.1, v.2.1, v.2.2.1, v.2.2.2.1, v.2.2.2.2.1, v.2.2.2.2.2.1, v.2.2.2.2.2.2.1, v.2.2.2.2.2.2.2.1, v.2.2.2.2.2.2.2.2.1, 1, v.2.2.2.2.2.2.2.2.2.2)) (by omega) wok_12 hx hl ha hw, zb_some]
        exact zq_t (Or.inr rfl)
    · have hle := wN_le hq hw
      refine ⟨0, q + i, 0, Or.inl rfl, hle, fun h => absurd h z01, by omega, fun p hx hl ha => ⟨1, ?_, fun h => absurd h z01⟩, fun v hx hl ha => ⟨1, ?_, fun h => absurd h z01⟩⟩
      · unfold q_X4_takeWay
        rw [c_sgc hx hl ha h119, zb_some, if_neg (show ¬ zI 119 = 111 by decide), if_neg (show ¬ zI 119 = 114 by decide), if_pos (show zI 119 = 119 from rfl), c_wordN (p := (p.1, p.2.1, p.2.2.1, p.2.2.2.1, p.2.2.2.2.1, p.2.2.2.2.2.1, p.2.2.2.2.2.2.1, 1)) (by omega) hx hl ha hq hw, zb_some]
        exact zq_t (Or.inl rfl)
      · unfold q_X7_readsWay q_X7_readsWay_J31 q_X7_readsWay_J62
        rw [m_sgc hx hl ha h119, zb_some, if_neg (show ¬ zI 119 = 111 by decide), if_pos (show zI 119 = 119 from rfl), if_neg (show ¬ zI 119 = 111 by decide), if_pos (show zI 119 = 119 from rfl), m_wordN (v := (v.1, v.2.1, v.2.2.1, v.2.2.2.1, v.2.2.2.2.1, v.2.2.2.2.2.1, v.2.2.2.2.2.2.1, v.2.2.2.2.2.2.2.1, v.2.2.2.2.2.2.2.2.1, 1, v.2.2.2.2.2.2.2.2.2.2)) (by omega) wok_12 hx hl ha hq hw, zb_some]
        exact zq_t (Or.inl rfl)
  · have hw : wN T m q 13 0 := ⟨by decide, fun j hj => absurd hj (Nat.not_lt_zero j), h114⟩
    refine ⟨0, q, 0, Or.inl rfl, hq, fun h => absurd h z01, by omega, fun p hx hl ha => ⟨p.2.2.2.2.2.2.2, ?_, fun h => absurd h z01⟩, fun v hx hl ha => ⟨2, ?_, fun h => absurd h z01⟩⟩
    · unfold q_X4_takeWay
      have n111 : ¬ zI (if q < m then T q else 0) = 111 := sg_ne (c := 111) (fun k hk => (hx.2 k hk).1) (by omega) (by omega) h111
      have n114 : ¬ zI (if q < m then T q else 0) = 114 := sg_ne (c := 114) (fun k hk => (hx.2 k hk).1) (by omega) (by omega) h114
      have n119 : ¬ zI (if q < m then T q else 0) = 119 := sg_ne (c := 119) (fun k hk => (hx.2 k hk).1) (by omega) (by omega) h119
      rw [c_sign hx hl ha hq, zb_some, if_neg n111, if_neg n114, if_neg n119, ha]
    · unfold q_X7_readsWay q_X7_readsWay_J31 q_X7_readsWay_J62
      have e : q_X7_character v v.2.2.2.2.2.2.1 = some (zI (if q < m then T q else -1)) := by
        rw [ha]
        exact m_char hx hl hq
      have n111 : ¬ zI (if q < m then T q else -1) = 111 := sg_ne (c := 111) (fun k hk => (hx.2 k hk).1) (by omega) (by omega) h111
      have n119 : ¬ zI (if q < m then T q else -1) = 119 := sg_ne (c := 119) (fun k hk => (hx.2 k hk).1) (by omega) (by omega) h119
      rw [e, zb_some, if_neg n111, if_neg n119, if_neg n111, if_neg n119, m_wordN (v := (v.1, v.2.1, v.2.2.1, v.2.2.2.1, v.2.2.2.2.1, v.2.2.2.2.2.1, v.2.2.2.2.2.2.1, v.2.2.2.2.2.2.2.1, v.2.2.2.2.2.2.2.2.1, 2, v.2.2.2.2.2.2.2.2.2.2)) (by omega) wok_13 hx hl ha hq hw, zb_some]
      exact zq_t (Or.inl rfl)
theorem cmd_a (hq : q ≤ m) (h0 : isC T m q 97) : ∃ o, cmA T m q o := by
  rcases w_out T m q 8 with hw | ⟨i, hw⟩
  · have hle := wY_le (k := 8) (by decide) hw
    have e8 := L8
    by_cases hsp : dgC T m (q + zSL 8) 48 55
    · have hsp' := hsp
      refine ⟨(1, q + zSL 8 + 1, 3, T (q + zSL 8) - 48, 0), ?_, ?_, ⟨Or.inr rfl, by have := hsp.1; dsimp only; omega, fun _ => ⟨by dsimp only; omega, Or.inr (Or.inr (Or.inl ⟨rfl, by have := hsp.2; dsimp only; omega⟩))⟩⟩⟩
      · intro p idx hx hl ha hi
        unfold q_X4_takeCommand
        rw [c_sgc hx hl ha h0, zb_some, if_pos (show zI 97 = 97 from rfl)]
        rw [c_wordY (by omega) hx hl ha hw, zb_some]
        dsimp only
        rw [if_neg z10]
        rw [c_spY (p := (p.1, p.2.1, zI ((q + zSL 8 : Nat) : Int), p.2.2.2.1, p.2.2.2.2.1, p.2.2.2.2.2.1, p.2.2.2.2.2.2.1, p.2.2.2.2.2.2.2)) hx hl rfl hsp, zb_some]
        dsimp only
        rw [if_neg z10]
        rw [c_note (p := (p.1, p.2.1, zI ((q + zSL 8 + 1 : Nat) : Int), p.2.2.2.1, p.2.2.2.2.1, p.2.2.2.2.2.1, p.2.2.2.2.2.2.1, zI (T (q + zSL 8) - 48))) hi, zb_some]
        dsimp only
        rw [if_neg z10]
        exact ⟨_, rfl, rfl, rfl, rfl, rfl, fun j hj => ⟨upd_ne' _ _ hj, upd_ne' _ _ hj, rfl⟩, fun _ => ⟨(upd_at _ _ _).trans rfl, upd_at _ _ _, fun h => absurd h (show ¬ ((3 : Int) = 1 ∨ (3 : Int) = 4) by omega)⟩⟩
      · intro v hx hl ha
        unfold q_X7_readsCommand q_X7_readsCommand_J139 q_X7_readsCommand_J106 q_X7_readsCommand_J214
        rw [m_sgc hx hl ha h0, zb_some, if_pos (show zI 97 = 97 from rfl)]
        rw [m_wordY (v := (v.1, v.2.1, v.2.2.1, v.2.2.2.1, v.2.2.2.2.1, v.2.2.2.2.2.1, v.2.2.2.2.2.2.1, zI 97, v.2.2.2.2.2.2.2.2.1, v.2.2.2.2.2.2.2.2.2.1, v.2.2.2.2.2.2.2.2.2.2)) (by omega) wok_8 hx hl ha hw, zb_some]
        dsimp only
        rw [if_neg z10]
        rw [m_spY (v := (v.1, v.2.1, v.2.2.1, v.2.2.2.1, v.2.2.2.2.1, v.2.2.2.2.2.1, zI ((q + zSL 8 : Nat) : Int), zI 97, v.2.2.2.2.2.2.2.2.1, v.2.2.2.2.2.2.2.2.2.1, v.2.2.2.2.2.2.2.2.2.2)) hx hl rfl hsp, zb_some]
        dsimp only
        rw [if_neg z10]
        exact ⟨_, _, _, _, rfl, fun _ => Or.inr (Or.inr (Or.inl ⟨rfl, rfl, rfl⟩))⟩
    · have hsp' := hsp
      refine ⟨(0, q + zSL 8, 0, 0, 0), ?_, ?_, ⟨Or.inl rfl, by dsimp only; omega, fun h => absurd h z01⟩⟩
      · intro p idx hx hl ha hi
        unfold q_X4_takeCommand
        rw [c_sgc hx hl ha h0, zb_some, if_pos (show zI 97 = 97 from rfl)]
        rw [c_wordY (by omega) hx hl ha hw, zb_some]
        dsimp only
        rw [if_neg z10]
        rw [c_spN (p := (p.1, p.2.1, zI ((q + zSL 8 : Nat) : Int), p.2.2.2.1, p.2.2.2.2.1, p.2.2.2.2.2.1, p.2.2.2.2.2.2.1, p.2.2.2.2.2.2.2)) hx hl rfl hle hsp, zb_some]
        dsimp only
        rw [if_pos rfl]
        exact ⟨_, rfl, rfl, rfl, rfl, rfl, fun j hj => ⟨rfl, rfl, rfl⟩, fun h => absurd h z01⟩
      · intro v hx hl ha
        unfold q_X7_readsCommand q_X7_readsCommand_J139 q_X7_readsCommand_J106 q_X7_readsCommand_J214
        rw [m_sgc hx hl ha h0, zb_some, if_pos (show zI 97 = 97 from rfl)]
        rw [m_wordY (v := (v.1, v.2.1, v.2.2.1, v.2.2.2.1, v.2.2.2.2.1, v.2.2.2.2.2.1, v.2.2.2.2.2.2.1, zI 97, v.2.2.2.2.2.2.2.2.1, v.2.2.2.2.2.2.2.2.2.1, v.2.2.2.2.2.2.2.2.2.2)) (by omega) wok_8 hx hl ha hw, zb_some]
        dsimp only
        rw [if_neg z10]
        obtain ⟨z, hz⟩ := m_spN (v := (v.1, v.2.1, v.2.2.1, v.2.2.2.1, v.2.2.2.2.1, v.2.2.2.2.2.1, zI ((q + zSL 8 : Nat) : Int), zI 97, v.2.2.2.2.2.2.2.2.1, v.2.2.2.2.2.2.2.2.2.1, v.2.2.2.2.2.2.2.2.2.2)) hx hl rfl hle hsp
        rw [hz, zb_some]
        dsimp only
        rw [if_pos rfl]
        exact ⟨_, _, _, _, rfl, fun h => absurd h z01⟩
  · have hle := wN_le hq hw
    refine ⟨(0, q + i, 0, 0, 0), ?_, ?_, ⟨Or.inl rfl, by exact hle, fun h => absurd h z01⟩⟩
    · intro p idx hx hl ha hi
      unfold q_X4_takeCommand
      rw [c_sgc hx hl ha h0, zb_some, if_pos (show zI 97 = 97 from rfl)]
      rw [c_wordN (by omega) hx hl ha hq hw, zb_some]
      dsimp only
      rw [if_pos rfl]
      exact ⟨_, rfl, rfl, rfl, rfl, rfl, fun j hj => ⟨rfl, rfl, rfl⟩, fun h => absurd h z01⟩
    · intro v hx hl ha
      unfold q_X7_readsCommand q_X7_readsCommand_J139 q_X7_readsCommand_J106 q_X7_readsCommand_J214
      rw [m_sgc hx hl ha h0, zb_some, if_pos (show zI 97 = 97 from rfl)]
      rw [m_wordN (v := (v.1, v.2.1, v.2.2.1, v.2.2.2.1, v.2.2.2.2.1, v.2.2.2.2.2.1, v.2.2.2.2.2.2.1, zI 97, v.2.2.2.2.2.2.2.2.1, v.2.2.2.2.2.2.2.2.2.1, v.2.2.2.2.2.2.2.2.2.2)) (by omega) wok_8 hx hl ha hq hw, zb_some]
      dsimp only
      rw [if_pos rfl]
      exact ⟨_, _, _, _, rfl, fun h => absurd h z01⟩
theorem cmd_q (hq : q ≤ m) (h0 : isC T m q 113) : ∃ o, cmA T m q o := by
  rcases w_out T m q 7 with hw | ⟨i, hw⟩
  · have hle := wY_le (k := 7) (by decide) hw
    have e7 := L7
    obtain ⟨n, hn⟩ := n_out T m (q + zSL 7)
    have hnl := nP_le hle hn
    by_cases hn0 : n = 0
    · have hle2 := hle
      refine ⟨(0, q + zSL 7 + n, 0, 0, 0), ?_, ?_, ⟨Or.inl rfl, by exact hnl, fun h => absurd h z01⟩⟩
      · intro p idx hx hl ha hi
        unfold q_X4_takeCommand
        rw [c_sgc hx hl ha h0, zb_some, if_neg (show ¬ zI 113 = 97 by decide), if_pos (show zI 113 = 113 from rfl)]
        rw [c_wordY (by omega) hx hl ha hw, zb_some]
        dsimp only
        rw [if_neg z10]
        rw [c_nuN (p := (p.1, p.2.1, zI ((q + zSL 7 : Nat) : Int), p.2.2.2.1, p.2.2.2.2.1, p.2.2.2.2.2.1, p.2.2.2.2.2.2.1, p.2.2.2.2.2.2.2)) hx hl rfl hle hn hn0, zb_some]
        dsimp only
        rw [if_pos rfl]
        exact ⟨_, rfl, rfl, rfl, rfl, rfl, fun j hj => ⟨rfl, rfl, rfl⟩, fun h => absurd h z01⟩
      · intro v hx hl ha
        unfold q_X7_readsCommand q_X7_readsCommand_J139 q_X7_readsCommand_J106 q_X7_readsCommand_J214
        rw [m_sgc hx hl ha h0, zb_some, if_neg (show ¬ zI 113 = 97 by decide), if_pos (show zI 113 = 113 from rfl)]
        rw [m_wordY (v := (v.1, v.2.1, v.2.2.1, v.2.2.2.1, v.2.2.2.2.1, v.2.2.2.2.2.1, v.2.2.2.2.2.2.1, zI 113, v.2.2.2.2.2.2.2.2.1, v.2.2.2.2.2.2.2.2.2.1, v.2.2.2.2.2.2.2.2.2.2)) (by omega) wok_7 hx hl ha hw, zb_some]
        dsimp only
        rw [if_neg z10]
        rw [m_nuN (v := (v.1, v.2.1, v.2.2.1, v.2.2.2.1, v.2.2.2.2.1, v.2.2.2.2.2.1, zI ((q + zSL 7 : Nat) : Int), zI 113, v.2.2.2.2.2.2.2.2.1, v.2.2.2.2.2.2.2.2.2.1, v.2.2.2.2.2.2.2.2.2.2)) hx hl rfl hle hn hn0, zb_some]
        dsimp only
        rw [if_pos rfl]
        rw [zq_t (Or.inl rfl)]
        exact ⟨_, _, _, _, rfl, fun h => absurd h z01⟩
    · have hb := nv_b hn n (by omega)
      refine ⟨(1, q + zSL 7 + n, 2, nv T (q + zSL 7) n, 0), ?_, ?_, ⟨Or.inr rfl, by exact hnl, fun _ => ⟨by dsimp only; omega, Or.inr (Or.inl ⟨rfl, hb⟩)⟩⟩⟩
      · intro p idx hx hl ha hi
        unfold q_X4_takeCommand
        rw [c_sgc hx hl ha h0, zb_some, if_neg (show ¬ zI 113 = 97 by decide), if_pos (show zI 113 = 113 from rfl)]
        rw [c_wordY (by omega) hx hl ha hw, zb_some]
        dsimp only
        rw [if_neg z10]
        rw [c_nuY (p := (p.1, p.2.1, zI ((q + zSL 7 : Nat) : Int), p.2.2.2.1, p.2.2.2.2.1, p.2.2.2.2.2.1, p.2.2.2.2.2.2.1, p.2.2.2.2.2.2.2)) hx hl rfl hle hn hn0, zb_some]
        dsimp only
        rw [if_neg z10]
        rw [c_note (p := (p.1, p.2.1, zI ((q + zSL 7 + n : Nat) : Int), p.2.2.2.1, p.2.2.2.2.1, p.2.2.2.2.2.1, p.2.2.2.2.2.2.1, zI (nv T (q + zSL 7) n))) hi, zb_some]
        dsimp only
        rw [if_neg z10]
        exact ⟨_, rfl, rfl, rfl, rfl, rfl, fun j hj => ⟨upd_ne' _ _ hj, upd_ne' _ _ hj, rfl⟩, fun _ => ⟨(upd_at _ _ _).trans rfl, upd_at _ _ _, fun h => absurd h (show ¬ ((2 : Int) = 1 ∨ (2 : Int) = 4) by omega)⟩⟩
      · intro v hx hl ha
        unfold q_X7_readsCommand q_X7_readsCommand_J139 q_X7_readsCommand_J106 q_X7_readsCommand_J214
        rw [m_sgc hx hl ha h0, zb_some, if_neg (show ¬ zI 113 = 97 by decide), if_pos (show zI 113 = 113 from rfl)]
        rw [m_wordY (v := (v.1, v.2.1, v.2.2.1, v.2.2.2.1, v.2.2.2.2.1, v.2.2.2.2.2.1, v.2.2.2.2.2.2.1, zI 113, v.2.2.2.2.2.2.2.2.1, v.2.2.2.2.2.2.2.2.2.1, v.2.2.2.2.2.2.2.2.2.2)) (by omega) wok_7 hx hl ha hw, zb_some]
        dsimp only
        rw [if_neg z10]
        rw [m_nuY (v := (v.1, v.2.1, v.2.2.1, v.2.2.2.1, v.2.2.2.2.1, v.2.2.2.2.2.1, zI ((q + zSL 7 : Nat) : Int), zI 113, v.2.2.2.2.2.2.2.2.1, v.2.2.2.2.2.2.2.2.2.1, v.2.2.2.2.2.2.2.2.2.2)) hx hl rfl hle hn hn0, zb_some]
        dsimp only
        rw [if_neg z10]
        rw [zq_t (Or.inr rfl)]
        exact ⟨_, _, _, _, rfl, fun _ => Or.inr (Or.inl ⟨rfl, rfl, rfl⟩)⟩
  · have hle := wN_le hq hw
    refine ⟨(0, q + i, 0, 0, 0), ?_, ?_, ⟨Or.inl rfl, by exact hle, fun h => absurd h z01⟩⟩
    · intro p idx hx hl ha hi
      unfold q_X4_takeCommand
      rw [c_sgc hx hl ha h0, zb_some, if_neg (show ¬ zI 113 = 97 by decide), if_pos (show zI 113 = 113 from rfl)]
      rw [c_wordN (by omega) hx hl ha hq hw, zb_some]
      dsimp only
      rw [if_pos rfl]
      exact ⟨_, rfl, rfl, rfl, rfl, rfl, fun j hj => ⟨rfl, rfl, rfl⟩, fun h => absurd h z01⟩
    · intro v hx hl ha
      unfold q_X7_readsCommand q_X7_readsCommand_J139 q_X7_readsCommand_J106 q_X7_readsCommand_J214
      rw [m_sgc hx hl ha h0, zb_some, if_neg (show ¬ zI 113 = 97 by decide), if_pos (show zI 113 = 113 from rfl)]
      rw [m_wordN (v := (v.1, v.2.1, v.2.2.1, v.2.2.2.1, v.2.2.2.2.1, v.2.2.2.2.2.1, v.2.2.2.2.2.2.1, zI 113, v.2.2.2.2.2.2.2.2.1, v.2.2.2.2.2.2.2.2.2.1, v.2.2.2.2.2.2.2.2.2.2)) (by omega) wok_7 hx hl ha hq hw, zb_some]
      dsimp only
      rw [if_pos rfl]
      rw [zq_t (Or.inl rfl)]
      exact ⟨_, _, _, _, rfl, fun h => absurd h z01⟩
theorem cmd_r (hq : q ≤ m) (h0 : isC T m q 114) : ∃ o, cmA T m q o := by
  rcases w_out T m q 6 with hw | ⟨i, hw⟩
  · have hle := wY_le (k := 6) (by decide) hw
    have e9 := L6
    by_cases hsp : dgC T m (q + zSL 6) 48 55
    · have hle2 : q + zSL 6 + 1 ≤ m := by have := hsp.1; omega
      by_cases hco : isC T m (q + zSL 6 + 1) 58
      · have hle3 : q + zSL 6 + 1 + 1 ≤ m := by have := hco.1; omega
        obtain ⟨n, hn⟩ := n_out T m (q + zSL 6 + 1 + 1)
        have hnl := nP_le hle3 hn
        by_cases hn0 : n = 0
        · have hle4 := hle3
          refine ⟨(0, q + zSL 6 + 1 + 1 + n, 0, 0, 0), ?_, ?_, ⟨Or.inl rfl, by exact hnl, fun h => absurd h z01⟩⟩
          · intro p idx hx hl ha hi
            unfold q_X4_takeCommand
            rw [c_sgc hx hl ha h0, zb_some, if_neg (show ¬ zI 114 = 97 by decide), if_neg (show ¬ zI 114 = 113 by decide), if_pos (show zI 114 = 114 from rfl)]
            rw [c_wordY (by omega) hx hl ha hw, zb_some]
            dsimp only
            rw [if_neg z10]
            rw [c_spY (p := (p.1, p.2.1, zI ((q + zSL 6 : Nat) : Int), p.2.2.2.1, p.2.2.2.2.1, p.2.2.2.2.2.1, p.2.2.2.2.2.2.1, p.2.2.2.2.2.2.2)) hx hl rfl hsp, zb_some]
            dsimp only
            rw [if_neg z10]
            rw [c_note (p := (p.1, p.2.1, zI ((q + zSL 6 + 1 : Nat) : Int), p.2.2.2.1, p.2.2.2.2.1, p.2.2.2.2.2.1, p.2.2.2.2.2.2.1, zI (T (q + zSL 6) - 48))) hi, zb_some]
            dsimp only
            rw [if_neg z10]
            rw [c_coY (p := (p.1, p.2.1, zI ((q + zSL 6 + 1 : Nat) : Int), (upd p.2.2.2.1 idx 1), (upd p.2.2.2.2.1 idx (zI (T (q + zSL 6) - 48))), p.2.2.2.2.2.1, p.2.2.2.2.2.2.1, zI (T (q + zSL 6) - 48))) hx hl rfl hco, zb_some]
            dsimp only
            rw [if_neg z10]
            rw [c_nuN (p := (p.1, p.2.1, zI ((q + zSL 6 + 1 + 1 : Nat) : Int), (upd p.2.2.2.1 idx 1), (upd p.2.2.2.2.1 idx (zI (T (q + zSL 6) - 48))), p.2.2.2.2.2.1, p.2.2.2.2.2.2.1, zI (T (q + zSL 6) - 48))) hx hl rfl hle3 hn hn0, zb_some]
            dsimp only
            rw [if_pos rfl]
            exact ⟨_, rfl, rfl, rfl, rfl, rfl, fun j hj => ⟨upd_ne' _ _ hj, upd_ne' _ _ hj, rfl⟩, fun h => absurd h z01⟩
          · intro v hx hl ha
            unfold q_X7_readsCommand q_X7_readsCommand_J139 q_X7_readsCommand_J106 q_X7_readsCommand_J214
            rw [m_sgc hx hl ha h0, zb_some, if_neg (show ¬ zI 114 = 97 by decide), if_neg (show ¬ zI 114 = 113 by decide), if_pos (show zI 114 = 114 from rfl)]
            rw [m_wordY (v := (v.1, v.2.1, v.2.2.1, v.2.2.2.1, v.2.2.2.2.1, v.2.2.2.2.2.1, v.2.2.2.2.2.2.1, zI 114, v.2.2.2.2.2.2.2.2.1, v.2.2.2.2.2.2.2.2.2.1, v.2.2.2.2.2.2.2.2.2.2)) (by omega) wok_6 hx hl ha hw, zb_some]
            dsimp only
            rw [if_neg z10]
            rw [m_spY (v := (v.1, v.2.1, v.2.2.1, v.2.2.2.1, v.2.2.2.2.1, v.2.2.2.2.2.1, zI ((q + zSL 6 : Nat) : Int), zI 114, v.2.2.2.2.2.2.2.2.1, v.2.2.2.2.2.2.2.2.2.1, v.2.2.2.2.2.2.2.2.2.2)) hx hl rfl hsp, zb_some]
            dsimp only
            rw [if_neg z10]
            rw [m_coY (v := (v.1, v.2.1, v.2.2.1, v.2.2.2.1, v.2.2.2.2.1, v.2.2.2.2.2.1, zI ((q + zSL 6 + 1 : Nat) : Int), zI 114, zI (T (q + zSL 6) - 48), v.2.2.2.2.2.2.2.2.2.1, zI (T (q + zSL 6) - 48))) hx hl rfl hco, zb_some]
            dsimp only
            rw [if_neg z10]
            rw [m_nuN (v := (v.1, v.2.1, v.2.2.1, v.2.2.2.1, v.2.2.2.2.1, v.2.2.2.2.2.1, zI ((q + zSL 6 + 1 + 1 : Nat) : Int), zI 114, zI (T (q + zSL 6) - 48), v.2.2.2.2.2.2.2.2.2.1, zI (T (q + zSL 6) - 48))) hx hl rfl hle3 hn hn0, zb_some]
            dsimp only
            rw [if_pos rfl]
            rw [zq_t (Or.inl rfl)]
            exact ⟨_, _, _, _, rfl, fun h => absurd h z01⟩
        · have hb := nv_b hn n (by omega)
          refine ⟨(1, q + zSL 6 + 1 + 1 + n, 1, T (q + zSL 6) - 48, nv T (q + zSL 6 + 1 + 1) n), ?_, ?_, ⟨Or.inr rfl, by exact hnl, fun _ => ⟨by dsimp only; omega, Or.inl ⟨rfl, by have := hsp.2; dsimp only; omega, hb⟩⟩⟩⟩
          · intro p idx hx hl ha hi
            unfold q_X4_takeCommand
            rw [c_sgc hx hl ha h0, zb_some, if_neg (show ¬ zI 114 = 97 by decide), if_neg (show ¬ zI 114 = 113 by decide), if_pos (show zI 114 = 114 from rfl)]
            rw [c_wordY (by omega) hx hl ha hw, zb_some]
            dsimp only
            rw [if_neg z10]
            rw [c_spY (p := (p.1, p.2.1, zI ((q + zSL 6 : Nat) : Int), p.2.2.2.1, p.2.2.2.2.1, p.2.2.2.2.2.1, p.2.2.2.2.2.2.1, p.2.2.2.2.2.2.2)) hx hl rfl hsp, zb_some]
            dsimp only
            rw [if_neg z10]
            rw [c_note (p := (p.1, p.2.1, zI ((q + zSL 6 + 1 : Nat) : Int), p.2.2.2.1, p.2.2.2.2.1, p.2.2.2.2.2.1, p.2.2.2.2.2.2.1, zI (T (q + zSL 6) - 48))) hi, zb_some]
            dsimp only
            rw [if_neg z10]
            rw [c_coY (p := (p.1, p.2.1, zI ((q + zSL 6 + 1 : Nat) : Int), (upd p.2.2.2.1 idx 1), (upd p.2.2.2.2.1 idx (zI (T (q + zSL 6) - 48))), p.2.2.2.2.2.1, p.2.2.2.2.2.2.1, zI (T (q + zSL 6) - 48))) hx hl rfl hco, zb_some]
            dsimp only
            rw [if_neg z10]
            rw [c_nuY (p := (p.1, p.2.1, zI ((q + zSL 6 + 1 + 1 : Nat) : Int), (upd p.2.2.2.1 idx 1), (upd p.2.2.2.2.1 idx (zI (T (q + zSL 6) - 48))), p.2.2.2.2.2.1, p.2.2.2.2.2.2.1, zI (T (q + zSL 6) - 48))) hx hl rfl hle3 hn hn0, zb_some]
            dsimp only
            rw [if_neg z10]
            rw [c_note2 (p := (p.1, p.2.1, zI ((q + zSL 6 + 1 + 1 + n : Nat) : Int), (upd p.2.2.2.1 idx 1), (upd p.2.2.2.2.1 idx (zI (T (q + zSL 6) - 48))), p.2.2.2.2.2.1, p.2.2.2.2.2.2.1, zI (nv T (q + zSL 6 + 1 + 1) n))) hi, zb_some]
            dsimp only
            rw [if_neg z10]
            exact ⟨_, rfl, rfl, rfl, rfl, rfl, fun j hj => ⟨upd_ne' _ _ hj, upd_ne' _ _ hj, upd_ne' _ _ hj⟩, fun _ => ⟨(upd_at _ _ _).trans rfl, upd_at _ _ _, fun _ => upd_at _ _ _⟩⟩
          · intro v hx hl ha
            unfold q_X7_readsCommand q_X7_readsCommand_J139 q_X7_readsCommand_J106 q_X7_readsCommand_J214
            rw [m_sgc hx hl ha h0, zb_some, if_neg (show ¬ zI 114 = 97 by decide), if_neg (show ¬ zI 114 = 113 by decide), if_pos (show zI 114 = 114 from rfl)]
            rw [m_wordY (v := (v.1, v.2.1, v.2.2.1, v.2.2.2.1, v.2.2.2.2.1, v.2.2.2.2.2.1, v.2.2.2.2.2.2.1, zI 114, v.2.2.2.2.2.2.2.2.1, v.2.2.2.2.2.2.2.2.2.1, v.2.2.2.2.2.2.2.2.2.2)) (by omega) wok_6 hx hl ha hw, zb_some]
            dsimp only
            rw [if_neg z10]
            rw [m_spY (v := (v.1, v.2.1, v.2.2.1, v.2.2.2.1, v.2.2.2.2.1, v.2.2.2.2.2.1, zI ((q + zSL 6 : Nat) : Int), zI 114, v.2.2.2.2.2.2.2.2.1, v.2.2.2.2.2.2.2.2.2.1, v.2.2.2.2.2.2.2.2.2.2)) hx hl rfl hsp, zb_some]
            dsimp only
            rw [if_neg z10]
            rw [m_coY (v := (v.1, v.2.1, v.2.2.1, v.2.2.2.1, v.2.2.2.2.1, v.2.2.2.2.2.1, zI ((q + zSL 6 + 1 : Nat) : Int), zI 114, zI (T (q + zSL 6) - 48), v.2.2.2.2.2.2.2.2.2.1, zI (T (q + zSL 6) - 48))) hx hl rfl hco, zb_some]
            dsimp only
            rw [if_neg z10]
            rw [m_nuY (v := (v.1, v.2.1, v.2.2.1, v.2.2.2.1, v.2.2.2.2.1, v.2.2.2.2.2.1, zI ((q + zSL 6 + 1 + 1 : Nat) : Int), zI 114, zI (T (q + zSL 6) - 48), v.2.2.2.2.2.2.2.2.2.1, zI (T (q + zSL 6) - 48))) hx hl rfl hle3 hn hn0, zb_some]
            dsimp only
            rw [if_neg z10]
            rw [zq_t (Or.inr rfl)]
            exact ⟨_, _, _, _, rfl, fun _ => Or.inl ⟨rfl, rfl, rfl, rfl⟩⟩
      · have hle3 := hle2
        refine ⟨(0, q + zSL 6 + 1, 0, 0, 0), ?_, ?_, ⟨Or.inl rfl, by exact hle2, fun h => absurd h z01⟩⟩
        · intro p idx hx hl ha hi
          unfold q_X4_takeCommand
          rw [c_sgc hx hl ha h0, zb_some, if_neg (show ¬ zI 114 = 97 by decide), if_neg (show ¬ zI 114 = 113 by decide), if_pos (show zI 114 = 114 from rfl)]
          rw [c_wordY (by omega) hx hl ha hw, zb_some]
          dsimp only
          rw [if_neg z10]
          rw [c_spY (p := (p.1, p.2.1, zI ((q + zSL 6 : Nat) : Int), p.2.2.2.1, p.2.2.2.2.1, p.2.2.2.2.2.1, p.2.2.2.2.2.2.1, p.2.2.2.2.2.2.2)) hx hl rfl hsp, zb_some]
          dsimp only
          rw [if_neg z10]
          rw [c_note (p := (p.1, p.2.1, zI ((q + zSL 6 + 1 : Nat) : Int), p.2.2.2.1, p.2.2.2.2.1, p.2.2.2.2.2.1, p.2.2.2.2.2.2.1, zI (T (q + zSL 6) - 48))) hi, zb_some]
          dsimp only
          rw [if_neg z10]
          rw [c_coN (p := (p.1, p.2.1, zI ((q + zSL 6 + 1 : Nat) : Int), (upd p.2.2.2.1 idx 1), (upd p.2.2.2.2.1 idx (zI (T (q + zSL 6) - 48))), p.2.2.2.2.2.1, p.2.2.2.2.2.2.1, zI (T (q + zSL 6) - 48))) hx hl rfl hle2 hco, zb_some]
          dsimp only
          rw [if_pos rfl]
          exact ⟨_, rfl, rfl, rfl, rfl, rfl, fun j hj => ⟨upd_ne' _ _ hj, upd_ne' _ _ hj, rfl⟩, fun h => absurd h z01⟩
        · intro v hx hl ha
          unfold q_X7_readsCommand q_X7_readsCommand_J139 q_X7_readsCommand_J106 q_X7_readsCommand_J214
          rw [m_sgc hx hl ha h0, zb_some, if_neg (show ¬ zI 114 = 97 by decide), if_neg (show ¬ zI 114 = 113 by decide), if_pos (show zI 114 = 114 from rfl)]
          rw [m_wordY (v := (v.1, v.2.1, v.2.2.1, v.2.2.2.1, v.2.2.2.2.1, v.2.2.2.2.2.1, v.2.2.2.2.2.2.1, zI 114, v.2.2.2.2.2.2.2.2.1, v.2.2.2.2.2.2.2.2.2.1, v.2.2.2.2.2.2.2.2.2.2)) (by omega) wok_6 hx hl ha hw, zb_some]
          dsimp only
          rw [if_neg z10]
          rw [m_spY (v := (v.1, v.2.1, v.2.2.1, v.2.2.2.1, v.2.2.2.2.1, v.2.2.2.2.2.1, zI ((q + zSL 6 : Nat) : Int), zI 114, v.2.2.2.2.2.2.2.2.1, v.2.2.2.2.2.2.2.2.2.1, v.2.2.2.2.2.2.2.2.2.2)) hx hl rfl hsp, zb_some]
          dsimp only
          rw [if_neg z10]
          rw [m_coN (v := (v.1, v.2.1, v.2.2.1, v.2.2.2.1, v.2.2.2.2.1, v.2.2.2.2.2.1, zI ((q + zSL 6 + 1 : Nat) : Int), zI 114, zI (T (q + zSL 6) - 48), v.2.2.2.2.2.2.2.2.2.1, zI (T (q + zSL 6) - 48))) hx hl rfl hle2 hco, zb_some]
          dsimp only
          rw [if_pos rfl]
          rw [zq_t (Or.inl rfl)]
          exact ⟨_, _, _, _, rfl, fun h => absurd h z01⟩
    · have hle2 := hle
      refine ⟨(0, q + zSL 6, 0, 0, 0), ?_, ?_, ⟨Or.inl rfl, by exact hle, fun h => absurd h z01⟩⟩
      · intro p idx hx hl ha hi
        unfold q_X4_takeCommand
        rw [c_sgc hx hl ha h0, zb_some, if_neg (show ¬ zI 114 = 97 by decide), if_neg (show ¬ zI 114 = 113 by decide), if_pos (show zI 114 = 114 from rfl)]
        rw [c_wordY (by omega) hx hl ha hw, zb_some]
        dsimp only
        rw [if_neg z10]
        rw [c_spN (p := (p.1, p.2.1, zI ((q + zSL 6 : Nat) : Int), p.2.2.2.1, p.2.2.2.2.1, p.2.2.2.2.2.1, p.2.2.2.2.2.2.1, p.2.2.2.2.2.2.2)) hx hl rfl hle hsp, zb_some]
        dsimp only
        rw [if_pos rfl]
        exact ⟨_, rfl, rfl, rfl, rfl, rfl, fun j hj => ⟨rfl, rfl, rfl⟩, fun h => absurd h z01⟩
      · intro v hx hl ha
        unfold q_X7_readsCommand q_X7_readsCommand_J139 q_X7_readsCommand_J106 q_X7_readsCommand_J214
        rw [m_sgc hx hl ha h0, zb_some, if_neg (show ¬ zI 114 = 97 by decide), if_neg (show ¬ zI 114 = 113 by decide), if_pos (show zI 114 = 114 from rfl)]
        rw [m_wordY (v := (v.1, v.2.1, v.2.2.1, v.2.2.2.1, v.2.2.2.2.1, v.2.2.2.2.2.1, v.2.2.2.2.2.2.1, zI 114, v.2.2.2.2.2.2.2.2.1, v.2.2.2.2.2.2.2.2.2.1, v.2.2.2.2.2.2.2.2.2.2)) (by omega) wok_6 hx hl ha hw, zb_some]
        dsimp only
        rw [if_neg z10]
        obtain ⟨z, hz⟩ := m_spN (v := (v.1, v.2.1, v.2.2.1, v.2.2.2.1, v.2.2.2.2.1, v.2.2.2.2.2.1, zI ((q + zSL 6 : Nat) : Int), zI 114, v.2.2.2.2.2.2.2.2.1, v.2.2.2.2.2.2.2.2.2.1, v.2.2.2.2.2.2.2.2.2.2)) hx hl rfl hle hsp
        rw [hz, zb_some]
        dsimp only
        rw [if_pos rfl]
        rw [zq_t (Or.inl rfl)]
        exact ⟨_, _, _, _, rfl, fun h => absurd h z01⟩
  · have hle := wN_le hq hw
    refine ⟨(0, q + i, 0, 0, 0), ?_, ?_, ⟨Or.inl rfl, by exact hle, fun h => absurd h z01⟩⟩
    · intro p idx hx hl ha hi
      unfold q_X4_takeCommand
      rw [c_sgc hx hl ha h0, zb_some, if_neg (show ¬ zI 114 = 97 by decide), if_neg (show ¬ zI 114 = 113 by decide), if_pos (show zI 114 = 114 from rfl)]
      rw [c_wordN (by omega) hx hl ha hq hw, zb_some]
      dsimp only
      rw [if_pos rfl]
      exact ⟨_, rfl, rfl, rfl, rfl, rfl, fun j hj => ⟨rfl, rfl, rfl⟩, fun h => absurd h z01⟩
    · intro v hx hl ha
      unfold q_X7_readsCommand q_X7_readsCommand_J139 q_X7_readsCommand_J106 q_X7_readsCommand_J214
      rw [m_sgc hx hl ha h0, zb_some, if_neg (show ¬ zI 114 = 97 by decide), if_neg (show ¬ zI 114 = 113 by decide), if_pos (show zI 114 = 114 from rfl)]
      rw [m_wordN (v := (v.1, v.2.1, v.2.2.1, v.2.2.2.1, v.2.2.2.2.1, v.2.2.2.2.2.1, v.2.2.2.2.2.2.1, zI 114, v.2.2.2.2.2.2.2.2.1, v.2.2.2.2.2.2.2.2.2.1, v.2.2.2.2.2.2.2.2.2.2)) (by omega) wok_6 hx hl ha hq hw, zb_some]
      dsimp only
      rw [if_pos rfl]
      rw [zq_t (Or.inl rfl)]
      exact ⟨_, _, _, _, rfl, fun h => absurd h z01⟩
theorem cmd_s (hq : q ≤ m) (h0 : isC T m q 115) : ∃ o, cmA T m q o := by
  rcases w_out T m q 9 with hw | ⟨i, hw⟩
  · have hle := wY_le (k := 9) (by decide) hw
    have e9 := L9
    by_cases hsp : dgC T m (q + zSL 9) 48 55
    · have hle2 : q + zSL 9 + 1 ≤ m := by have := hsp.1; omega
      by_cases hco : isC T m (q + zSL 9 + 1) 58
      · have hle3 : q + zSL 9 + 1 + 1 ≤ m := by have := hco.1; omega
        by_cases hdg : dgC T m (q + zSL 9 + 1 + 1) 49 57
        · have hle4 := hle3
          refine ⟨(1, q + zSL 9 + 1 + 1 + 1, 4, T (q + zSL 9) - 48, T (q + zSL 9 + 1 + 1) - 48), ?_, ?_, ⟨Or.inr rfl, by have := hdg.1; dsimp only; omega, fun _ => ⟨by dsimp only; omega, Or.inr (Or.inr (Or.inr (Or.inl ⟨rfl, by have := hsp.2; dsimp only; omega, by have := hdg.2; dsimp only; omega⟩)))⟩⟩⟩
          · intro p idx hx hl ha hi
            unfold q_X4_takeCommand
            rw [c_sgc hx hl ha h0, zb_some, if_neg (show ¬ zI 115 = 97 by decide), if_neg (show ¬ zI 115 = 113 by decide), if_neg (show ¬ zI 115 = 114 by decide), if_pos (show zI 115 = 115 from rfl)]
            rw [c_wordY (by omega) hx hl ha hw, zb_some]
            dsimp only
            rw [if_neg z10]
            rw [c_spY (p := (p.1, p.2.1, zI ((q + zSL 9 : Nat) : Int), p.2.2.2.1, p.2.2.2.2.1, p.2.2.2.2.2.1, p.2.2.2.2.2.2.1, p.2.2.2.2.2.2.2)) hx hl rfl hsp, zb_some]
            dsimp only
            rw [if_neg z10]
            rw [c_note (p := (p.1, p.2.1, zI ((q + zSL 9 + 1 : Nat) : Int), p.2.2.2.1, p.2.2.2.2.1, p.2.2.2.2.2.1, p.2.2.2.2.2.2.1, zI (T (q + zSL 9) - 48))) hi, zb_some]
            dsimp only
            rw [if_neg z10]
            rw [c_coY (p := (p.1, p.2.1, zI ((q + zSL 9 + 1 : Nat) : Int), (upd p.2.2.2.1 idx 4), (upd p.2.2.2.2.1 idx (zI (T (q + zSL 9) - 48))), p.2.2.2.2.2.1, p.2.2.2.2.2.2.1, zI (T (q + zSL 9) - 48))) hx hl rfl hco, zb_some]
            dsimp only
            rw [if_neg z10]
            rw [c_d9Y (p := (p.1, p.2.1, zI ((q + zSL 9 + 1 + 1 : Nat) : Int), (upd p.2.2.2.1 idx 4), (upd p.2.2.2.2.1 idx (zI (T (q + zSL 9) - 48))), p.2.2.2.2.2.1, p.2.2.2.2.2.2.1, zI (T (q + zSL 9) - 48))) hx hl rfl hdg, zb_some]
            dsimp only
            rw [if_neg z10]
            rw [c_note2 (p := (p.1, p.2.1, zI ((q + zSL 9 + 1 + 1 + 1 : Nat) : Int), (upd p.2.2.2.1 idx 4), (upd p.2.2.2.2.1 idx (zI (T (q + zSL 9) - 48))), p.2.2.2.2.2.1, p.2.2.2.2.2.2.1, zI (T (q + zSL 9 + 1 + 1) - 48))) hi, zb_some]
            dsimp only
            rw [if_neg z10]
            exact ⟨_, rfl, rfl, rfl, rfl, rfl, fun j hj => ⟨upd_ne' _ _ hj, upd_ne' _ _ hj, upd_ne' _ _ hj⟩, fun _ => ⟨(upd_at _ _ _).trans rfl, upd_at _ _ _, fun _ => upd_at _ _ _⟩⟩
          · intro v hx hl ha
            unfold q_X7_readsCommand q_X7_readsCommand_J139 q_X7_readsCommand_J106 q_X7_readsCommand_J214
            rw [m_sgc hx hl ha h0, zb_some, if_neg (show ¬ zI 115 = 97 by decide), if_neg (show ¬ zI 115 = 113 by decide), if_neg (show ¬ zI 115 = 114 by decide), if_pos (show zI 115 = 115 from rfl)]
            rw [m_wordY (v := (v.1, v.2.1, v.2.2.1, v.2.2.2.1, v.2.2.2.2.1, v.2.2.2.2.2.1, v.2.2.2.2.2.2.1, zI 115, v.2.2.2.2.2.2.2.2.1, v.2.2.2.2.2.2.2.2.2.1, v.2.2.2.2.2.2.2.2.2.2)) (by omega) wok_9 hx hl ha hw, zb_some]
            dsimp only
            rw [if_neg z10]
            rw [m_spY (v := (v.1, v.2.1, v.2.2.1, v.2.2.2.1, v.2.2.2.2.1, v.2.2.2.2.2.1, zI ((q + zSL 9 : Nat) : Int), zI 115, v.2.2.2.2.2.2.2.2.1, v.2.2.2.2.2.2.2.2.2.1, v.2.2.2.2.2.2.2.2.2.2)) hx hl rfl hsp, zb_some]
            dsimp only
            rw [if_neg z10]
            rw [m_coY (v := (v.1, v.2.1, v.2.2.1, v.2.2.2.1, v.2.2.2.2.1, v.2.2.2.2.2.1, zI ((q + zSL 9 + 1 : Nat) : Int), zI 115, zI (T (q + zSL 9) - 48), v.2.2.2.2.2.2.2.2.2.1, zI (T (q + zSL 9) - 48))) hx hl rfl hco, zb_some]
            dsimp only
            rw [if_neg z10]
            rw [m_d9Y (v := (v.1, v.2.1, v.2.2.1, v.2.2.2.1, v.2.2.2.2.1, v.2.2.2.2.2.1, zI ((q + zSL 9 + 1 + 1 : Nat) : Int), zI 115, zI (T (q + zSL 9) - 48), v.2.2.2.2.2.2.2.2.2.1, zI (T (q + zSL 9) - 48))) hx hl rfl hdg, zb_some]
            dsimp only
            rw [if_neg z10]
            rw [zq_t (Or.inr rfl)]
            exact ⟨_, _, _, _, rfl, fun _ => Or.inr (Or.inr (Or.inr (Or.inl ⟨rfl, rfl, rfl, rfl⟩)))⟩
        · have hle4 := hle3
          refine ⟨(0, q + zSL 9 + 1 + 1, 0, 0, 0), ?_, ?_, ⟨Or.inl rfl, by exact hle3, fun h => absurd h z01⟩⟩
          · intro p idx hx hl ha hi
            unfold q_X4_takeCommand
            rw [c_sgc hx hl ha h0, zb_some, if_neg (show ¬ zI 115 = 97 by decide), if_neg (show ¬ zI 115 = 113 by decide), if_neg (show ¬ zI 115 = 114 by decide), if_pos (show zI 115 = 115 from rfl)]
            rw [c_wordY (by omega) hx hl ha hw, zb_some]
            dsimp only
            rw [if_neg z10]
            rw [c_spY (p := (p.1, p.2.1, zI ((q + zSL 9 : Nat) : Int), p.2.2.2.1, p.2.2.2.2.1, p.2.2.2.2.2.1, p.2.2.2.2.2.2.1, p.2.2.2.2.2.2.2)) hx hl rfl hsp, zb_some]
            dsimp only
            rw [if_neg z10]
            rw [c_note (p := (p.1, p.2.1, zI ((q + zSL 9 + 1 : Nat) : Int), p.2.2.2.1, p.2.2.2.2.1, p.2.2.2.2.2.1, p.2.2.2.2.2.2.1, zI (T (q + zSL 9) - 48))) hi, zb_some]
            dsimp only
            rw [if_neg z10]
            rw [c_coY (p := (p.1, p.2.1, zI ((q + zSL 9 + 1 : Nat) : Int), (upd p.2.2.2.1 idx 4), (upd p.2.2.2.2.1 idx (zI (T (q + zSL 9) - 48))), p.2.2.2.2.2.1, p.2.2.2.2.2.2.1, zI (T (q + zSL 9) - 48))) hx hl rfl hco, zb_some]
            dsimp only
            rw [if_neg z10]
            rw [c_d9N (p := (p.1, p.2.1, zI ((q + zSL 9 + 1 + 1 : Nat) : Int), (upd p.2.2.2.1 idx 4), (upd p.2.2.2.2.1 idx (zI (T (q + zSL 9) - 48))), p.2.2.2.2.2.1, p.2.2.2.2.2.2.1, zI (T (q + zSL 9) - 48))) hx hl rfl hle3 hdg, zb_some]
            dsimp only
            rw [if_pos rfl]
            exact ⟨_, rfl, rfl, rfl, rfl, rfl, fun j hj => ⟨upd_ne' _ _ hj, upd_ne' _ _ hj, rfl⟩, fun h => absurd h z01⟩
          · intro v hx hl ha
            unfold q_X7_readsCommand q_X7_readsCommand_J139 q_X7_readsCommand_J106 q_X7_readsCommand_J214
            rw [m_sgc hx hl ha h0, zb_some, if_neg (show ¬ zI 115 = 97 by decide), if_neg (show ¬ zI 115 = 113 by decide), if_neg (show ¬ zI 115 = 114 by decide), if_pos (show zI 115 = 115 from rfl)]
            rw [m_wordY (v := (v.1, v.2.1, v.2.2.1, v.2.2.2.1, v.2.2.2.2.1, v.2.2.2.2.2.1, v.2.2.2.2.2.2.1, zI 115, v.2.2.2.2.2.2.2.2.1, v.2.2.2.2.2.2.2.2.2.1, v.2.2.2.2.2.2.2.2.2.2)) (by omega) wok_9 hx hl ha hw, zb_some]
            dsimp only
            rw [if_neg z10]
            rw [m_spY (v := (v.1, v.2.1, v.2.2.1, v.2.2.2.1, v.2.2.2.2.1, v.2.2.2.2.2.1, zI ((q + zSL 9 : Nat) : Int), zI 115, v.2.2.2.2.2.2.2.2.1, v.2.2.2.2.2.2.2.2.2.1, v.2.2.2.2.2.2.2.2.2.2)) hx hl rfl hsp, zb_some]
            dsimp only
            rw [if_neg z10]
            rw [m_coY (v := (v.1, v.2.1, v.2.2.1, v.2.2.2.1, v.2.2.2.2.1, v.2.2.2.2.2.1, zI ((q + zSL 9 + 1 : Nat) : Int), zI 115, zI (T (q + zSL 9) - 48), v.2.2.2.2.2.2.2.2.2.1, zI (T (q + zSL 9) - 48))) hx hl rfl hco, zb_some]
            dsimp only
            rw [if_neg z10]
            obtain ⟨z, hz⟩ := m_d9N (v := (v.1, v.2.1, v.2.2.1, v.2.2.2.1, v.2.2.2.2.1, v.2.2.2.2.2.1, zI ((q + zSL 9 + 1 + 1 : Nat) : Int), zI 115, zI (T (q + zSL 9) - 48), v.2.2.2.2.2.2.2.2.2.1, zI (T (q + zSL 9) - 48))) hx hl rfl hle3 hdg
            rw [hz, zb_some]
            dsimp only
            rw [if_pos rfl]
            rw [zq_t (Or.inl rfl)]
            exact ⟨_, _, _, _, rfl, fun h => absurd h z01⟩
      · have hle3 := hle2
        refine ⟨(0, q + zSL 9 + 1, 0, 0, 0), ?_, ?_, ⟨Or.inl rfl, by exact hle2, fun h => absurd h z01⟩⟩
        · intro p idx hx hl ha hi
          unfold q_X4_takeCommand
          rw [c_sgc hx hl ha h0, zb_some, if_neg (show ¬ zI 115 = 97 by decide), if_neg (show ¬ zI 115 = 113 by decide), if_neg (show ¬ zI 115 = 114 by decide), if_pos (show zI 115 = 115 from rfl)]
          rw [c_wordY (by omega) hx hl ha hw, zb_some]
          dsimp only
          rw [if_neg z10]
          rw [c_spY (p := (p.1, p.2.1, zI ((q + zSL 9 : Nat) : Int), p.2.2.2.1, p.2.2.2.2.1, p.2.2.2.2.2.1, p.2.2.2.2.2.2.1, p.2.2.2.2.2.2.2)) hx hl rfl hsp, zb_some]
          dsimp only
          rw [if_neg z10]
          rw [c_note (p := (p.1, p.2.1, zI ((q + zSL 9 + 1 : Nat) : Int), p.2.2.2.1, p.2.2.2.2.1, p.2.2.2.2.2.1, p.2.2.2.2.2.2.1, zI (T (q + zSL 9) - 48))) hi, zb_some]
          dsimp only
          rw [if_neg z10]
          rw [c_coN (p := (p.1, p.2.1, zI ((q + zSL 9 + 1 : Nat) : Int), (upd p.2.2.2.1 idx 4), (upd p.2.2.2.2.1 idx (zI (T (q + zSL 9) - 48))), p.2.2.2.2.2.1, p.2.2.2.2.2.2.1, zI (T (q + zSL 9) - 48))) hx hl rfl hle2 hco, zb_some]
          dsimp only
          rw [if_pos rfl]
          exact ⟨_, rfl, rfl, rfl, rfl, rfl, fun j hj => ⟨upd_ne' _ _ hj, upd_ne' _ _ hj, rfl⟩, fun h => absurd h z01⟩
        · intro v hx hl ha
          unfold q_X7_readsCommand q_X7_readsCommand_J139 q_X7_readsCommand_J106 q_X7_readsCommand_J214
          rw [m_sgc hx hl ha h0, zb_some, if_neg (show ¬ zI 115 = 97 by decide), if_neg (show ¬ zI 115 = 113 by decide), if_neg (show ¬ zI 115 = 114 by decide), if_pos (show zI 115 = 115 from rfl)]
          rw [m_wordY (v := (v.1, v.2.1, v.2.2.1, v.2.2.2.1, v.2.2.2.2.1, v.2.2.2.2.2.1, v.2.2.2.2.2.2.1, zI 115, v.2.2.2.2.2.2.2.2.1, v.2.2.2.2.2.2.2.2.2.1, v.2.2.2.2.2.2.2.2.2.2)) (by omega) wok_9 hx hl ha hw, zb_some]
          dsimp only
          rw [if_neg z10]
          rw [m_spY (v := (v.1, v.2.1, v.2.2.1, v.2.2.2.1, v.2.2.2.2.1, v.2.2.2.2.2.1, zI ((q + zSL 9 : Nat) : Int), zI 115, v.2.2.2.2.2.2.2.2.1, v.2.2.2.2.2.2.2.2.2.1, v.2.2.2.2.2.2.2.2.2.2)) hx hl rfl hsp, zb_some]
          dsimp only
          rw [if_neg z10]
          rw [m_coN (v := (v.1, v.2.1, v.2.2.1, v.2.2.2.1, v.2.2.2.2.1, v.2.2.2.2.2.1, zI ((q + zSL 9 + 1 : Nat) : Int), zI 115, zI (T (q + zSL 9) - 48), v.2.2.2.2.2.2.2.2.2.1, zI (T (q + zSL 9) - 48))) hx hl rfl hle2 hco, zb_some]
          dsimp only
          rw [if_pos rfl]
          rw [zq_t (Or.inl rfl)]
          exact ⟨_, _, _, _, rfl, fun h => absurd h z01⟩
    · have hle2 := hle
      refine ⟨(0, q + zSL 9, 0, 0, 0), ?_, ?_, ⟨Or.inl rfl, by exact hle, fun h => absurd h z01⟩⟩
      · intro p idx hx hl ha hi
        unfold q_X4_takeCommand
        rw [c_sgc hx hl ha h0, zb_some, if_neg (show ¬ zI 115 = 97 by decide), if_neg (show ¬ zI 115 = 113 by decide), if_neg (show ¬ zI 115 = 114 by decide), if_pos (show zI 115 = 115 from rfl)]
        rw [c_wordY (by omega) hx hl ha hw, zb_some]
        dsimp only
        rw [if_neg z10]
        rw [c_spN (p := (p.1, p.2.1, zI ((q + zSL 9 : Nat) : Int), p.2.2.2.1, p.2.2.2.2.1, p.2.2.2.2.2.1, p.2.2.2.2.2.2.1, p.2.2.2.2.2.2.2)) hx hl rfl hle hsp, zb_some]
        dsimp only
        rw [if_pos rfl]
        exact ⟨_, rfl, rfl, rfl, rfl, rfl, fun j hj => ⟨rfl, rfl, rfl⟩, fun h => absurd h z01⟩
      · intro v hx hl ha
        unfold q_X7_readsCommand q_X7_readsCommand_J139 q_X7_readsCommand_J106 q_X7_readsCommand_J214
        rw [m_sgc hx hl ha h0, zb_some, if_neg (show ¬ zI 115 = 97 by decide), if_neg (show ¬ zI 115 = 113 by decide), if_neg (show ¬ zI 115 = 114 by decide), if_pos (show zI 115 = 115 from rfl)]
        rw [m_wordY (v := (v.1, v.2.1, v.2.2.1, v.2.2.2.1, v.2.2.2.2.1, v.2.2.2.2.2.1, v.2.2.2.2.2.2.1, zI 115, v.2.2.2.2.2.2.2.2.1, v.2.2.2.2.2.2.2.2.2.1, v.2.2.2.2.2.2.2.2.2.2)) (by omega) wok_9 hx hl ha hw, zb_some]
        dsimp only
        rw [if_neg z10]
        obtain ⟨z, hz⟩ := m_spN (v := (v.1, v.2.1, v.2.2.1, v.2.2.2.1, v.2.2.2.2.1, v.2.2.2.2.2.1, zI ((q + zSL 9 : Nat) : Int), zI 115, v.2.2.2.2.2.2.2.2.1, v.2.2.2.2.2.2.2.2.2.1, v.2.2.2.2.2.2.2.2.2.2)) hx hl rfl hle hsp
        rw [hz, zb_some]
        dsimp only
        rw [if_pos rfl]
        rw [zq_t (Or.inl rfl)]
        exact ⟨_, _, _, _, rfl, fun h => absurd h z01⟩
  · have hle := wN_le hq hw
    refine ⟨(0, q + i, 0, 0, 0), ?_, ?_, ⟨Or.inl rfl, by exact hle, fun h => absurd h z01⟩⟩
    · intro p idx hx hl ha hi
      unfold q_X4_takeCommand
      rw [c_sgc hx hl ha h0, zb_some, if_neg (show ¬ zI 115 = 97 by decide), if_neg (show ¬ zI 115 = 113 by decide), if_neg (show ¬ zI 115 = 114 by decide), if_pos (show zI 115 = 115 from rfl)]
      rw [c_wordN (by omega) hx hl ha hq hw, zb_some]
      dsimp only
      rw [if_pos rfl]
      exact ⟨_, rfl, rfl, rfl, rfl, rfl, fun j hj => ⟨rfl, rfl, rfl⟩, fun h => absurd h z01⟩
    · intro v hx hl ha
      unfold q_X7_readsCommand q_X7_readsCommand_J139 q_X7_readsCommand_J106 q_X7_readsCommand_J214
      rw [m_sgc hx hl ha h0, zb_some, if_neg (show ¬ zI 115 = 97 by decide), if_neg (show ¬ zI 115 = 113 by decide), if_neg (show ¬ zI 115 = 114 by decide), if_pos (show zI 115 = 115 from rfl)]
      rw [m_wordN (v := (v.1, v.2.1, v.2.2.1, v.2.2.2.1, v.2.2.2.2.1, v.2.2.2.2.2.1, v.2.2.2.2.2.2.1, zI 115, v.2.2.2.2.2.2.2.2.1, v.2.2.2.2.2.2.2.2.2.1, v.2.2.2.2.2.2.2.2.2.2)) (by omega) wok_9 hx hl ha hq hw, zb_some]
      dsimp only
      rw [if_pos rfl]
      rw [zq_t (Or.inl rfl)]
      exact ⟨_, _, _, _, rfl, fun h => absurd h z01⟩
theorem cmd_w (hq : q ≤ m) (h0 : isC T m q 119) : ∃ o, cmA T m q o := by
  rcases w_out T m q 10 with hw | ⟨i, hw⟩
  · have hle := wY_le (k := 10) (by decide) hw
    have e10 := L10
    obtain ⟨ok, q', x, w1, w2, w3, w4, w5, w6⟩ := way_ex T m (q + zSL 10) hle
    rcases w1 with rfl | rfl
    · refine ⟨(0, q', 0, 0, 0), ?_, ?_, ⟨Or.inl rfl, w2, fun h => absurd h z01⟩⟩
      · intro p idx hx hl ha hi
        obtain ⟨z, hz, -⟩ := w5 (p.1, p.2.1, zI ((q + zSL 10 : Nat) : Int), p.2.2.2.1, p.2.2.2.2.1, p.2.2.2.2.2.1, p.2.2.2.2.2.2.1, p.2.2.2.2.2.2.2) hx hl rfl
        unfold q_X4_takeCommand
        rw [c_sgc hx hl ha h0, zb_some, if_neg (show ¬ zI 119 = 97 by decide), if_neg (show ¬ zI 119 = 113 by decide), if_neg (show ¬ zI 119 = 114 by decide), if_neg (show ¬ zI 119 = 115 by decide), if_pos (show zI 119 = 119 from rfl)]
        rw [c_wordY (by omega) hx hl ha hw, zb_some]
        dsimp only
        rw [if_neg z10, hz, zb_some]
        dsimp only
        rw [if_pos rfl]
        exact ⟨_, rfl, rfl, rfl, rfl, rfl, fun j hj => ⟨rfl, rfl, rfl⟩, fun h => absurd h z01⟩
      · intro v hx hl ha
        obtain ⟨z, hz, -⟩ := w6 (v.1, v.2.1, v.2.2.1, v.2.2.2.1, v.2.2.2.2.1, v.2.2.2.2.2.1, zI ((q + zSL 10 : Nat) : Int), zI 119, v.2.2.2.2.2.2.2.2.1, v.2.2.2.2.2.2.2.2.2.1, v.2.2.2.2.2.2.2.2.2.2) hx hl rfl
        unfold q_X7_readsCommand
        rw [m_sgc hx hl ha h0, zb_some, if_neg (show ¬ zI 119 = 97 by decide), if_neg (show ¬ zI 119 = 113 by decide), if_neg (show ¬ zI 119 = 114 by decide), if_neg (show ¬ zI 119 = 115 by decide), if_pos (show zI 119 = 119 from rfl)]
        rw [m_wordY (v := (v.1, v.2.1, v.2.2.1, v.2.2.2.1, v.2.2.2.2.1, v.2.2.2.2.2.1, v.2.2.2.2.2.2.1, zI 119, v.2.2.2.2.2.2.2.2.1, v.2.2.2.2.2.2.2.2.2.1, v.2.2.2.2.2.2.2.2.2.2)) (by omega) wok_10 hx hl ha hw, zb_some]
        dsimp only
        rw [if_neg z10, hz, zb_some]
        dsimp only
        rw [if_pos rfl]
        exact ⟨_, _, _, _, rfl, fun h => absurd h z01⟩
    · have w3' := w3 rfl
      refine ⟨(1, q', 5, x, 0), ?_, ?_, ⟨Or.inr rfl, w2, fun _ => ⟨by dsimp only; omega, Or.inr (Or.inr (Or.inr (Or.inr ⟨rfl, w4⟩)))⟩⟩⟩
      · intro p idx hx hl ha hi
        obtain ⟨z, hz, hz2⟩ := w5 (p.1, p.2.1, zI ((q + zSL 10 : Nat) : Int), p.2.2.2.1, p.2.2.2.2.1, p.2.2.2.2.2.1, p.2.2.2.2.2.2.1, p.2.2.2.2.2.2.2) hx hl rfl
        unfold q_X4_takeCommand
        rw [c_sgc hx hl ha h0, zb_some, if_neg (show ¬ zI 119 = 97 by decide), if_neg (show ¬ zI 119 = 113 by decide), if_neg (show ¬ zI 119 = 114 by decide), if_neg (show ¬ zI 119 = 115 by decide), if_pos (show zI 119 = 119 from rfl)]
        rw [c_wordY (by omega) hx hl ha hw, zb_some]
        dsimp only
        rw [if_neg z10, hz, zb_some]
        dsimp only
        rw [if_neg z10, c_note (p := (p.1, p.2.1, zI q', p.2.2.2.1, p.2.2.2.2.1, p.2.2.2.2.2.1, p.2.2.2.2.2.2.1, z)) hi, zb_some]
        dsimp only
        rw [if_neg z10]
        exact ⟨_, rfl, rfl, rfl, rfl, rfl, fun j hj => ⟨upd_ne' _ _ hj, upd_ne' _ _ hj, rfl⟩, fun _ => ⟨(upd_at _ _ _).trans rfl, (upd_at _ _ _).trans (hz2 rfl), fun h => absurd h (show ¬ ((5 : Int) = 1 ∨ (5 : Int) = 4) by omega)⟩⟩
      · intro v hx hl ha
        obtain ⟨z, hz, hz2⟩ := w6 (v.1, v.2.1, v.2.2.1, v.2.2.2.1, v.2.2.2.2.1, v.2.2.2.2.2.1, zI ((q + zSL 10 : Nat) : Int), zI 119, v.2.2.2.2.2.2.2.2.1, v.2.2.2.2.2.2.2.2.2.1, v.2.2.2.2.2.2.2.2.2.2) hx hl rfl
        unfold q_X7_readsCommand
        rw [m_sgc hx hl ha h0, zb_some, if_neg (show ¬ zI 119 = 97 by decide), if_neg (show ¬ zI 119 = 113 by decide), if_neg (show ¬ zI 119 = 114 by decide), if_neg (show ¬ zI 119 = 115 by decide), if_pos (show zI 119 = 119 from rfl)]
        rw [m_wordY (v := (v.1, v.2.1, v.2.2.1, v.2.2.2.1, v.2.2.2.2.1, v.2.2.2.2.2.1, v.2.2.2.2.2.2.1, zI 119, v.2.2.2.2.2.2.2.2.1, v.2.2.2.2.2.2.2.2.2.1, v.2.2.2.2.2.2.2.2.2.2)) (by omega) wok_10 hx hl ha hw, zb_some]
        dsimp only
        rw [if_neg z10, hz, zb_some]
        dsimp only
        rw [if_neg z10]
        exact ⟨_, _, _, _, rfl, fun _ => Or.inr (Or.inr (Or.inr (Or.inr ⟨rfl, rfl, hz2 rfl⟩)))⟩
  · have hle := wN_le hq hw
    refine ⟨(0, q + i, 0, 0, 0), ?_, ?_, ⟨Or.inl rfl, by exact hle, fun h => absurd h z01⟩⟩
    · intro p idx hx hl ha hi
      unfold q_X4_takeCommand
      rw [c_sgc hx hl ha h0, zb_some, if_neg (show ¬ zI 119 = 97 by decide), if_neg (show ¬ zI 119 = 113 by decide), if_neg (show ¬ zI 119 = 114 by decide), if_neg (show ¬ zI 119 = 115 by decide), if_pos (show zI 119 = 119 from rfl)]
      rw [c_wordN (by omega) hx hl ha hq hw, zb_some]
      dsimp only
      rw [if_pos rfl]
      exact ⟨_, rfl, rfl, rfl, rfl, rfl, fun j hj => ⟨rfl, rfl, rfl⟩, fun h => absurd h z01⟩
    · intro v hx hl ha
      unfold q_X7_readsCommand q_X7_readsCommand_J139 q_X7_readsCommand_J106 q_X7_readsCommand_J214
      rw [m_sgc hx hl ha h0, zb_some, if_neg (show ¬ zI 119 = 97 by decide), if_neg (show ¬ zI 119 = 113 by decide), if_neg (show ¬ zI 119 = 114 by decide), if_neg (show ¬ zI 119 = 115 by decide), if_pos (show zI 119 = 119 from rfl)]
      rw [m_wordN (v := (v.1, v.2.1, v.2.2.1, v.2.2.2.1, v.2.2.2.2.1, v.2.2.2.2.2.1, v.2.2.2.2.2.2.1, zI 119, v.2.2.2.2.2.2.2.2.1, v.2.2.2.2.2.2.2.2.2.1, v.2.2.2.2.2.2.2.2.2.2)) (by omega) wok_10 hx hl ha hq hw, zb_some]
      dsimp only
      rw [if_pos rfl]
      exact ⟨_, _, _, _, rfl, fun h => absurd h z01⟩
theorem cmd_ex (T : Nat → Int) (m q : Nat) (hq : q ≤ m) : ∃ o, cmA T m q o := by
  by_cases h97 : isC T m q 97
  · exact cmd_a hq h97
  by_cases h113 : isC T m q 113
  · exact cmd_q hq h113
  by_cases h114 : isC T m q 114
  · exact cmd_r hq h114
  by_cases h115 : isC T m q 115
  · exact cmd_s hq h115
  by_cases h119 : isC T m q 119
  · exact cmd_w hq h119
  refine ⟨(0, q, 0, 0, 0), ?_, ?_, ⟨Or.inl rfl, hq, fun h => absurd h z01⟩⟩
  · intro p idx hx hl ha hi
    have n97 : ¬ zI (if q < m then T q else 0) = 97 := sg_ne (c := 97) (fun k hk => (hx.2 k hk).1) (by omega) (by omega) h97
    have n113 : ¬ zI (if q < m then T q else 0) = 113 := sg_ne (c := 113) (fun k hk => (hx.2 k hk).1) (by omega) (by omega) h113
    have n114 : ¬ zI (if q < m then T q else 0) = 114 := sg_ne (c := 114) (fun k hk => (hx.2 k hk).1) (by omega) (by omega) h114
    have n115 : ¬ zI (if q < m then T q else 0) = 115 := sg_ne (c := 115) (fun k hk => (hx.2 k hk).1) (by omega) (by omega) h115
    have n119 : ¬ zI (if q < m then T q else 0) = 119 := sg_ne (c := 119) (fun k hk => (hx.2 k hk).1) (by omega) (by omega) h119
    unfold q_X4_takeCommand
    rw [c_sign hx hl ha hq, zb_some, if_neg n97, if_neg n113, if_neg n114, if_neg n115, if_neg n119]
    exact ⟨_, rfl, rfl, rfl, ha, rfl, fun j hj => ⟨rfl, rfl, rfl⟩, fun h => absurd h z01⟩
  · intro v hx hl ha
    have n97 : ¬ zI (if q < m then T q else -1) = 97 := sg_ne (c := 97) (fun k hk => (hx.2 k hk).1) (by omega) (by omega) h97
    have n113 : ¬ zI (if q < m then T q else -1) = 113 := sg_ne (c := 113) (fun k hk => (hx.2 k hk).1) (by omega) (by omega) h113
    have n114 : ¬ zI (if q < m then T q else -1) = 114 := sg_ne (c := 114) (fun k hk => (hx.2 k hk).1) (by omega) (by omega) h114
    have n115 : ¬ zI (if q < m then T q else -1) = 115 := sg_ne (c := 115) (fun k hk => (hx.2 k hk).1) (by omega) (by omega) h115
    have n119 : ¬ zI (if q < m then T q else -1) = 119 := sg_ne (c := 119) (fun k hk => (hx.2 k hk).1) (by omega) (by omega) h119
    have e : q_X7_character v v.2.2.2.2.2.2.1 = some (zI (if q < m then T q else -1)) := by
      rw [ha]
      exact m_char hx hl hq
    unfold q_X7_readsCommand
    rw [e, zb_some, if_neg n97, if_neg n113, if_neg n114, if_neg n115, if_neg n119, ha]
    exact ⟨_, _, _, _, rfl, fun h => absurd h z01⟩
end PY2
