/-! class and model side by side: digest -/
section PG
variable {u : tX6} {v : tX7} {x y : Int32} {a : Nat → Int} {r : (Nat → Int32) × (Nat → Int32) × Int32 × (Nat → Int32) × Int32 × Int32 × Int32 × Int32 × Int32 × Int32}
def hs1 (h : Int64) (q : Int) : Int64 := 31 * h + Int32.toInt64 (zI q)
def hf (g : Nat → Int) (h : Int64) : Nat → Int64
  | 0 => h
  | n + 1 => hs1 (hf g h n) (g n)
def hm (a : Nat → Int) (s : Int) (h : Int64) : Nat → Int64
  | 0 => h
  | n + 1 => if a (34 + 2 * n) = s then hs1 (hm a s h n) (a (34 + 2 * n + 1)) else hm a s h n
theorem hm_eq {s : Int} {h : Int64} {k n : Nat} (hk : k ≤ n) (e : cN a s k = cN a s n) : hm a s h n = hm a s h k := by
  induction n with
  | zero =>
    have : k = 0 := by omega
    rw [this]
  | succ n ih =>
    by_cases c : k = n + 1
    · rw [c]
    · have h1 := cN_le a s (show k ≤ n by omega)
      rw [cN_s] at e
      by_cases c2 : a (34 + 2 * n) = s
      · rw [if_pos c2] at e
        omega
      · rw [if_neg c2, Int.add_zero] at e
        have := ih (by omega) e
        show (if a (34 + 2 * n) = s then _ else hm a s h n) = hm a s h k
        rw [if_neg c2]
        exact this
def hE (a : Nat → Int) (i : Nat) (h : Int64) : Int64 := hf (fun p => lI (eV a i 0) (eV a i 1) (eV a i 2) p) (hf (eV a i) h 3) (lL (eV a i 0) (eV a i 1))
def he (a : Nat → Int) (h : Int64) : Nat → Int64
  | 0 => h
  | n + 1 => hE a n (he a h n)
def hSp (a : Nat → Int) (s : Nat) (h : Int64) : Int64 := hm a s (hf (aOf a s) h 7) (a 2).toNat
def hSs (a : Nat → Int) (h : Int64) : Nat → Int64
  | 0 => h
  | n + 1 => hSp a n (hSs a h n)
def aDig (a : Nat → Int) : Int64 := hs1 (hs1 (he a (hs1 (hSs a (hf (fun k => a (15 + k)) (hf a 448 13) 5) 8) (aMany a)) (aMany a).toNat) (aOver a)) (aNext a)
-- the class
theorem c_count {k : Nat} (hk : k < 13) (hd : dR u.1 a) : q_X6_count u (zI k) = some (zI (a k)) := by
  obtain ⟨q1, q2, q3, q4, q5, n1, n2, n3, n4, n5, n6, n7, n8, n9, n10, n11, n12⟩ := id hd
  have e : q_X1_numberOfDisk u.1 (zI k) = some (zI (a k)) := by
    unfold q_X1_numberOfDisk
    rw [n1, n2, n3, n4, n5, n6, n7, n9, n10, n11, n12, q3.2, q4.2]
    rcases (show k = 0 ∨ k = 1 ∨ k = 2 ∨ k = 3 ∨ k = 4 ∨ k = 5 ∨ k = 6 ∨ k = 7 ∨ k = 8 ∨ k = 9 ∨ k = 10 ∨ k = 11 ∨ k = 12 by omega) with rfl | rfl | rfl | rfl | rfl | rfl | rfl | rfl | rfl | rfl | rfl | rfl | rfl <;> rfl
  unfold q_X6_count
  rw [if_neg (show ¬ zI (k : Nat) < 0 from zlt_n (y := 0) (zr_s (by omega)) (zr_s (by omega)) (by omega)), if_pos (show zI (k : Nat) < 13 from zlt_p (y := 13) (zr_s (by omega)) (zr_s (by omega)) (by omega)), e, zb_some]
theorem c_setting {k : Nat} (hk : k < 5) (hd : dR u.1 a) : q_X6_setting u (zI k) = some (zI (a (15 + k))) := by
  unfold q_X6_setting
  rw [c_isSetting (zr_s (by omega)), zb_some, if_pos (show 0 ≤ (k : Int) ∧ (k : Int) ≤ 4 by omega), if_neg (by decide), zg_N (by omega) (by omega), hd.1 k hk]
theorem c_span {s w : Nat} (h : aI 0 a) (hs : s < 8) (hw : w < 7) (hd : dR u.1 a) : q_X6_span u (zI s) (zI w) = some (zI (aOf a s w)) := by
  unfold q_X6_span
  rw [c_isSpan (zr_s (by omega)), zb_some, if_pos (show 0 ≤ (s : Int) ∧ (s : Int) ≤ 7 by omega), if_neg (by decide), if_neg (show ¬ zI (w : Nat) < 0 from zlt_n (y := 0) (zr_s (by omega)) (zr_s (by omega)) (by omega)), if_pos (show zI (w : Nat) < 7 from zlt_p (y := 7) (zr_s (by omega)) (zr_s (by omega)) (by omega)), c_numberOfSpan h hs hw hd, zb_some]
theorem c_hashSpan {s : Nat} {h0 : Int64} (h : aI 0 a) (hs : s < 8) (hd : dR u.1 a) : q_X6_hashSpan u h0 (zI s) = some (hSp a s h0) := by
  have hr := h.1
  have hN := h.2.1
  unfold aN at hN
  have hcn : aCnt a s = cN a s (a 2).toNat := rfl
  have hcb := cN_b a s (a 2).toNat
  unfold q_X6_hashSpan
  rw [zl_run (fun k => (hf (aOf a s) h0 k, zI k)) (a := (h0, (0 : Int32))) (b := hf (aOf a s) h0 7) 7 rfl (by omega) ?_ ?_, zb_some]
  · unfold q_X6_hashSpan_J36 hSp
    rw [c_sizeOf hr (by omega) (zr_s (by omega)) hd.2.2.1, zb_some]
    generalize hf (aOf a s) h0 7 = h1
    obtain ⟨b, hb, hq⟩ := zl_rel (B := q_X6_hashSpan_L52 u (zI s) (zI (aCnt a s))) (fun (i : Nat) (q : Int64 × Int32) => q.2 = zI i ∧ ∃ k : Nat, k ≤ (a 2).toNat ∧ cN a s k = i ∧ q.1 = hm a s h1 k) (fun b => b = hm a s h1 (a 2).toNat) (aCnt a s).toNat (fun i q hi hq => by
      obtain ⟨q1, q2⟩ := q
      obtain ⟨w1, k, w2, w3, w4⟩ := hq
      dsimp only at w1 w4
      subst w1 w4
      obtain ⟨k', v1, v2, v3⟩ := cN_ex (a := a) (s := s) (i := i) (n := (a 2).toNat) (by omega) (by omega)
      have e : hm a s h1 k = hm a s h1 k' := by
        by_cases c : k ≤ k'
        · exact (hm_eq c (by omega)).symm
        · exact hm_eq (by omega) (by omega)
      unfold q_X6_hashSpan_L52 q_X6_tries
      dsimp only
      rw [if_neg (show ¬ zI (aCnt a s) ≤ zI (i : Nat) from zle_n (zr_s (by omega)) (zr_s (by omega)) (by omega)), c_isSpan (zr_s (by omega)), zb_some, if_pos (show 0 ≤ (s : Int) ∧ (s : Int) ≤ 7 by omega), if_neg (by decide), c_triesAt hr (by omega) (zr_s (by omega)) (zr_s (by omega)) hd.2.2.1 v1 v2 v3, zb_some, zb_some, zI_1]
      refine ⟨_, rfl, rfl, k' + 1, by omega, ?_, ?_⟩
      · rw [cN_s, if_pos v2]
        omega
      · dsimp only
        rw [e]
        show hs1 (hm a s h1 k') _ = (if a (34 + 2 * k') = s then _ else _)
        rw [if_pos v2]) (fun q hq => by
      obtain ⟨q1, q2⟩ := q
      obtain ⟨w1, k, w2, w3, w4⟩ := hq
      dsimp only at w1 w4
      subst w1 w4
      unfold q_X6_hashSpan_L52
      dsimp only
      rw [if_pos (show zI (aCnt a s) ≤ zI ((aCnt a s).toNat : Nat) from zle_p (zr_s (by omega)) (zr_s (by omega)) (by omega))]
      exact ⟨_, rfl, (hm_eq w2 (by omega)).symm⟩) 1000000 0 (h1, 0) ⟨rfl, 0, by omega, rfl, rfl⟩ (by omega) (by omega)
    rw [hb, zb_some, hq]
  · intro k hk
    unfold q_X6_hashSpan_L6
    dsimp only
    rw [if_neg (show ¬ (7 : Int32) ≤ zI k from zle_n (x := 7) (zr_s (by omega)) (zr_s (by omega)) (by omega)), c_span h hs hk hd, zb_some, zI_1]
    rfl
  · unfold q_X6_hashSpan_L6
    dsimp only
    rw [if_pos (show (7 : Int32) ≤ zI (7 : Nat) from zle_p (x := 7) (zr_s (by omega)) (zr_s (by omega)) (by omega))]
theorem c_hashEntry {i : Nat} {h0 : Int64} (h : aI 0 a) (h9 : a 0 ≤ 99999) (hi : (i : Int) < aMany a) (hd : dR u.1 a) (hj : jR u.2.2.2.2) : ∃ g : tJ4, q_X6_hashEntry u h0 (zI i) = some (hE a i h0, g) ∧ jR g := by
  have hN := h.2.1
  unfold aN at hN
  have hl := hd.2.2.2.2.1
  obtain ⟨hT, hK, hS⟩ := eV_b h hi
  obtain ⟨g, w1, w2⟩ := c_writeLine h h9 hi hl hj
  have hb := lL_b (T := eV a i 0) (by omega) hK
  refine ⟨g, ?_, jR_lW (by omega) hK w2⟩
  unfold q_X6_hashEntry
  rw [c_tickAt (by omega) hi hl, zb_some, c_kindAt (by omega) hi hl, zb_some, c_spanAt (by omega) hi hl, zb_some, w1, zb_some]
  rw [show zl 1000000 (q_X6_hashEntry_L70 g) (31 * (31 * (31 * h0 + Int32.toInt64 (zI (eV a i 0))) + Int32.toInt64 (zI (eV a i 1))) + Int32.toInt64 (zI (eV a i 2)), 0) = some (hE a i h0) from zl_run (fun k => (hf (fun p => lI (eV a i 0) (eV a i 1) (eV a i 2) p) (hf (eV a i) h0 3) k, zI k)) (b := hE a i h0) (lL (eV a i 0) (eV a i 1)) rfl (by omega) (fun k hk => by
    unfold q_X6_hashEntry_L70 q_J4_length_8abf5 q_J5_length_8abf5
    dsimp only
    rw [zb_some, zb_some, w2.2.1, if_neg (show ¬ zI (lL (eV a i 0) (eV a i 1) : Nat) ≤ zI k from zle_n (zr_s (by omega)) (zr_s (by omega)) (by omega)), c_charAt (by omega) hK hS w2 hk, zb_some, zI_1]
    rfl) (by
    unfold q_X6_hashEntry_L70 q_J4_length_8abf5 q_J5_length_8abf5
    dsimp only
    rw [zb_some, zb_some, w2.2.1, if_pos (show zI (lL (eV a i 0) (eV a i 1) : Nat) ≤ zI (lL (eV a i 0) (eV a i 1) : Nat) from zle_p (zr_s (by omega)) (zr_s (by omega)) (by omega))]
    rfl), zb_some]
theorem c_digest (h : aI 0 a) (h9 : a 0 ≤ 99999) (hd : dR u.1 a) (hj : jR u.2.2.2.2) : ∃ g : tJ4, q_X6_digest u = some (aDig a, g) ∧ jR g := by
  have hN := h.2.1
  unfold aN at hN
  have e14 : mn (a 14) = aMany a := by
    unfold mn aMany
    split <;> split <;> omega
  have hmb : 0 ≤ aMany a ∧ aMany a ≤ 10 := by
    unfold aMany
    split <;> omega
  have hsz : u.1.2.2.2.2.1.2.2.2.2 = zI (aMany a) := by rw [hd.2.2.2.2.1.2.2, e14]
  obtain ⟨b, hb, hq1, hq2⟩ := zl_rel (B := q_X6_digest_L92 u) (fun (i : Nat) (q : Int64 × Int32 × tJ4) => q.2.1 = zI i ∧ q.1 = he a (hs1 (hSs a (hf (fun k => a (15 + k)) (hf a 448 13) 5) 8) (aMany a)) i ∧ jR q.2.2) (fun b => b.1 = he a (hs1 (hSs a (hf (fun k => a (15 + k)) (hf a 448 13) 5) 8) (aMany a)) (aMany a).toNat ∧ jR b.2) (aMany a).toNat (fun i q hi hq => by
      obtain ⟨q1, q2, q3⟩ := q
      obtain ⟨w1, w2, w3⟩ := hq
      dsimp only at w1 w2 w3
      subst w1 w2
      obtain ⟨g, v1, v2⟩ := c_hashEntry (u := (u.1, u.2.1, u.2.2.1, u.2.2.2.1, q3)) (h0 := he a (hs1 (hSs a (hf (fun k => a (15 + k)) (hf a 448 13) 5) 8) (aMany a)) i) h h9 (show (i : Int) < aMany a by omega) hd w3
      unfold q_X6_digest_L92
      dsimp only
      rw [hsz, if_neg (show ¬ zI (aMany a) ≤ zI (i : Nat) from zle_n (zr_s (by omega)) (zr_s (by omega)) (by omega)), v1, zb_some, zI_1]
      exact ⟨_, rfl, rfl, rfl, v2⟩) (fun q hq => by
      obtain ⟨q1, q2, q3⟩ := q
      obtain ⟨w1, w2, w3⟩ := hq
      dsimp only at w1 w2 w3
      subst w1 w2
      unfold q_X6_digest_L92
      dsimp only
      rw [hsz, if_pos (show zI (aMany a) ≤ zI ((aMany a).toNat : Nat) from zle_p (zr_s (by omega)) (zr_s (by omega)) (by omega))]
      exact ⟨_, rfl, rfl, w3⟩) 1000000 0 (hs1 (hSs a (hf (fun k => a (15 + k)) (hf a 448 13) 5) 8) (aMany a), 0, u.2.2.2.2) ⟨rfl, rfl, hj⟩ (by omega) (by omega)
  refine ⟨b.2, ?_, hq2⟩
  unfold q_X6_digest
  rw [zl_run (fun k => (hf a 448 k, zI k)) (a := ((448 : Int64), (0 : Int32))) (b := hf a 448 13) 13 rfl (by omega) ?_ ?_, zb_some]
  · unfold q_X6_digest_J31
    rw [zl_run (fun k => (hf (fun k => a (15 + k)) (hf a 448 13) k, zI k)) (a := (hf a 448 13, (0 : Int32))) (b := hf (fun k => a (15 + k)) (hf a 448 13) 5) 5 rfl (by omega) ?_ ?_, zb_some]
    · unfold q_X6_digest_J57
      rw [zl_run (fun k => (hSs a (hf (fun k => a (15 + k)) (hf a 448 13) 5) k, zI k)) (a := (hf (fun k => a (15 + k)) (hf a 448 13) 5, (0 : Int32))) (b := hSs a (hf (fun k => a (15 + k)) (hf a 448 13) 5) 8) 8 rfl (by omega) ?_ ?_, zb_some]
      · unfold q_X6_digest_J78 q_X6_entries
        rw [zb_some, hsz, show zl 1000000 (q_X6_digest_L92 u) (31 * hSs a (hf (fun k => a (15 + k)) (hf a 448 13) 5) 8 + Int32.toInt64 (zI (aMany a)), 0, u.2.2.2.2) = some b from hb, zb_some]
        unfold q_X6_digest_J119 q_X6_overdue q_X6_nextCheck
        dsimp only
        rw [c_overdueSpans h hd, zb_some, zb_some, c_chooseSpan h hd, zb_some, zb_some, hq1]
        rfl
      · intro k hk
        unfold q_X6_digest_L59
        dsimp only
        rw [if_neg (show ¬ (8 : Int32) ≤ zI k from zle_n (x := 8) (zr_s (by omega)) (zr_s (by omega)) (by omega)), c_hashSpan h hk hd, zb_some, zI_1]
        rfl
      · unfold q_X6_digest_L59
        dsimp only
        rw [if_pos (show (8 : Int32) ≤ zI (8 : Nat) from zle_p (x := 8) (zr_s (by omega)) (zr_s (by omega)) (by omega))]
    · intro k hk
      unfold q_X6_digest_L33
      dsimp only
      rw [if_neg (show ¬ (5 : Int32) ≤ zI k from zle_n (x := 5) (zr_s (by omega)) (zr_s (by omega)) (by omega)), c_setting hk hd, zb_some, zI_1]
      rfl
    · unfold q_X6_digest_L33
      dsimp only
      rw [if_pos (show (5 : Int32) ≤ zI (5 : Nat) from zle_p (x := 5) (zr_s (by omega)) (zr_s (by omega)) (by omega))]
  · intro k hk
    unfold q_X6_digest_L6
    dsimp only
    rw [if_neg (show ¬ (13 : Int32) ≤ zI k from zle_n (x := 13) (zr_s (by omega)) (zr_s (by omega)) (by omega)), c_count hk hd, zb_some, zI_1]
    rfl
  · unfold q_X6_digest_L6
    dsimp only
    rw [if_pos (show (13 : Int32) ≤ zI (13 : Nat) from zle_p (x := 13) (zr_s (by omega)) (zr_s (by omega)) (by omega))]
-- the model
theorem m_hSp {s : Nat} {h0 : Int64} (h : aI 0 a) (hs : s < 8) : q_X7_digest_L64 (zM a, r) (h0, zI s) = some (Sum.inl (hSp a s h0, zI ((s + 1 : Nat) : Int))) := by
  have hr := h.1
  have hN := h.2.1
  unfold aN at hN
  unfold q_X7_digest_L64
  dsimp only
  rw [if_neg (show ¬ (8 : Int32) ≤ zI (s : Nat) from zle_n (x := 8) (zr_s (by omega)) (zr_s (by omega)) (by omega)), zl_run (fun k => (hf (aOf a s) h0 k, zI k)) (a := (h0, (0 : Int32))) (b := hf (aOf a s) h0 7) 7 rfl (by omega) ?_ ?_, zb_some]
  · unfold q_X7_digest_J101 hSp
    generalize hf (aOf a s) h0 7 = h1
    rw [zl_run (fun k => (hm a s h1 k, zI k)) (a := (h1, (0 : Int32))) (b := hm a s h1 (a 2).toNat) (a 2).toNat rfl (by omega) ?_ ?_, zb_some]
    · dsimp only
      rw [zI_1]
    · intro k hk
      unfold q_X7_digest_L104
      dsimp only
      rw [if_neg (show ¬ zM a 2 ≤ zI k from zle_n (hr 2) (zr_s (by omega)) (by omega)), m_spotSpan (by omega), zb_some, m_spotTries (by omega), zb_some, zI_1]
      show _ = some (Sum.inl ((if a (34 + 2 * k) = (s : Int) then hs1 (hm a s h1 k) (a (34 + 2 * k + 1)) else hm a s h1 k), _))
      by_cases c : a (34 + 2 * k) = (s : Int)
      · rw [if_pos (show zI (a (34 + 2 * k)) = zI (s : Nat) by rw [c]), if_pos c]
        rfl
      · rw [if_neg (zeq_n (hr _) (zr_s (by omega)) c), if_neg c]
    · unfold q_X7_digest_L104
      dsimp only
      rw [if_pos (show zM a 2 ≤ zI ((a 2).toNat : Nat) from zle_p (hr 2) (zr_s (by omega)) (by omega))]
  · intro k hk
    unfold q_X7_digest_L73
    dsimp only
    rw [if_neg (show ¬ (6 : Int32) < zI k from zlt_n (x := 6) (zr_s (by omega)) (zr_s (by omega)) (by omega)), m_ofSpan h hs hk, zb_some, zI_1]
    rfl
  · unfold q_X7_digest_L73
    dsimp only
    rw [if_pos (show (6 : Int32) < zI (7 : Nat) from zlt_p (x := 6) (zr_s (by omega)) (zr_s (by omega)) (by omega))]
theorem m_hE {i : Nat} {h0 : Int64} (h : aI 0 a) (h9 : a 0 ≤ 99999) (hi : (i : Int) < aMany a) : q_X7_digest_L169 (zM a, r) (h0, zI i) = some (Sum.inl (hE a i h0, zI ((i + 1 : Nat) : Int))) := by
  have hr := h.1
  have hmb : 0 ≤ aMany a ∧ aMany a ≤ 10 := by
    unfold aMany
    have hN := h.2.1
    unfold aN at hN
    split <;> omega
  obtain ⟨hT, hK, hS⟩ := eV_b h hi
  have hb := lL_b (T := eV a i 0) (by omega) hK
  unfold q_X7_digest_L169
  dsimp only
  rw [m_entriesMany (hr 14), zb_some, if_neg (show ¬ zI (aMany a) ≤ zI (i : Nat) from zle_n (zr_s (by omega)) (zr_s (by omega)) (by omega)), zl_run (fun k => (hf (eV a i) h0 k, zI k)) (a := (h0, (0 : Int32))) (b := hf (eV a i) h0 3) 3 rfl (by omega) ?_ ?_, zb_some]
  · unfold q_X7_digest_J207
    rw [zl_run (fun k => (hf (fun p => lI (eV a i 0) (eV a i 1) (eV a i 2) p) (hf (eV a i) h0 3) k, zI k)) (a := (hf (eV a i) h0 3, (0 : Int32))) (b := hE a i h0) (lL (eV a i 0) (eV a i 1)) rfl (by omega) ?_ ?_, zb_some]
    · dsimp only
      rw [zI_1]
    · intro k hk
      unfold q_X7_digest_L210
      dsimp only
      rw [m_lineLength h h9 hi, zb_some, if_neg (show ¬ zI (lL (eV a i 0) (eV a i 1) : Nat) ≤ zI k from zle_n (zr_s (by omega)) (zr_s (by omega)) (by omega)), m_lineChar h h9 hi hk, zb_some, zI_1]
      rfl
    · unfold q_X7_digest_L210
      dsimp only
      rw [m_lineLength h h9 hi, zb_some, if_pos (show zI (lL (eV a i 0) (eV a i 1) : Nat) ≤ zI (lL (eV a i 0) (eV a i 1) : Nat) from zle_p (zr_s (by omega)) (zr_s (by omega)) (by omega))]
      rfl
  · intro k hk
    unfold q_X7_digest_L180
    dsimp only
    rw [if_neg (show ¬ (3 : Int32) ≤ zI k from zle_n (x := 3) (zr_s (by omega)) (zr_s (by omega)) (by omega)), m_eV h h9 hi hk, zb_some, zI_1]
    rfl
  · unfold q_X7_digest_L180
    dsimp only
    rw [if_pos (show (3 : Int32) ≤ zI (3 : Nat) from zle_p (x := 3) (zr_s (by omega)) (zr_s (by omega)) (by omega))]
theorem m_digest (h : aI 0 a) (h9 : a 0 ≤ 99999) : q_X7_digest (zM a, r) = some (aDig a) := by
  have hr := h.1
  have hN := h.2.1
  unfold aN at hN
  have hmb : 0 ≤ aMany a ∧ aMany a ≤ 10 := by
    unfold aMany
    split <;> omega
  unfold q_X7_digest
  rw [zl_run (fun k => (hf a 448 k, zI k)) (a := ((448 : Int64), (0 : Int32))) (b := hf a 448 13) 13 rfl (by omega) ?_ ?_, zb_some]
  · unfold q_X7_digest_J32
    rw [zl_run (fun k => (hf (fun k => a (15 + k)) (hf a 448 13) k, zI k)) (a := (hf a 448 13, (0 : Int32))) (b := hf (fun k => a (15 + k)) (hf a 448 13) 5) 5 rfl (by omega) ?_ ?_, zb_some]
    · unfold q_X7_digest_J62
      rw [zl_run (fun k => (hSs a (hf (fun k => a (15 + k)) (hf a 448 13) 5) k, zI k)) (a := (hf (fun k => a (15 + k)) (hf a 448 13) 5, (0 : Int32))) (b := hSs a (hf (fun k => a (15 + k)) (hf a 448 13) 5) 8) 8 rfl (by omega) ?_ ?_, zb_some]
      · unfold q_X7_digest_J155
        rw [m_entriesMany (hr 14), zb_some, show zl 1000000 (q_X7_digest_L169 (zM a, r)) (31 * hSs a (hf (fun k => a (15 + k)) (hf a 448 13) 5) 8 + Int32.toInt64 (zI (aMany a)), 0) = _ from zl_run (fun k => (he a (hs1 (hSs a (hf (fun k => a (15 + k)) (hf a 448 13) 5) 8) (aMany a)) k, zI k)) (b := he a (hs1 (hSs a (hf (fun k => a (15 + k)) (hf a 448 13) 5) 8) (aMany a)) (aMany a).toNat) (aMany a).toNat rfl (by omega) (fun k hk => by
          rw [m_hE h h9 (by omega)]
          rfl) (by
          unfold q_X7_digest_L169
          dsimp only
          rw [m_entriesMany (hr 14), zb_some, if_pos (show zI (aMany a) ≤ zI ((aMany a).toNat : Nat) from zle_p (zr_s (by omega)) (zr_s (by omega)) (by omega))]), zb_some]
        unfold q_X7_digest_J247
        rw [m_overdueMany h, zb_some, m_nextSpan h, zb_some]
        rfl
      · intro k hk
        rw [m_hSp h hk]
        rfl
      · unfold q_X7_digest_L64
        dsimp only
        rw [if_pos (show (8 : Int32) ≤ zI (8 : Nat) from zle_p (x := 8) (zr_s (by omega)) (zr_s (by omega)) (by omega))]
    · intro k hk
      unfold q_X7_digest_L34
      dsimp only
      rw [if_neg (show ¬ (5 : Int32) ≤ zI k from zle_n (x := 5) (zr_s (by omega)) (zr_s (by omega)) (by omega)), zg_M (i := 15 + k) (show (15 : Int32) + zI k = _ from zI_k 15 k) (by omega), zI_1]
      rfl
    · unfold q_X7_digest_L34
      dsimp only
      rw [if_pos (show (5 : Int32) ≤ zI (5 : Nat) from zle_p (x := 5) (zr_s (by omega)) (zr_s (by omega)) (by omega))]
  · intro k hk
    unfold q_X7_digest_L6
    dsimp only
    rw [if_neg (show ¬ (12 : Int32) < zI k from zlt_n (x := 12) (zr_s (by omega)) (zr_s (by omega)) (by omega)), zg_M (i := k) rfl (by omega), zI_1]
    rfl
  · unfold q_X7_digest_L6
    dsimp only
    rw [if_pos (show (12 : Int32) < zI (13 : Nat) from zlt_p (x := 12) (zr_s (by omega)) (zr_s (by omega)) (by omega))]
theorem lg_cmp_self (q : Int64) : lg_cmp q q = 0 := by
  unfold lg_cmp
  rw [if_neg (show ¬ q > q from fun h => by
    have := Int64.lt_iff_toInt_lt.mp h
    omega), if_pos rfl]
theorem t_26 (h : TR u v) : ∃ o, qL_26 x y u v = some o ∧ TR o.1 o.2 := by
  obtain ⟨a, hI, h9, hv, hd, hh, ht, hj⟩ := id h
  obtain ⟨st, r⟩ := v
  dsimp only at hv hh ht
  subst hv
  obtain ⟨g, w1, w2⟩ := c_digest hI h9 hd hj
  unfold qL_26
  rw [w1, zb_some, m_digest hI h9, zb_some]
  dsimp only
  rw [lg_cmp_self, if_pos rfl]
  exact ⟨_, rfl, a, hI, h9, rfl, hd, hh, ht, w2⟩
end PG
