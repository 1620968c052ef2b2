/-! the saved rows: the class's drafts and rows against the model's record -/
theorem m_copies {n n1 p1 p3 : Nat} (u u1 : Nat → Int32) (h1 : p1 + 104 ≤ n) (h3 : p3 + 104 ≤ n1) (hn : n < 100000) (hn1 : n1 < 100000) : q_X7_copies n n1 u u1 (zI p1) (zI p3) = some (fun i => if p3 ≤ i ∧ i < p3 + 104 then u (p1 + (i - p3)) else u1 i) := by
  unfold q_X7_copies
  rw [zl_run (fun k => (zI k, fun i => if p3 ≤ i ∧ i < p3 + k then u (p1 + (i - p3)) else u1 i)) (a := ((0 : Int32), u1)) (b := fun i => if p3 ≤ i ∧ i < p3 + 104 then u (p1 + (i - p3)) else u1 i) 104 ?_ (by omega) ?_ ?_, zb_some]
  · congr 1
    funext i
    rw [if_neg (by omega)]
  · intro k hk
    unfold q_X7_copies_L3
    dsimp only
    rw [if_neg (show ¬ (104 : Int32) ≤ zI k from zle_n (x := 104) (zr_s (by omega)) (zr_s (by omega)) (by omega)), zI_k, zg_N (by omega) (by omega), zI_k, zs_N (by omega) (by omega), zI_1]
    congr 3
    funext i
    unfold upd
    dsimp only
    by_cases c1 : i = p3 + k
    · subst c1
      rw [if_pos rfl, if_pos (show p3 ≤ p3 + k ∧ p3 + k < p3 + (k + 1) by omega), show p3 + k - p3 = k by omega]
    · rw [if_neg c1]
      by_cases c2 : p3 ≤ i ∧ i < p3 + k
      · rw [if_pos c2, if_pos (by omega)]
      · rw [if_neg c2, if_neg (by omega)]
  · unfold q_X7_copies_L3
    dsimp only
    rw [if_pos (show (104 : Int32) ≤ zI (104 : Nat) from zle_p (x := 104) (zr_s (by omega)) (zr_s (by omega)) (by omega))]
/-- a saved row of the model -/
def rowR (d : tX1) (hh : Nat → Int32) (i : Nat) : Prop := ∃ b : Nat → Int, aI 0 b ∧ b 0 ≤ 99999 ∧ dR d b ∧ ∀ k, k < 104 → hh (104 * i + k) = zI (b k)
def hR (w : tX2) (hh : Nat → Int32) (rec : Int32) : Prop := ∃ n : Nat, n ≤ 6 ∧ rec = zI n ∧ w.2.2 = zI n ∧ ∀ i, i < n → rowR (w.2.1 i) hh i
section PH
variable {a : Nat → Int} {kept hh : Nat → Int32} {rec : Int32} {r : (Nat → Int32) × Int32 × Int32 × Int32 × Int32 × Int32 × Int32}
theorem m_record {n : Nat} (hn : n ≤ 6) (hrec : rec = zI n) : ∃ hh' : Nat → Int32, q_X7_record (zM a, kept, hh, rec, r) = some (hh', zI ((if n = 6 then 6 else n + 1 : Nat) : Int)) ∧ (n < 6 → (∀ i, i < n → ∀ k, k < 104 → hh' (104 * i + k) = hh (104 * i + k)) ∧ ∀ k, k < 104 → hh' (104 * n + k) = zI (a k)) ∧ (n = 6 → (∀ i, i < 5 → ∀ k, k < 104 → hh' (104 * i + k) = hh (104 * (i + 1) + k)) ∧ ∀ k, k < 104 → hh' (104 * 5 + k) = zI (a k)) := by
  subst hrec
  have j49 : ∀ (w : Nat → Int32) (m : Nat), m < 6 → q_X7_record_J49 (zM a, kept, hh, zI n, r) w (zI m) = some ((fun i => if 104 * m ≤ i ∧ i < 104 * m + 104 then zM a (0 + (i - 104 * m)) else w i), zI ((m + 1 : Nat) : Int)) := by
    intro w m hm
    unfold q_X7_record_J49 zn
    dsimp only
    rw [show zI m * 104 = zI ((104 * m : Nat) : Int) by rw [show (104 : Int32) = zI 104 from rfl, zI_mul]; congr 1; omega, show q_X7_copies 104 624 (zM a) w 0 (zI ((104 * m : Nat) : Int)) = _ from m_copies (p1 := 0) (zM a) w (by omega) (by omega) (by omega) (by omega), zb_some, zI_1]
  by_cases c : n = 6
  · subst c
    refine ⟨fun i => if 104 * 5 ≤ i ∧ i < 104 * 5 + 104 then zM a (0 + (i - 104 * 5)) else (if i < 520 then hh (i + 104) else hh i), ?_, fun h => absurd h (by omega), fun _ => ⟨fun i hi k hk => ?_, fun k hk => ?_⟩⟩
    · unfold q_X7_record
      dsimp only
      rw [if_pos (show zI ((6 : Nat) : Int) = 6 from rfl), if_pos rfl]
      rw [zl_run (fun k => (zI k, fun i => if i < k then hh (i + 104) else hh i)) (a := ((0 : Int32), hh)) (b := fun i => if i < 520 then hh (i + 104) else hh i) 520 ?_ (by omega) ?_ ?_, zb_some]
      · unfold q_X7_record_J39 zn
        dsimp only
        rw [show zI ((6 : Nat) : Int) - 1 = zI ((5 : Nat) : Int) from zI_sub 6 1]
        exact j49 _ 5 (by omega)
      · congr 1
      · intro k hk
        unfold q_X7_record_L11
        dsimp only
        rw [if_neg (show ¬ (520 : Int32) ≤ zI k from zle_n (x := 520) (zr_s (by omega)) (zr_s (by omega)) (by omega)), show zI k + 104 = zI ((k + 104 : Nat) : Int) from zI_k k 104, zg_N (by omega) (by omega), zs_N (by omega) (by omega), zI_1]
        congr 3
        funext i
        unfold upd
        dsimp only
        by_cases c1 : i = k
        · subst c1
          rw [if_pos rfl, if_neg (by omega), if_pos (by omega)]
        · rw [if_neg c1]
          by_cases c2 : i < k
          · rw [if_pos c2, if_pos (by omega)]
          · rw [if_neg c2, if_neg (by omega)]
      · unfold q_X7_record_L11
        dsimp only
        rw [if_pos (show (520 : Int32) ≤ zI (520 : Nat) from zle_p (x := 520) (zr_s (by omega)) (zr_s (by omega)) (by omega))]
    · dsimp only
      rw [if_neg (by omega), if_pos (by omega)]
      congr 1
      omega
    · dsimp only
      rw [if_pos (by omega), zM_at, show 0 + (104 * 5 + k - 104 * 5) = k by omega]
  · refine ⟨fun i => if 104 * n ≤ i ∧ i < 104 * n + 104 then zM a (0 + (i - 104 * n)) else hh i, ?_, fun _ => ⟨fun i hi k hk => ?_, fun k hk => ?_⟩, fun h => absurd h c⟩
    · unfold q_X7_record
      dsimp only
      rw [if_neg (show ¬ zI n = 6 from zeq_n (y := 6) (zr_s (by omega)) (zr_s (by omega)) (by omega)), if_neg c]
      exact j49 hh n (by omega)
    · dsimp only
      rw [if_neg (by omega)]
    · dsimp only
      rw [if_pos (by omega), zM_at, show 0 + (104 * n + k - 104 * n) = k by omega]
/-- draft, then keep: against the record of the model -/
theorem h_step {w : tX2} {d : tX1} (h : aI 0 a) (h9 : a 0 ≤ 99999) (hd : dR d a) (hw : hR w hh rec) : ∃ rows' : Nat → tX1, q_X2_draft w d = some rows' ∧
    (∀ x : Int, zr x → x < 0 → q_X2_keep (w.1, rows', w.2.2) (zI x) = some (zI x, (w.1, rows', w.2.2)) ∧ hR (w.1, rows', w.2.2) hh rec) ∧
    ∃ (w' : tX2) (hh' : Nat → Int32) (rec' : Int32), q_X7_record (zM a, kept, hh, rec, r) = some (hh', rec') ∧ hR w' hh' rec' ∧ ∀ x : Int, zr x → 0 ≤ x → q_X2_keep (w.1, rows', w.2.2) (zI x) = some (zI x, w') := by
  obtain ⟨n, hn, hrec, hsz, hrows⟩ := hw
  have hN := h.2.1
  unfold aN at hN
  obtain ⟨d1, hc, hd1⟩ := c_copyFrom (d := w.2.1 n) (by omega) (by omega) hd
  have e : (zI n).toNatClampNeg = n := by rw [zI_clamp (zr_s (by omega))]; rfl
  have row : rowR d1 (fun i => zM a (i - 104 * n)) n := ⟨a, h, h9, hd1, fun k hk => by
    dsimp only
    rw [zM_at, show 104 * n + k - 104 * n = k by omega]⟩
  refine ⟨va_up w.2.1 n d1, ?_, fun x hx h0 => ⟨?_, n, hn, hrec, hsz, fun i hi => ?_⟩, ?_⟩
  · unfold q_X2_draft
    rw [hsz, e, if_neg (show ¬ zI n < 0 from zlt_n (y := 0) (zr_s (by omega)) (zr_s (by omega)) (by omega)), if_neg (by omega), hc, zb_some]
  · unfold q_X2_keep
    rw [if_neg (show ¬ 0 ≤ zI x from zle_n (x := 0) (zr_s (by omega)) hx h0)]
  · show rowR (va_up w.2.1 n d1 i) hh i
    unfold va_up
    rw [if_neg (by omega)]
    exact hrows i hi
  · obtain ⟨hh', hr', hlt, heq⟩ := m_record (a := a) (kept := kept) (hh := hh) (r := r) hn hrec
    by_cases c : n = 6
    · obtain ⟨f1, f2⟩ := heq c
      refine ⟨(zrot w.1, zrot (va_up w.2.1 n d1), zI n), hh', _, hr', ⟨6, by omega, by rw [if_pos c], by rw [c], fun i hi => ?_⟩, fun x hx h0 => ?_⟩
      · show rowR (zrot (va_up w.2.1 n d1) i) hh' i
        unfold zrot va_up
        by_cases c5 : i = 5
        · subst c5
          rw [if_pos (by omega), if_pos (by omega)]
          exact ⟨a, h, h9, hd1, f2⟩
        · rw [if_pos (by omega), if_neg (by omega)]
          obtain ⟨b, b1, b2, b3, b4⟩ := hrows (i + 1) (by omega)
          exact ⟨b, b1, b2, b3, fun k hk => by rw [f1 i (by omega) k hk]; exact b4 k hk⟩
      · unfold q_X2_keep
        dsimp only
        rw [if_pos (show 0 ≤ zI x from zle_p (x := 0) (zr_s (by omega)) hx h0), hsz, if_pos (show 6 ≤ zI n from zle_p (x := 6) (zr_s (by omega)) (zr_s (by omega)) (by omega))]
    · obtain ⟨f1, f2⟩ := hlt (by omega)
      refine ⟨(w.1, va_up w.2.1 n d1, zI ((n + 1 : Nat) : Int)), hh', _, hr', ⟨n + 1, by omega, by rw [if_neg c], rfl, fun i hi => ?_⟩, fun x hx h0 => ?_⟩
      · show rowR (va_up w.2.1 n d1 i) hh' i
        unfold va_up
        by_cases c5 : i = n
        · subst c5
          rw [if_pos rfl]
          exact ⟨a, h, h9, hd1, f2⟩
        · rw [if_neg c5]
          obtain ⟨b, b1, b2, b3, b4⟩ := hrows i (by omega)
          exact ⟨b, b1, b2, b3, fun k hk => by rw [f1 i (by omega) k hk]; exact b4 k hk⟩
      · unfold q_X2_keep
        dsimp only
        rw [if_pos (show 0 ≤ zI x from zle_p (x := 0) (zr_s (by omega)) hx h0), hsz, if_neg (show ¬ 6 ≤ zI n from zle_n (x := 6) (zr_s (by omega)) (zr_s (by omega)) (by omega)), zI_1]
end PH
