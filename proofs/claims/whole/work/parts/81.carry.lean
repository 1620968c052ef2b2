/-! class and model side by side: carryOut -/
section PCO
variable {u : tX6} {v : tX7} {x y : Int32} {a : Nat → Int} {r : (Nat → Int32) × (Nat → Int32) × Int32 × (Nat → Int32) × Int32 × Int32 × Int32 × Int32 × Int32 × Int32}
theorem x_read {d : tX1} {s t : Int} (h : aI 0 a) (hd : dR d a) (hs : 0 ≤ s ∧ s ≤ 7) (ht : zr t) : ((1 ≤ t ∧ t ≤ 200) ∧ a 0 + t ≤ 99999 ∧ q_X7_whyNotRead (zM a, r) (zI s) (zI t) = some 0) ∨ ∃ z : Int, (-4 ≤ z ∧ z < 0) ∧ q_X1_hostReads d (zI s) (zI t) = some (zI z, d) ∧ q_X7_whyNotRead (zM a, r) (zI s) (zI t) = some (zI z) := by
  have hN := h.2.1
  unfold aN at hN
  have hp : zr s := zr_s (by omega)
  have n3 := hd.2.2.2.2.2.2.2.1
  have e1 : (zI t < 1) ↔ t < 1 := zI_lt (y := 1) ht (zr_s (by omega))
  have e2 : (zI t ≤ 200) ↔ t ≤ 200 := zI_le (y := 200) ht (zr_s (by omega))
  by_cases c2 : 1 ≤ t ∧ t ≤ 200
  · by_cases c3 : a 0 + t ≤ 99999
    · refine Or.inl ⟨c2, c3, ?_⟩
      unfold q_X7_whyNotRead
      rw [m_isSpan hp, zb_some, if_pos hs, if_neg (by decide), show q_X7_within (zI t) 1 200 = _ from m_within ht (l := 1) (h := 200) (zr_s (by omega)) (zr_s (by omega)), zb_some, if_pos c2, if_neg (by decide)]
      show (if zI (a 0) + zI t ≤ 99999 then some (0 : Int32) else some (-4)) = some 0
      rw [zI_add, if_pos (show zI (a 0 + t) ≤ 99999 from zle_p (y := 99999) (zr_s (by omega)) (zr_s (by omega)) c3)]
    · refine Or.inr ⟨-4, by omega, ?_, ?_⟩
      · unfold q_X1_hostReads
        rw [c_isSpan hp, zb_some, if_pos hs, if_neg (by decide), if_neg (by rw [e1]; omega), if_pos (by rw [e2]; omega), n3, zI_add, if_neg (show ¬ zI (a 0 + t) ≤ 99999 from zle_n (y := 99999) (zr_s (by omega)) (zr_s (by omega)) (by omega)), zm4]
      · unfold q_X7_whyNotRead
        rw [m_isSpan hp, zb_some, if_pos hs, if_neg (by decide), show q_X7_within (zI t) 1 200 = _ from m_within ht (l := 1) (h := 200) (zr_s (by omega)) (zr_s (by omega)), zb_some, if_pos c2, if_neg (by decide)]
        show (if zI (a 0) + zI t ≤ 99999 then some (0 : Int32) else some (-4)) = some (zI (-4))
        rw [zI_add, if_neg (show ¬ zI (a 0 + t) ≤ 99999 from zle_n (y := 99999) (zr_s (by omega)) (zr_s (by omega)) (by omega)), zm4]
  · refine Or.inr ⟨-2, by omega, ?_, ?_⟩
    · unfold q_X1_hostReads
      rw [c_isSpan hp, zb_some, if_pos hs, if_neg (by decide)]
      by_cases c4 : t < 1
      · rw [if_pos (by rw [e1]; exact c4), zm2]
      · rw [if_neg (by rw [e1]; exact c4), if_neg (by rw [e2]; omega), zm2]
    · unfold q_X7_whyNotRead
      rw [m_isSpan hp, zb_some, if_pos hs, if_neg (by decide), show q_X7_within (zI t) 1 200 = _ from m_within ht (l := 1) (h := 200) (zr_s (by omega)) (zr_s (by omega)), zb_some, if_neg c2, if_pos rfl, zm2]
theorem x_quiet {d : tX1} {t : Int} (h : aI 0 a) (hd : dR d a) (ht : zr t) : ((1 ≤ t ∧ t ≤ 500) ∧ a 0 + t ≤ 99999 ∧ q_X7_whyNotQuiet (zM a, r) (zI t) = some 0) ∨ ∃ z : Int, (-4 ≤ z ∧ z < 0) ∧ q_X1_passQuietTicks d (zI t) = some (zI z, d) ∧ q_X7_whyNotQuiet (zM a, r) (zI t) = some (zI z) := by
  have hN := h.2.1
  unfold aN at hN
  have n3 := hd.2.2.2.2.2.2.2.1
  have e1 : (zI t < 1) ↔ t < 1 := zI_lt (y := 1) ht (zr_s (by omega))
  have e2 : (zI t ≤ 500) ↔ t ≤ 500 := zI_le (y := 500) ht (zr_s (by omega))
  by_cases c2 : 1 ≤ t ∧ t ≤ 500
  · by_cases c3 : a 0 + t ≤ 99999
    · refine Or.inl ⟨c2, c3, ?_⟩
      unfold q_X7_whyNotQuiet
      rw [show q_X7_within (zI t) 1 500 = _ from m_within ht (l := 1) (h := 500) (zr_s (by omega)) (zr_s (by omega)), zb_some, if_pos c2, if_neg (by decide)]
      show (if zI (a 0) + zI t ≤ 99999 then some (0 : Int32) else some (-4)) = some 0
      rw [zI_add, if_pos (show zI (a 0 + t) ≤ 99999 from zle_p (y := 99999) (zr_s (by omega)) (zr_s (by omega)) c3)]
    · refine Or.inr ⟨-4, by omega, ?_, ?_⟩
      · unfold q_X1_passQuietTicks
        rw [if_neg (by rw [e1]; omega), if_pos (by rw [e2]; omega), n3, zI_add, if_neg (show ¬ zI (a 0 + t) ≤ 99999 from zle_n (y := 99999) (zr_s (by omega)) (zr_s (by omega)) (by omega)), zm4]
      · unfold q_X7_whyNotQuiet
        rw [show q_X7_within (zI t) 1 500 = _ from m_within ht (l := 1) (h := 500) (zr_s (by omega)) (zr_s (by omega)), zb_some, if_pos c2, if_neg (by decide)]
        show (if zI (a 0) + zI t ≤ 99999 then some (0 : Int32) else some (-4)) = some (zI (-4))
        rw [zI_add, if_neg (show ¬ zI (a 0 + t) ≤ 99999 from zle_n (y := 99999) (zr_s (by omega)) (zr_s (by omega)) (by omega)), zm4]
  · refine Or.inr ⟨-2, by omega, ?_, ?_⟩
    · unfold q_X1_passQuietTicks
      by_cases c4 : t < 1
      · rw [if_pos (by rw [e1]; exact c4), zm2]
      · rw [if_neg (by rw [e1]; exact c4), if_neg (by rw [e2]; omega), zm2]
    · unfold q_X7_whyNotQuiet
      rw [show q_X7_within (zI t) 1 500 = _ from m_within ht (l := 1) (h := 500) (zr_s (by omega)) (zr_s (by omega)), zb_some, if_neg c2, if_pos rfl, zm2]
theorem x_spot {d : tX1} {s t : Int} (h : aI 0 a) (hd : dR d a) (hs : 0 ≤ s ∧ s ≤ 7) (ht : 1 ≤ t ∧ t ≤ 9) : (a 2 < 20 ∧ q_X7_whyNotSpot (zM a, r) (zI s) (zI t) = some 0) ∨ (q_X1_takeSpot d (zI s) (zI t) = some (zI (-4), d.2.2.1) ∧ q_X7_whyNotSpot (zM a, r) (zI s) (zI t) = some (zI (-4))) := by
  have hN := h.2.1
  unfold aN at hN
  have q3 := hd.2.2.1
  by_cases c3 : a 2 = 20
  · refine Or.inr ⟨?_, ?_⟩
    · unfold q_X1_takeSpot q_X5_append
      rw [c_isSpan (zr_s (by omega)), zb_some, if_pos hs, if_neg (by decide), if_neg (show ¬ zI t < 1 from zlt_n (y := 1) (zr_s (by omega)) (zr_s (by omega)) (by omega)), if_pos (show zI t ≤ 9 from zle_p (y := 9) (zr_s (by omega)) (zr_s (by omega)) (by omega)), q3.2, if_neg (show ¬ zI (a 2) < 20 from zlt_n (y := 20) (h.1 2) (zr_s (by omega)) (by omega)), zb_some]
      dsimp only
      rw [if_pos rfl, zm4]
    · unfold q_X7_whyNotSpot
      rw [m_isSpan (zr_s (by omega)), zb_some, if_pos hs, if_neg (by decide), show q_X7_within (zI t) 1 9 = _ from m_within (zr_s (by omega)) (l := 1) (h := 9) (zr_s (by omega)) (zr_s (by omega)), zb_some, if_pos ht, if_neg (by decide)]
      show (if zI (a 2) = 20 then some (-4 : Int32) else some 0) = _
      rw [if_pos (show zI (a 2) = 20 by rw [c3]; rfl), zm4]
  · refine Or.inl ⟨by omega, ?_⟩
    unfold q_X7_whyNotSpot
    rw [m_isSpan (zr_s (by omega)), zb_some, if_pos hs, if_neg (by decide), show q_X7_within (zI t) 1 9 = _ from m_within (zr_s (by omega)) (l := 1) (h := 9) (zr_s (by omega)) (zr_s (by omega)), zb_some, if_pos ht, if_neg (by decide)]
    show (if zI (a 2) = 20 then some (-4 : Int32) else some 0) = _
    rw [if_neg (show ¬ zI (a 2) = 20 from zeq_n (y := 20) (h.1 2) (zr_s (by omega)) c3)]
theorem x_cmd {o : Int32 × Nat × Int × Int × Int} {idx : Nat} (h : aI 0 a) (h9 : a 0 ≤ 99999) (hd : dR u.1 a) (hi : idx < 16) (e1 : u.2.2.2.1.2.2.2.1 idx = zI o.2.2.1) (e2 : u.2.2.2.1.2.2.2.2.1 idx = zI o.2.2.2.1) (e3 : o.2.2.1 = 1 ∨ o.2.2.1 = 4 → u.2.2.2.1.2.2.2.2.2.1 idx = zI o.2.2.2.2) (hX : cmX o) (hK : cmK o r.2.2.2.2.2.2.1 r.2.2.2.2.2.2.2.1 r.2.2.2.2.2.2.2.2.1) :
    ∃ (z : Int) (d' : tX1), q_X6_doCommand u (zI idx) = some (zI z, d') ∧ (-10 ≤ z ∧ z ≤ 200000) ∧ ((0 ≤ z ∧ ∃ b : Nat → Int, dR d' b ∧ aI 0 b ∧ b 0 ≤ 99999 ∧ q_X7_whyNotDone (zM a, r) = some 0 ∧ q_X7_does (zM a, r) = some (zM b)) ∨ (z < 0 ∧ dR d' a ∧ ∃ w : Int32, q_X7_whyNotDone (zM a, r) = some w ∧ w ≠ 0)) := by
  have hN := h.2.1
  unfold aN at hN
  obtain ⟨ok, q', kd, sx, sy⟩ := o
  obtain ⟨r1, r2, r3, r4, r5, r6, cm, one, two, num⟩ := r
  unfold cmX at hX
  unfold cmK at hK
  dsimp only at e1 e2 e3 hX hK
  have hdo : ∀ K : Int32 → Option (Int32 × tX1), True := fun _ => trivial
  unfold q_X6_doCommand
  rw [if_neg (show ¬ zI idx < 0 from zlt_n (y := 0) (zr_s (by omega)) (zr_s (by omega)) (by omega)), if_pos (show zI idx < 16 from zlt_p (y := 16) (zr_s (by omega)) (zr_s (by omega)) (by omega)), zg_N hi (by omega), zg_N hi (by omega), zg_N hi (by omega), e1, e2]
  rcases hX with ⟨c, hx, hy⟩ | ⟨c, hx⟩ | ⟨c, hx⟩ | ⟨c, hx, hy⟩ | ⟨c, hx⟩
  · obtain ⟨k1, k2, k3⟩ : cm = 114 ∧ one = zI sx ∧ two = zI sy := by
      rcases hK with ⟨w, k⟩ | ⟨w, k⟩ | ⟨w, k⟩ | ⟨w, k⟩ | ⟨w, k⟩
      · exact k
      all_goals omega
    subst c k1 k2 k3
    rw [if_pos (show zI 1 = 1 from rfl), e3 (Or.inl rfl)]
    rcases x_read (r := (r1, r2, r3, r4, r5, r6, 114, zI sx, zI sy, num)) h hd hx (zr_s (x := sy) (by omega)) with ⟨w1, w2, w3⟩ | ⟨z, w1, w2, w3⟩
    · obtain ⟨d', v1, v2⟩ := c_hostReads h hd hx w1 w2
      obtain ⟨i1, i2, i3⟩ := aI_read h hx w1.1 w2
      refine ⟨(aRead a sx sy).1, d', by rw [v1, zb_some], by omega, Or.inl ⟨i3.1, (aRead a sx sy).2, v2, i1, by omega, ?_, ?_⟩⟩
      · unfold q_X7_whyNotDone
        dsimp only
        rw [if_neg (by decide), if_neg (by decide), if_pos rfl, w3, zb_some]
      · unfold q_X7_does
        dsimp only
        rw [if_neg (by decide), if_neg (by decide), if_pos rfl, m_reads h hx w1.1 w2, zb_some]
    · refine ⟨z, u.1, by rw [w2, zb_some], by omega, Or.inr ⟨w1.2, hd, zI z, ?_, zeq_n (y := 0) (zr_s (by omega)) (zr_s (by omega)) (by omega)⟩⟩
      unfold q_X7_whyNotDone
      dsimp only
      rw [if_neg (by decide), if_neg (by decide), if_pos rfl, w3, zb_some]
  · obtain ⟨k1, k2⟩ : cm = 113 ∧ two = zI sx := by
      rcases hK with ⟨w, k⟩ | ⟨w, k⟩ | ⟨w, k⟩ | ⟨w, k⟩ | ⟨w, k⟩
      · omega
      · exact k
      all_goals omega
    subst c k1 k2
    rw [if_neg (show ¬ zI 2 = 1 by decide), if_pos (show zI 2 = 2 from rfl)]
    rcases x_quiet (r := (r1, r2, r3, r4, r5, r6, 113, one, zI sx, num)) h hd (zr_s (x := sx) (by omega)) with ⟨w1, w2, w3⟩ | ⟨z, w1, w2, w3⟩
    · obtain ⟨n, hn⟩ : ∃ n : Nat, sx = n := ⟨sx.toNat, by omega⟩
      subst hn
      obtain ⟨d', v1, v2⟩ := c_passQuietTicks (n := n) h (by omega) w2 hd
      obtain ⟨i1, i2⟩ := aTicks_I h n (by omega)
      have hb := aEnds_b a n
      have e9 := aTicks_9 h n (by omega)
      have ea : d'.2.2.2.2.2.2.2.2.2.2.2.2.2.1 - u.1.2.2.2.2.2.2.2.2.2.2.2.2.2.1 = zI (zsum (aEnds a) n) := by
        rw [v2.2.2.2.2.2.2.2.2.2.2.2.2.2.1, hd.2.2.2.2.2.2.2.2.2.2.2.2.2.1, zI_sub, e9]
        congr 1
        omega
      refine ⟨zsum (aEnds a) n, d', by rw [v1, zb_some]; dsimp only; rw [ea], by omega, Or.inl ⟨hb.1, aTicks a n, v2, i1, by omega, ?_, ?_⟩⟩
      · unfold q_X7_whyNotDone
        dsimp only
        rw [if_neg (by decide), if_pos rfl, w3, zb_some]
      · unfold q_X7_does
        dsimp only
        rw [if_neg (by decide), if_pos rfl, m_passes h (by omega), zb_some]
    · refine ⟨z, u.1, by rw [w2, zb_some], by omega, Or.inr ⟨w1.2, hd, zI z, ?_, zeq_n (y := 0) (zr_s (by omega)) (zr_s (by omega)) (by omega)⟩⟩
      unfold q_X7_whyNotDone
      dsimp only
      rw [if_neg (by decide), if_pos rfl, w3, zb_some]
  · obtain ⟨k1, k2⟩ : cm = 97 ∧ one = zI sx := by
      rcases hK with ⟨w, k⟩ | ⟨w, k⟩ | ⟨w, k⟩ | ⟨w, k⟩ | ⟨w, k⟩
      · omega
      · omega
      · exact k
      all_goals omega
    subst c k1 k2
    rw [if_neg (show ¬ zI 3 = 1 by decide), if_neg (show ¬ zI 3 = 2 by decide), if_pos (show zI 3 = 3 from rfl)]
    obtain ⟨q', v1, v2, v3⟩ := c_askByHand h (zr_s (x := sx) (by omega)) hd
    have hw := m_whyNotAsked (r := (r1, r2, r3, r4, r5, r6, 97, zI sx, two, num)) h (zr_s (x := sx) (by omega))
    have hb := aWhy_b a sx
    rw [v1, zb_some]
    dsimp only
    by_cases c1 : aWhy a sx = 0
    · obtain ⟨w1, w2, w3⟩ := aWhy_0 c1
      have ea : aAsk' a sx = aAsk a sx := if_pos c1
      rw [ea] at v2
      rw [if_pos c1]
      refine ⟨a 8, _, rfl, by omega, Or.inl ⟨by omega, aAsk a sx, dR_list hd (by omega) v2 (fun i v1 v2 => aAsk_ne (by omega) v1 v2) rfl rfl rfl rfl, aI_ask h w1 w2 w3, by rw [aAsk_ne (by omega) (by omega) (by omega)]; exact h9, ?_, ?_⟩⟩
      · unfold q_X7_whyNotDone
        dsimp only
        rw [if_pos rfl, hw, zb_some, c1]
        rfl
      · unfold q_X7_does
        dsimp only
        rw [if_pos rfl, m_asks (by omega), zb_some]
    · rw [if_neg c1, v3 c1]
      refine ⟨aWhy a sx, u.1, rfl, by omega, Or.inr ⟨by omega, hd, zI (aWhy a sx), ?_, zeq_n (y := 0) (zr_s (by omega)) (zr_s (by omega)) c1⟩⟩
      unfold q_X7_whyNotDone
      dsimp only
      rw [if_pos rfl, hw, zb_some]
  · obtain ⟨k1, k2, k3⟩ : cm = 115 ∧ one = zI sx ∧ two = zI sy := by
      rcases hK with ⟨w, k⟩ | ⟨w, k⟩ | ⟨w, k⟩ | ⟨w, k⟩ | ⟨w, k⟩
      · omega
      · omega
      · omega
      · exact k
      · omega
    subst c k1 k2 k3
    rw [if_neg (show ¬ zI 4 = 1 by decide), if_neg (show ¬ zI 4 = 2 by decide), if_neg (show ¬ zI 4 = 3 by decide), if_pos (show zI 4 = 4 from rfl), e3 (Or.inr rfl)]
    rcases x_spot (r := (r1, r2, r3, r4, r5, r6, 115, zI sx, zI sy, num)) h hd hx hy with ⟨w2, w3⟩ | ⟨w2, w3⟩
    · obtain ⟨s', v1, v2⟩ := c_takeSpot h hd w2 hx hy
      have hI' := aI_add h w2 hx hy
      have hNI := hI'.2.1
      unfold aN at hNI
      have hb := zsum_le (g := gCnt (aAdd a sx sy) sx) (c := 1) (n := (aAdd a sx sy 2).toNat) (fun k _ => by unfold gCnt; split <;> omega)
      have hb2 : 0 ≤ aCnt (aAdd a sx sy) sx ∧ aCnt (aAdd a sx sy) sx ≤ 20 := by unfold aCnt; omega
      have e : ∀ i, i ≠ 2 → (i < 34 ∨ 74 ≤ i) → aAdd a sx sy i = a i := fun i w1 w2 => aAdd_ne (by omega) w1 w2
      obtain ⟨q1, q2, q3, q4, q5, n1, n2, n3, n4, n5, n6, n7, n8, n9, n10, n11, n12⟩ := id hd
      rw [v1, zb_some]
      dsimp only
      refine ⟨aCnt (aAdd a sx sy) sx, _, rfl, by omega, Or.inl ⟨hb2.1, aAdd a sx sy, ⟨fun k hk => ?_, fun k hk => ?_, v2, qR_of q4 (e 8 (by omega) (by omega)) (by omega) (fun k hk => e _ (by omega) (by omega)), lR_of q5 (e 14 (by omega) (by omega)) (fun i w1 w2 => e i (by omega) (by omega)), ?_⟩, hI', by rw [e 0 (by omega) (by omega)]; exact h9, ?_, ?_⟩⟩
      · dsimp only
        rw [e _ (by omega) (by omega)]
        exact q1 k hk
      · dsimp only
        rw [e _ (by omega) (by omega)]
        exact q2 k hk
      · unfold nR
        dsimp only
        rw [e 4 (by omega) (by omega), e 3 (by omega) (by omega), e 0 (by omega) (by omega), e 1 (by omega) (by omega), e 5 (by omega) (by omega), e 6 (by omega) (by omega), e 7 (by omega) (by omega), e 13 (by omega) (by omega), e 9 (by omega) (by omega), e 10 (by omega) (by omega), e 11 (by omega) (by omega), e 12 (by omega) (by omega)]
        exact ⟨n1, n2, n3, n4, n5, n6, n7, n8, n9, n10, n11, n12⟩
      · unfold q_X7_whyNotDone
        dsimp only
        rw [if_neg (by decide), if_neg (by decide), if_neg (by decide), if_pos rfl, w3, zb_some]
      · unfold q_X7_does
        dsimp only
        rw [if_neg (by decide), if_neg (by decide), if_neg (by decide), if_pos rfl, m_adds h w2 hx hy, zb_some]
    · refine ⟨-4, u.1, by rw [w2, zb_some], by omega, Or.inr ⟨by omega, hd, zI (-4), ?_, by decide +kernel⟩⟩
      unfold q_X7_whyNotDone
      dsimp only
      rw [if_neg (by decide), if_neg (by decide), if_neg (by decide), if_pos rfl, w3, zb_some]
  · obtain ⟨k1, k2⟩ : cm = 119 ∧ two = zI sx := by
      rcases hK with ⟨w, k⟩ | ⟨w, k⟩ | ⟨w, k⟩ | ⟨w, k⟩ | ⟨w, k⟩
      · omega
      · omega
      · omega
      · omega
      · exact k
    subst c k1 k2
    obtain ⟨q1, q2, q3, q4, q5, n1, n2, n3, n4, n5, n6, n7, n8, n9, n10, n11, n12⟩ := id hd
    have hq : q_X1_changeWay u.1 (zI sx) = some (zI (a 4), zI sx) := by
      unfold q_X1_changeWay
      rw [if_neg (show ¬ zI sx < 0 from zlt_n (y := 0) (zr_s (by omega)) (zr_s (by omega)) (by omega)), if_pos (show zI sx < 3 from zlt_p (y := 3) (zr_s (by omega)) (zr_s (by omega)) (by omega)), n1]
    have e : ∀ i, i ≠ 4 → up a 4 sx i = a i := fun i w1 => up_ne _ _ w1
    rw [if_neg (show ¬ zI 5 = 1 by decide), if_neg (show ¬ zI 5 = 2 by decide), if_neg (show ¬ zI 5 = 3 by decide), if_neg (show ¬ zI 5 = 4 by decide), hq, zb_some]
    refine ⟨a 4, _, rfl, by omega, Or.inl ⟨by omega, up a 4 sx, ?_, aI_way h hx, by rw [e 0 (by omega)]; exact h9, ?_, ?_⟩⟩
    · refine dR_num hd (by omega) (by omega) (e 2 (by omega)) (e 8 (by omega)) (e 14 (by omega)) (fun i w1 w2 => e i (by omega)) ⟨rfl, rfl, rfl, rfl⟩ rfl ?_
      unfold nR
      dsimp only
      rw [up_at, e 3 (by omega), e 0 (by omega), e 1 (by omega), e 5 (by omega), e 6 (by omega), e 7 (by omega), e 13 (by omega), e 9 (by omega), e 10 (by omega), e 11 (by omega), e 12 (by omega)]
      exact ⟨rfl, n2, n3, n4, n5, n6, n7, n8, n9, n10, n11, n12⟩
    · unfold q_X7_whyNotDone
      dsimp only
      rw [if_neg (by decide), if_neg (by decide), if_neg (by decide), if_neg (by decide)]
    · unfold q_X7_does zn
      dsimp only
      rw [if_neg (by decide), if_neg (by decide), if_neg (by decide), if_neg (by decide), zM_up]
/-- where the model stands ahead of command k -/
def psF (F : Nat → Int32 × Nat × Int × Int × Int) (m N k : Nat) : Nat := if k ≤ N then stF F k else m
theorem x_loop {T : Nat → Int} {m N : Nat} {F : Nat → Int32 × Nat × Int × Int × Int} {c4 : Int32 × tX4} {rows : Nat → tX1} {t : Nat → Int32} (hx : xT t T m) (hF : ∀ q, q ≤ m → cmA T m q (F q)) (hN : N < 14) (hg : ∀ j, j < N → goP F T m j) (hl1 : (F (stF F N)).1 = 1) (hl2 : (F (stF F N)).2.1 = m) (hc : c4.2.2.2.2.2.2.2.1 = zI ((N + 1 : Nat) : Int)) (hk : ∀ j, j < N + 1 → kst F c4.2 j) :
    ∀ (j k : Nat), k + j = N + 1 → ∀ (n1 n2 : Nat) (a : Nat → Int) (d : tX1) (kept hh : Nat → Int32) (rec cm one two num : Int32), j + 1 ≤ n1 → j + 2 ≤ n2 → aI 0 a → a 0 ≤ 99999 → dR d a → ∃ (e : Nat) (a' : Nat → Int) (d' : tX1) (s : Int32 × Int32 × Int32 × Int32 × Int32), zl n1 (q_X6_carryOut_L36 u c4 rows) (zI k, d) = some (zI e, d') ∧ zl n2 q_X7_carryOut_L25 (zI k, 1, (zM a, kept, hh, rec, t, zI m, zI (psF F m N k : Nat), cm, one, two, num)) = some (zI e, (zM a', kept, hh, rec, t, zI m, s)) ∧ e ≤ N + 1 ∧ aI 0 a' ∧ a' 0 ≤ 99999 ∧ dR d' a' := by
  have hm := hx.1
  intro j
  induction j with
  | zero =>
    intro k hkN n1 n2 a d kept hh rec cm one two num h1 h2 hI h9 hd
    obtain ⟨n1, rfl⟩ : ∃ n, n1 = n + 1 := ⟨n1 - 1, by omega⟩
    obtain ⟨n2, rfl⟩ : ∃ n, n2 = n + 1 := ⟨n2 - 1, by omega⟩
    refine ⟨k, a, d, (zI (psF F m N k : Nat), cm, one, two, num), zl_out ?_, zl_out ?_, by omega, hI, h9, hd⟩
    · unfold q_X6_carryOut_L36
      dsimp only
      rw [hc, if_pos (zle_p (zr_s (by omega)) (zr_s (by omega)) (by omega))]
    · unfold q_X7_carryOut_L25
      dsimp only
      rw [if_neg z10, if_pos (show zI (m : Nat) ≤ zI (psF F m N k : Nat) by
        unfold psF
        rw [if_neg (by omega)]
        exact zle_p (zr_s (by omega)) (zr_s (by omega)) (by omega))]
  | succ j ih =>
    intro k hkN n1 n2 a d kept hh rec cm one two num h1 h2 hI h9 hd
    obtain ⟨n1, rfl⟩ : ∃ n, n1 = n + 1 := ⟨n1 - 1, by omega⟩
    obtain ⟨n2, rfl⟩ : ∃ n, n2 = n + 1 := ⟨n2 - 1, by omega⟩
    have hst := st_b (k := k) hF (fun i hi => hg i (by omega))
    have hok : (F (stF F k)).1 = 1 := by
      by_cases c : k = N
      · rw [c]; exact hl1
      · exact (hg k (by omega)).1
    obtain ⟨-, hM, -, hB1, hB2⟩ := hF _ hst.1
    have hB3 := hB2 hok
    have hlt : stF F k < m := by have := hB3.1; omega
    have hps : psF F m N k = stF F k := if_pos (by omega)
    obtain ⟨c', one', two', num', w1, w2⟩ := hM (zM a, kept, hh, rec, t, zI m, zI (stF F k : Nat), cm, one, two, num) hx rfl rfl
    rw [hok] at w1
    -- the sign behind the command
    have hsg : ∃ g : Int32, q_X7_isNext (zM a, kept, hh, rec, t, zI m, zI ((F (stF F k)).2.1 : Nat), c', one', two', num') 59 = some (g, zI (psF F m N (k + 1) : Nat)) := by
      by_cases c : k = N
      · refine ⟨0, ?_⟩
        have e : psF F m N (k + 1) = (F (stF F k)).2.1 := by
          unfold psF
          rw [if_neg (by omega), c, hl2]
        rw [e]
        exact m_sgN (c := 59) (m := m) hx rfl rfl hB1 (by omega) (fun q => by have := q.1; rw [c, hl2] at this; omega)
      · refine ⟨1, ?_⟩
        have e : psF F m N (k + 1) = (F (stF F k)).2.1 + 1 := if_pos (by omega)
        rw [e]
        exact m_sgY (c := 59) (m := m) hx rfl rfl (hg k (by omega)).2
    obtain ⟨g, hg1⟩ := hsg
    have hkk := hk k (by omega)
    obtain ⟨z, d', v1, v2, v3⟩ := x_cmd (u := (d, u.2.1, (u.2.2.1.1, rows, u.2.2.1.2.2), c4.2, u.2.2.2.2)) (o := F (stF F k)) (idx := k) (r := (kept, hh, rec, t, zI m, zI (psF F m N (k + 1) : Nat), c', one', two', num')) hI h9 hd (by omega) hkk.1 hkk.2.1 hkk.2.2 hB3.2 (w2 hok)
    have cstep : q_X6_carryOut_L36 u c4 rows (zI k, d) = (if zI z < 0 then some (Sum.inr (zI k, d')) else some (Sum.inl (zI k + 1, d'))) := by
      unfold q_X6_carryOut_L36
      dsimp only
      rw [hc, if_neg (show ¬ zI ((N + 1 : Nat) : Int) ≤ zI k from zle_n (zr_s (by omega)) (zr_s (by omega)) (by omega)), v1, zb_some]
    have mstep : ∀ w : Int32, q_X7_whyNotDone (zM a, kept, hh, rec, t, zI m, zI (psF F m N (k + 1) : Nat), c', one', two', num') = some w → q_X7_carryOut_L25 (zI k, 1, (zM a, kept, hh, rec, t, zI m, zI (psF F m N k : Nat), cm, one, two, num)) = (if w = 0 then q_X7_carryOut_J64 (zI k, 1, (zM a, kept, hh, rec, t, zI m, zI (psF F m N k : Nat), cm, one, two, num)) (1, zI ((F (stF F k)).2.1 : Nat), c', one', two', num') (g, zI (psF F m N (k + 1) : Nat)) 1 else q_X7_carryOut_J64 (zI k, 1, (zM a, kept, hh, rec, t, zI m, zI (psF F m N k : Nat), cm, one, two, num)) (1, zI ((F (stF F k)).2.1 : Nat), c', one', two', num') (g, zI (psF F m N (k + 1) : Nat)) 0) := by
      intro w hw
      unfold q_X7_carryOut_L25
      dsimp only
      rw [hps, if_neg z10, if_neg (show ¬ zI (m : Nat) ≤ zI (stF F k : Nat) from zle_n (zr_s (by omega)) (zr_s (by omega)) (by omega)), w1, zb_some]
      dsimp only
      rw [hg1, zb_some]
      dsimp only
      rw [hw, zb_some]
    rcases v3 with ⟨y1, b, y2, y3, y4, y5, y6⟩ | ⟨y1, y2, w, y3, y4⟩
    · obtain ⟨e, a', d'', s, f1, f2, f3, f4, f5, f6⟩ := ih (k + 1) (by omega) n1 n2 b d' kept hh rec c' one' two' num' (by omega) (by omega) y3 y4 y2
      refine ⟨e, a', d'', s, ?_, ?_, f3, f4, f5, f6⟩
      · refine (zl_in (y := (zI ((k + 1 : Nat) : Int), d')) ?_).trans f1
        rw [cstep, if_neg (show ¬ zI z < 0 from zlt_n (y := 0) (zr_s (by omega)) (zr_s (by omega)) y1), zI_1]
      · refine (zl_in (y := (zI ((k + 1 : Nat) : Int), 1, (zM b, kept, hh, rec, t, zI m, zI (psF F m N (k + 1) : Nat), c', one', two', num'))) ?_).trans f2
        rw [mstep 0 y5, if_pos rfl]
        unfold q_X7_carryOut_J64
        dsimp only
        rw [if_neg z10, y6, zb_some, zI_1]
    · obtain ⟨n2, rfl⟩ : ∃ n, n2 = n + 1 := ⟨n2 - 1, by omega⟩
      refine ⟨k, a, d', (zI (psF F m N (k + 1) : Nat), c', one', two', num'), zl_out ?_, ?_, by omega, hI, h9, y2⟩
      · rw [cstep, if_pos (show zI z < 0 from zlt_p (y := 0) (zr_s (by omega)) (zr_s (by omega)) y1)]
      · refine (zl_in (y := (zI k, 0, (zM a, kept, hh, rec, t, zI m, zI (psF F m N (k + 1) : Nat), c', one', two', num'))) ?_).trans (zl_out ?_)
        · rw [mstep w y3, if_neg y4]
          unfold q_X7_carryOut_J64
          dsimp only
          rw [if_pos rfl]
        · unfold q_X7_carryOut_L25
          dsimp only
          rw [if_pos rfl]
theorem t_24 (h : TR u v) : ∃ o, qL_24 x y u v = some o ∧ TR o.1 o.2 := by
  obtain ⟨a, hI, h9, hv, hd, hh, ht, hj⟩ := id h
  obtain ⟨T, m, x1, x2, l1, l2⟩ := tR_x ht
  obtain ⟨F, hF⟩ := F_ex T m
  obtain ⟨N, hN, hn, hg⟩ := st_ex x1.1 hF
  obtain ⟨p', w1, w2, w3, w4⟩ := c_findError (p := u.2.2.2.1) x1 hF hN hn hg rfl l1
  obtain ⟨s, v1⟩ := m_findError (v := v) x2 l2 hF hN hn hg
  have htp := tR_of ht w2 (w3.trans l1.symm)
  obtain ⟨st, kept, hs, rec, t, len, r⟩ := v
  dsimp only at hv hh ht x2 l2 htp
  subst hv l2
  unfold qL_24 q_X6_carryOut q_X7_carryOut
  rw [w1, zb_some, v1, zb_some]
  dsimp only
  by_cases c1 : feZ F m N = -6
  · obtain ⟨q1, q2⟩ := w4 c1
    have hl : (F (stF F N)).1 = 1 ∧ (F (stF F N)).2.1 = m := by
      by_cases c : (F (stF F N)).1 = 1 ∧ (F (stF F N)).2.1 = m
      · exact c
      · unfold feZ at c1
        rw [if_neg c] at c1
        omega
    obtain ⟨rows', hdr, hno, w', hh', rec', hrec, hhR, hyes⟩ := h_step (kept := kept) (r := (t, zI m, s.1, s.2.1, s.2.2.1, s.2.2.2.1, s.2.2.2.2)) hI h9 hd hh
    have hps : psF F m N 0 = 0 := if_pos (by omega)
    obtain ⟨e, a', d', s', f1, f2, f3, f4, f5, f6⟩ := x_loop (u := u) (c4 := (zI (feZ F m N), p')) (rows := rows') x2 hF hN hg hl.1 hl.2 q1 q2 (N + 1) 0 (by omega) 1000000 1000000 a u.1 kept hh' rec' s.2.1 s.2.2.1 s.2.2.2.1 s.2.2.2.2 (by omega) (by omega) hI h9 hd
    rw [hps] at f2
    rw [if_pos (show zI (feZ F m N) = -6 by rw [c1, z6]), hdr, zb_some, show zl 1000000 (q_X6_carryOut_L36 u (zI (feZ F m N), p') rows') (0, u.1) = _ from f1, zb_some]
    unfold q_X6_carryOut_J55 q_X4_clear
    dsimp only
    rw [zb_some, hyes (e : Int) (zr_s (by omega)) (by omega), zb_some, zb_some, if_pos (show zI (feZ F m N) = -6 by rw [c1, z6]), hrec, zb_some]
    dsimp only
    rw [show zl 1000000 q_X7_carryOut_L25 (0, 1, (zM a, kept, hh', rec', t, zI m, 0, s.2.1, s.2.2.1, s.2.2.2.1, s.2.2.2.2)) = _ from f2, zb_some]
    unfold q_X7_carryOut_J79
    rw [zb_some]
    dsimp only
    rw [if_pos rfl]
    exact ⟨_, rfl, a', f4, f5, rfl, f6, hhR, ⟨0, by omega, rfl, rfl, fun k hk => absurd hk (Nat.not_lt_zero k)⟩, hj⟩
  · have hb : ¬ zI (feZ F m N) = -6 := by
      rw [z6]
      refine zeq_n (zr_s ?_) (zr_s (by omega)) c1
      have hm := x1.1
      have := (hF _ (st_b hF hg).1).2.2.2.1
      unfold feZ
      split <;> omega
    rw [if_neg hb, zb_some, if_neg hb, zb_some]
    dsimp only
    rw [if_pos rfl]
    exact ⟨_, rfl, a, hI, h9, rfl, hd, hh, htp, hj⟩
end PCO
