/-! class and model side by side: type; a row told only below 104 -/
section PY
variable {u : tX6} {v : tX7} {x y : Int32}
theorem zchr : ∀ k : Fin 127, vp_nar .char ((Int32.toUInt32 (zI ((k : Nat) : Int)) % 65536).toInt32) = zI ((k : Nat) : Int) := by decide +kernel
theorem t_21 (h : TR u v) : ∃ o, qL_21 x y u v = some o ∧ TR o.1 o.2 := by
  obtain ⟨a, hI, h9, hv, hd, hh, ⟨m, hm, e1, e2, hc⟩, hj⟩ := id h
  obtain ⟨p, hp, rfl⟩ := zI_ex x
  have q1 : (zI p < 32) ↔ p < 32 := zI_lt (y := 32) hp (zr_s (by omega))
  have q2 : (zI p ≤ 126) ↔ p ≤ 126 := zI_le (y := 126) hp (zr_s (by omega))
  unfold qL_21 q_X6_type q_X7_type q_X4_append
  rw [show q_X7_within (zI p) 32 126 = _ from m_within hp (l := 32) (h := 126) (zr_s (by omega)) (zr_s (by omega)), e1, e2]
  by_cases c1 : 32 ≤ p ∧ p ≤ 126
  · rw [if_neg (by rw [q1]; omega), if_pos (by rw [q2]; omega), if_pos c1]
    by_cases c2 : m < 80
    · have hch : vp_nar .char ((Int32.toUInt32 (zI p) % 65536).toInt32) = zI p := by
        have := zchr ⟨p.toNat, by omega⟩
        rw [show ((p.toNat : Nat) : Int) = p by omega] at this
        exact this
      rw [if_pos (show zI m < 80 from zlt_p (y := 80) (zr_s (by omega)) (zr_s (by omega)) (by omega)), zs_N (by omega) (by omega), hch, zb_some, if_neg (by decide), if_neg (show ¬ zI m = 80 from zeq_n (y := 80) (zr_s (by omega)) (zr_s (by omega)) (by omega)), zs_N (by omega) (by omega)]
      unfold zn
      dsimp only
      rw [zI_1, zb_some, zb_some, zb_some]
      dsimp only
      rw [if_pos rfl]
      refine ⟨_, rfl, a, hI, h9, hv, hd, hh, ⟨m + 1, by omega, rfl, rfl, fun k hk => ?_⟩, hj⟩
      dsimp only
      by_cases c3 : k = m
      · subst c3
        exact ⟨p, c1, upd_at _ _ _, upd_at _ _ _⟩
      · obtain ⟨c, w1, w2, w3⟩ := hc k (by omega)
        exact ⟨c, w1, by rw [upd_ne' _ _ c3]; exact w2, by rw [upd_ne' _ _ c3]; exact w3⟩
    · rw [if_neg (show ¬ zI m < 80 from zlt_n (y := 80) (zr_s (by omega)) (zr_s (by omega)) (by omega)), zb_some, zb_some, zb_some, if_neg (by decide), if_pos (show zI m = 80 by rw [show m = 80 by omega]; rfl), zb_some]
      dsimp only
      rw [if_pos rfl]
      exact ⟨_, rfl, a, hI, h9, hv, hd, hh, ⟨m, hm, rfl, rfl, hc⟩, hj⟩
  · have hq : (if zI p < 32 then some ((-2 : Int32), u.2.2.2.1.1, zI m) else (if zI p ≤ 126 then (if zI m < 80 then zs 80 u.2.2.2.1.1 (zI m) (vp_nar .char ((Int32.toUInt32 (zI p) % 65536).toInt32)) fun s37 => zn (zI m + 1) fun k45 => some (k45, s37, k45) else some ((-4), u.2.2.2.1.1, zI m)) else some ((-2), u.2.2.2.1.1, zI m))) = some ((-2 : Int32), u.2.2.2.1.1, zI m) := by
      by_cases c3 : p < 32
      · rw [if_pos (by rw [q1]; exact c3)]
      · rw [if_neg (by rw [q1]; exact c3), if_neg (by rw [q2]; omega)]
    rw [hq, zb_some, zb_some, zb_some, if_neg c1, if_pos rfl, zb_some]
    dsimp only
    rw [if_pos rfl]
    exact ⟨_, rfl, a, hI, h9, hv, hd, hh, ⟨m, hm, rfl, rfl, hc⟩, hj⟩
/-- a row of the model that is told below 104 only -/
theorem row_ex {a : Nat → Int} {c : Int} {st : Nat → Int32} (h : aI c a) (e : ∀ i, i < 104 → st i = zM a i) : ∃ b : Nat → Int, st = zM b ∧ (∀ i, i < 104 → b i = a i) ∧ ∀ i, zr (b i) := by
  refine ⟨fun i => (st i).toInt, ?_, fun i hi => ?_, fun i => zr_of _⟩
  · funext i
    show st i = zI (st i).toInt
    rw [zI_of]
  · dsimp only
    rw [e i hi, zM_at, zI_toInt (h.1 i)]
theorem aI_row {a b : Nat → Int} {c : Int} (h : aI c a) (hr : ∀ i, zr (b i)) (e : ∀ i, i < 104 → b i = a i) : aI c b := by
  have hN := h.2.1
  refine aI_num h ?_ hr (by rw [e 0 (by omega)]; omega) (e 2 (by omega)) (e 8 (by omega)) (e 14 (by omega)) (fun i w1 w2 => e i w2)
  unfold aN at hN ⊢
  rw [e 0 (by omega), e 1 (by omega), e 2 (by omega), e 3 (by omega), e 4 (by omega), e 5 (by omega), e 6 (by omega), e 7 (by omega), e 8 (by omega), e 9 (by omega), e 10 (by omega), e 11 (by omega), e 12 (by omega), e 13 (by omega), e 14 (by omega), e 15 (by omega), e 16 (by omega), e 17 (by omega), e 18 (by omega), e 19 (by omega)]
  exact hN
theorem dR_row {a b : Nat → Int} {c : Int} {d : tX1} (h : aI c a) (hd : dR d a) (e : ∀ i, i < 104 → b i = a i) : dR d b := by
  have hN := h.2.1
  unfold aN at hN
  obtain ⟨hk, hl⟩ := dR_k.mp hd
  exact dR_k.mpr ⟨kR_of hk (by omega) (by omega) (fun i w1 w2 => e i (by omega)), lR_of hl (e 14 (by omega)) (fun i w1 w2 => e i w2)⟩
end PY
