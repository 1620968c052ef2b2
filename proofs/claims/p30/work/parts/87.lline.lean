/-! the law reads an entry and its line -/
section PZ5
variable {a : Nat → Int} {q t l p e : Nat → Int32} {u : tX6}
theorem z_ltrF : ∀ K : Fin 6, ∀ i : Fin 9, q_L_letter (zI (((K : Nat) : Int) + 1)) (zI ((i : Nat) : Int)) = some (zI (if (i : Nat) < zSL K then (zSB K i).toInt else 0)) := by decide +kernel
theorem z_wpF : ∀ K : Fin 6, ∀ i : Fin 8, (i : Nat) < zSL K → 0 < (zSB K i).toInt := by decide +kernel
theorem j_letter {K : Int} {i : Nat} (hK : 1 ≤ K ∧ K ≤ 6) (hi : i ≤ wln K) : q_L_letter (zI K) (zI i) = some (zI (if i < wln K then wch K i else 0)) := by
  have b := wln_b hK
  have := z_ltrF ⟨K.toNat - 1, by omega⟩ ⟨i, by omega⟩
  dsimp only at this
  rw [show ((K.toNat - 1 : Nat) : Int) + 1 = K by omega] at this
  exact this
theorem wch_p {K : Int} {i : Nat} (hK : 1 ≤ K ∧ K ≤ 6) (hi : i < wln K) : 0 < wch K i := by
  have b := wln_b hK
  exact z_wpF ⟨K.toNat - 1, by omega⟩ ⟨i, by omega⟩ hi
def pw : Nat → Int
  | 0 => 1
  | n + 1 => 10 * pw n
theorem pw_b {n : Nat} (h : n < 5) : 1 ≤ pw n ∧ pw n ≤ 10000 := by
  rcases (show n = 0 ∨ n = 1 ∨ n = 2 ∨ n = 3 ∨ n = 4 by omega) with rfl | rfl | rfl | rfl | rfl <;> decide
theorem pw_p (n : Nat) : 0 < pw n := by
  induction n with
  | zero => decide
  | succ n ih =>
    show 0 < 10 * pw n
    omega
theorem td_pw (T : Int) (n : Nat) : td T n = T / pw n := by
  induction n with
  | zero => exact (Int.ediv_one T).symm
  | succ n ih =>
    show td T n / 10 = T / (10 * pw n)
    rw [ih, Int.ediv_ediv_of_nonneg (by have := pw_p n; omega), Int.mul_comm]
theorem j_unit {v : Int32 × tJ4} {i : Nat} {T : Int} (hv : v.1 = zI i) (hi : i < 10) (he : e (3 * i) = zI T) (hT : 0 ≤ T ∧ T ≤ 99999) : zl 1000000 (q_L_same_L436 e v) 1 = some (zI (pw (nd T - 1))) := by
  have e0 : (3 : Int32) * zI i = zI ((3 * i : Nat) : Int) := by
    rw [show (3 : Int32) = zI 3 from rfl, zI_mul]
    congr 1
  have go0 : ∀ (n : Nat) (P : Int), 1 ≤ P → P ≤ 10000 → T < 10 * P → zl (n + 1) (q_L_same_L436 e v) (zI P) = some (zI P) := by
    intro n P h1 h2 h3
    refine zl_out ?_
    unfold q_L_same_L436
    have h4 : T / P ≤ 9 := by
      have : T / P < 10 := Int.ediv_lt_of_lt_mul (by omega) h3
      omega
    have h5 : 0 ≤ T / P := Int.ediv_nonneg hT.1 (by omega)
    rw [hv, e0, zg_N (by omega) (by omega), he, zq_t (show ¬ zI P = 0 from zeq_n (y := 0) (zr_s (by omega)) (zr_s (by omega)) (by omega)), zI_div (by omega) (by omega), if_pos (show zI (T / P) ≤ 9 from zle_p (y := 9) (zr_s (by omega)) (zr_s (by omega)) h4)]
  have go1 : ∀ (n : Nat) (P : Int), 1 ≤ P → P ≤ 10000 → 10 * P ≤ T → zl (n + 1) (q_L_same_L436 e v) (zI P) = zl n (q_L_same_L436 e v) (zI (10 * P)) := by
    intro n P h1 h2 h3
    refine zl_in ?_
    unfold q_L_same_L436
    have h4 : 10 ≤ T / P := (Int.le_ediv_iff_mul_le (by omega)).mpr h3
    have h5 : T / P ≤ T := Int.ediv_le_self P hT.1
    rw [hv, e0, zg_N (by omega) (by omega), he, zq_t (show ¬ zI P = 0 from zeq_n (y := 0) (zr_s (by omega)) (zr_s (by omega)) (by omega)), zI_div (by omega) (by omega), if_neg (show ¬ zI (T / P) ≤ 9 from zle_n (y := 9) (zr_s (by omega)) (zr_s (by omega)) (by omega)), show zI P * 10 = zI (P * 10) from zI_mul P 10, Int.mul_comm]
  rcases nd_cases hT with ⟨c, d⟩ | ⟨c, d⟩ | ⟨c, d⟩ | ⟨c, d⟩ | ⟨c, d⟩
  · rw [d]
    exact go0 999999 1 (by omega) (by omega) (by omega)
  · rw [d]
    exact (go1 999999 1 (by omega) (by omega) (by omega)).trans (go0 999998 (10 * 1) (by omega) (by omega) (by omega))
  · rw [d]
    exact (go1 999999 1 (by omega) (by omega) (by omega)).trans ((go1 999998 (10 * 1) (by omega) (by omega) (by omega)).trans (go0 999997 (10 * (10 * 1)) (by omega) (by omega) (by omega)))
  · rw [d]
    exact (go1 999999 1 (by omega) (by omega) (by omega)).trans ((go1 999998 (10 * 1) (by omega) (by omega) (by omega)).trans ((go1 999997 (10 * (10 * 1)) (by omega) (by omega) (by omega)).trans (go0 999996 (10 * (10 * (10 * 1))) (by omega) (by omega) (by omega))))
  · rw [d]
    exact (go1 999999 1 (by omega) (by omega) (by omega)).trans ((go1 999998 (10 * 1) (by omega) (by omega) (by omega)).trans ((go1 999997 (10 * (10 * 1)) (by omega) (by omega) (by omega)).trans ((go1 999996 (10 * (10 * (10 * 1))) (by omega) (by omega) (by omega)).trans (go0 999995 (10 * (10 * (10 * (10 * 1)))) (by omega) (by omega) (by omega)))))
/-- one entry -/
theorem j_entry {i : Nat} {g : tJ4} (hU : UR u a) (hE : vE e a) (hi : (i : Int) < aMany a) (hg : jR g) : ∃ g', zb (zl 1000000 (q_L_same_L395 e u (zI i, g)) (0, g)) (fun bb => q_L_same_J430 e u (zI i, g) bb) = some (Sum.inl (zI ((i + 1 : Nat) : Int), g')) ∧ jR g' := by
  have hU0 := hU
  obtain ⟨hI, h9, hd, hh, hj⟩ := hU0
  obtain ⟨hT, hK, hS⟩ := eV_b hI hi
  have hM : aMany a ≤ 10 := by
    unfold aMany
    split <;> omega
  have hx0 := hE i hi 0 (by omega)
  have hx1 := hE i hi 1 (by omega)
  have hx2 := hE i hi 2 (by omega)
  have hla : ∀ (g : tJ4) (p : Nat), jR g → p < lL (eV a i 0) (eV a i 1) → ∃ g', q_X6_lineAt (u.1, u.2.1, u.2.2.1, u.2.2.2.1, g) (zI i) (zI p) = some (zI (lI (eV a i 0) (eV a i 1) (eV a i 2) p), g') ∧ jR g' := fun g p h1 h2 => k_lineAt (UR_line hU h1) hi h2
  have hln : ∀ g : tJ4, jR g → ∃ g', q_X6_lineAt (u.1, u.2.1, u.2.2.1, u.2.2.2.1, g) (zI i) (zI (lL (eV a i 0) (eV a i 1) : Nat)) = some (-1, g') ∧ jR g' := fun g h1 => k_lineAt_no (UR_line hU h1) hi
  have he3 : ∀ g : tJ4, jR g → ∃ g', q_X6_entry (u.1, u.2.1, u.2.2.1, u.2.2.2.1, g) (zI i) 3 = some (zI (lL (eV a i 0) (eV a i 1) : Nat), g') ∧ jR g' := fun g h1 => k_entry3 (UR_line hU h1) hi
  have e0 : (3 : Int32) * zI i = zI ((3 * i : Nat) : Int) := by
    rw [show (3 : Int32) = zI 3 from rfl, zI_mul]
    congr 1
  have s1 : zl 1000000 (q_L_same_L395 e u (zI i, g)) (0, g) = some g := by
    refine zl_run (fun c => (zI c, g)) (a := ((0 : Int32), g)) (b := g) 3 rfl (by omega) ?_ ?_
    · intro c hc
      unfold q_L_same_L395
      dsimp only
      rw [if_neg (show ¬ (3 : Int32) ≤ zI c from zle_n (x := 3) (zr_s (by omega)) (zr_s (by omega)) (by omega)), k_entry (UR_line hU hg) hi hc, zb_some, e0, zI_k, zg_N (by omega) (by omega), hE i hi c hc]
      dsimp only
      rw [if_pos rfl, zI_1]
    · unfold q_L_same_L395
      dsimp only
      rw [if_pos (show (3 : Int32) ≤ zI (3 : Nat) from zle_p (x := 3) (zr_s (by omega)) (zr_s (by omega)) (by omega))]
  rw [s1, zb_some]
  rw [Nat.add_zero] at hx0
  generalize eV a i 0 = T at *
  generalize eV a i 1 = K at *
  generalize eV a i 2 = S at *
  have hT' : 0 ≤ T ∧ T ≤ 99999 := by omega
  have b1 := nd_b hT'
  have b2 := wln_b hK
  have hLL : lL T K = nd T + wln K + 3 := rfl
  unfold q_L_same_J430
  rw [j_unit (v := (zI i, g)) rfl (by omega) hx0 hT', zb_some]
  unfold q_L_same_J461
  obtain ⟨bb, hb1, hb2, hb3⟩ := zl_rel (B := q_L_same_L461 e u (zI i, g)) (fun p x => x.1 = zI p ∧ x.2.1 = zI (if p < nd T then pw (nd T - 1 - p) else 0) ∧ jR x.2.2) (fun r => r.1 = zI (nd T) ∧ jR r.2) (nd T) (fun p x hp hx => by
    obtain ⟨x1, x2, x3⟩ := x
    obtain ⟨h1, h2, h3⟩ := hx
    dsimp only at h1 h2 h3
    rw [if_pos hp] at h2
    subst h1 h2
    obtain ⟨g', r1, r2⟩ := hla x3 p h3 (by omega)
    have hpw := pw_b (n := nd T - 1 - p) (by omega)
    have htd := td_b hT'.1 (nd T - 1 - p)
    have e1 : zI T / zI (pw (nd T - 1 - p)) = zI (td T (nd T - 1 - p)) := by rw [zI_div (by omega) (by omega), td_pw]
    have e2 : zI (td T (nd T - 1 - p)) - zI (td T (nd T - 1 - p)) / 10 * 10 = zI (td T (nd T - 1 - p) % 10) := by
      have hm : 0 ≤ td T (nd T - 1 - p) % 10 := Int.emod_nonneg _ (by omega)
      rw [show zI (td T (nd T - 1 - p)) - zI (td T (nd T - 1 - p)) / 10 * 10 = _ from zmod 10 (by omega) (by omega)]
      congr 1
      omega
    have e3 : lI T K S p = 48 + td T (nd T - 1 - p) % 10 := by
      unfold lI
      rw [if_pos hp]
    unfold q_L_same_L461
    dsimp only
    rw [if_neg (show ¬ zI (pw (nd T - 1 - p)) ≤ 0 from zle_n (y := 0) (zr_s (by omega)) (zr_s (by omega)) (by omega)), r1, zb_some, e0, zg_N (by omega) (by omega), hx0, zq_t (show ¬ zI (pw (nd T - 1 - p)) = 0 from zeq_n (y := 0) (zr_s (by omega)) (zr_s (by omega)) (by omega)), e1, e2, show ∀ m : Int, (48 : Int32) + zI m = zI (48 + m) from fun m => zI_add 48 m]
    dsimp only
    rw [if_pos (show zI (lI T K S p) = zI (48 + td T (nd T - 1 - p) % 10) by rw [e3])]
    refine ⟨_, rfl, zI_1 p, ?_, r2⟩
    dsimp only
    rw [show zI (pw (nd T - 1 - p)) / 10 = zI (pw (nd T - 1 - p) / 10) from zI_div (y := 10) (by omega) (by omega)]
    congr 1
    by_cases c : p + 1 < nd T
    · rw [if_pos c, show nd T - 1 - p = nd T - 1 - (p + 1) + 1 by omega]
      show 10 * pw (nd T - 1 - (p + 1)) / 10 = _
      omega
    · rw [if_neg c, show nd T - 1 - p = 0 by omega]
      decide) (fun x hx => by
    obtain ⟨x1, x2, x3⟩ := x
    obtain ⟨h1, h2, h3⟩ := hx
    dsimp only at h1 h2 h3
    rw [if_neg (Nat.lt_irrefl _)] at h2
    subst h1 h2
    unfold q_L_same_L461
    dsimp only
    rw [if_pos (show zI 0 ≤ 0 by decide)]
    exact ⟨_, rfl, rfl, h3⟩) 1000000 0 (0, zI (pw (nd T - 1)), g) ⟨rfl, by dsimp only; rw [if_pos (by omega), Nat.sub_zero], hg⟩ (by omega) (by omega)
  rw [hb1, zb_some]
  obtain ⟨bb1, g1⟩ := bb
  dsimp only at hb2 hb3 ⊢
  subst hb2
  unfold q_L_same_J508
  obtain ⟨g2, r1, r2⟩ := hla g1 (nd T) hb3 (by omega)
  have e4 : lI T K S (nd T) = 32 := by
    unfold lI
    rw [if_neg (by omega), if_pos rfl]
  rw [r1, zb_some]
  dsimp only
  rw [if_pos (show zI (lI T K S (nd T)) = 32 by rw [e4]; rfl), zI_1]
  obtain ⟨bb, hc1, hc2, hc3⟩ := zl_rel (B := q_L_same_L529 e u (zI i, g)) (fun j x => x.1 = zI ((nd T + 1 + j : Nat) : Int) ∧ x.2.1 = zI j ∧ jR x.2.2) (fun r => r.1 = zI ((nd T + 1 + wln K : Nat) : Int) ∧ jR r.2) (wln K) (fun j x hj hx => by
    obtain ⟨x1, x2, x3⟩ := x
    obtain ⟨h1, h2, h3⟩ := hx
    dsimp only at h1 h2 h3
    subst h1 h2
    obtain ⟨g', r1, r2⟩ := hla x3 (nd T + 1 + j) h3 (by omega)
    have hw := wch_p hK hj
    have hwb := wch_b hK hj
    have e3 : lI T K S (nd T + 1 + j) = wch K j := by
      unfold lI
      rw [if_neg (by omega), if_neg (by omega), if_pos (by omega), show nd T + 1 + j - nd T - 1 = j by omega]
    unfold q_L_same_L529
    dsimp only
    rw [e0, zI_1, zg_N (by omega) (by omega), hx1, j_letter hK (by omega), zb_some, if_pos hj, if_neg (show ¬ zI (wch K j) ≤ 0 from zle_n (y := 0) (zr_s (by omega)) (zr_s (by omega)) hw), r1, zb_some, zg_N (by omega) (by omega), hx1, j_letter hK (by omega), zb_some, if_pos hj]
    dsimp only
    rw [if_pos (show zI (lI T K S (nd T + 1 + j)) = zI (wch K j) by rw [e3])]
    exact ⟨_, rfl, zI_1 _, zI_1 _, r2⟩) (fun x hx => by
    obtain ⟨x1, x2, x3⟩ := x
    obtain ⟨h1, h2, h3⟩ := hx
    dsimp only at h1 h2 h3
    subst h1 h2
    unfold q_L_same_L529
    dsimp only
    rw [e0, zI_1, zg_N (by omega) (by omega), hx1, j_letter hK (by omega), zb_some, if_neg (Nat.lt_irrefl _), if_pos (show zI 0 ≤ 0 by decide)]
    exact ⟨_, rfl, rfl, h3⟩) 1000000 0 (zI ((nd T + 1 : Nat) : Int), 0, g2) ⟨rfl, rfl, r2⟩ (by omega) (by omega)
  rw [hc1, zb_some]
  obtain ⟨bb1, g3⟩ := bb
  dsimp only at hc2 hc3 ⊢
  subst hc2
  unfold q_L_same_J582
  obtain ⟨g4, s1, s2⟩ := hla g3 (nd T + 1 + wln K) hc3 (by omega)
  obtain ⟨g5, t1, t2⟩ := hla g4 (nd T + 1 + wln K + 1) s2 (by omega)
  obtain ⟨g6, v1, v2⟩ := hln g5 t2
  obtain ⟨g7, w1, w2⟩ := he3 g6 v2
  have e5 : lI T K S (nd T + 1 + wln K) = 32 := by
    unfold lI
    rw [if_neg (by omega), if_neg (by omega), if_neg (by omega), if_pos rfl]
  have e6 : lI T K S (nd T + 1 + wln K + 1) = 48 + S := by
    unfold lI
    rw [if_neg (by omega), if_neg (by omega), if_neg (by omega), if_neg (by omega)]
  have e7 : zI ((nd T + 1 + wln K : Nat) : Int) + 2 = zI (lL T K : Nat) := by
    rw [show zI ((nd T + 1 + wln K : Nat) : Int) + 2 = zI ((nd T + 1 + wln K + 2 : Nat) : Int) from zI_k _ 2]
    congr 2
    omega
  dsimp only
  rw [s1, zb_some]
  dsimp only
  rw [if_pos (show zI (lI T K S (nd T + 1 + wln K)) = 32 by rw [e5]; rfl), zI_1, t1, zb_some, e0, show zI ((3 * i : Nat) : Int) + 2 = zI ((3 * i + 2 : Nat) : Int) from zI_k _ 2, zg_N (by omega) (by omega), hx2, show (48 : Int32) + zI S = zI (48 + S) from zI_add 48 S]
  dsimp only
  rw [if_pos (show zI (lI T K S (nd T + 1 + wln K + 1)) = zI (48 + S) by rw [e6]), e7, v1, zb_some]
  dsimp only
  rw [if_pos rfl, w1, zb_some]
  dsimp only
  rw [if_pos rfl]
  exact ⟨g7, by rw [zI_1], w2⟩
end PZ5
