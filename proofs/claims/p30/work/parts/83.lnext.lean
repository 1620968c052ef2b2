/-! the law's next span: it looks from the last span down, the class from the first up -/
section PZ
variable {a : Nat → Int} {q t l p e : Nat → Int32}
def nv (a : Nat → Int) (s : Nat) : Int := if a 4 = 0 then aAge a s else if a 4 = 1 then aSum a s 9 else if 0 ≤ a 13 then 8 - (s + 7 - a 13) % 8 else 8 - s
def nbg (a : Nat → Int) : Nat → Int × Int
  | 0 => (-6, -1)
  | j + 1 => if aDue a (7 - j) ∧ (nbg a j).2 ≤ nv a (7 - j) then (((7 - j : Nat) : Int), nv a (7 - j)) else nbg a j
theorem nv_b {c : Int} {s : Nat} (h : aI c a) (hs : s < 8) : 0 ≤ nv a s ∧ nv a s ≤ 110000 := by
  have hN := h.2.1
  unfold aN at hN
  have hS := h.2.2.1 s hs
  have hb := aSum_b (s := s) h (mo := 9) (by omega)
  unfold nv aAge
  split
  · omega
  · split
    · omega
    · split <;> omega
theorem nb_inv {c : Int} (h : aI c a) : ∀ j, j ≤ 8 → (nbg a j = (-6, -1) ∧ ∀ s, 8 - j ≤ s → s < 8 → ¬ aDue a s) ∨ ∃ s : Nat, 8 - j ≤ s ∧ s < 8 ∧ nbg a j = ((s : Int), nv a s) ∧ aDue a s ∧ ∀ r, 8 - j ≤ r → r < 8 → aDue a r → nv a r < nv a s ∨ (nv a r = nv a s ∧ s ≤ r) := by
  intro j
  induction j with
  | zero => exact fun _ => Or.inl ⟨rfl, fun s h1 h2 => by omega⟩
  | succ j ih =>
    intro hj
    have hv := nv_b (s := 7 - j) h (by omega)
    have eb : nbg a (j + 1) = if aDue a (7 - j) ∧ (nbg a j).2 ≤ nv a (7 - j) then (((7 - j : Nat) : Int), nv a (7 - j)) else nbg a j := rfl
    rw [eb]
    rcases ih (by omega) with ⟨i1, i2⟩ | ⟨s, i1, i2, i3, i4, i5⟩
    · rw [i1]
      by_cases c1 : aDue a (7 - j)
      · rw [if_pos ⟨c1, by dsimp only; omega⟩]
        refine Or.inr ⟨7 - j, by omega, by omega, rfl, c1, fun r h1 h2 h3 => ?_⟩
        by_cases c2 : r = 7 - j
        · rw [c2]
          exact Or.inr ⟨rfl, Nat.le_refl _⟩
        · exact absurd h3 (i2 r (by omega) h2)
      · rw [if_neg (fun q => c1 q.1)]
        refine Or.inl ⟨rfl, fun s h1 h2 => ?_⟩
        by_cases c2 : s = 7 - j
        · rw [c2]
          exact c1
        · exact i2 s (by omega) h2
    · rw [i3]
      dsimp only
      by_cases c1 : aDue a (7 - j) ∧ nv a s ≤ nv a (7 - j)
      · rw [if_pos c1]
        refine Or.inr ⟨7 - j, by omega, by omega, rfl, c1.1, fun r h1 h2 h3 => ?_⟩
        by_cases c2 : r = 7 - j
        · rw [c2]
          exact Or.inr ⟨rfl, Nat.le_refl _⟩
        · have := i5 r (by omega) h2 h3
          omega
      · rw [if_neg c1]
        refine Or.inr ⟨s, by omega, i2, rfl, i4, fun r h1 h2 h3 => ?_⟩
        by_cases c2 : r = 7 - j
        · rw [c2] at h3 ⊢
          have : ¬ nv a s ≤ nv a (7 - j) := fun w => c1 ⟨h3, w⟩
          omega
        · exact i5 r (by omega) h2 h3
theorem nv_spn {c : Int} {k : Nat} (h : aI c a) (h4 : a 4 = 2) (hk : k < 8) : nv a (aSpn a k) = 8 - k := by
  have hN := h.2.1
  unfold aN at hN
  unfold nv aSpn
  rw [if_pos h4, if_neg (by omega), if_neg (by omega)]
  by_cases c1 : a 13 = -6
  · rw [if_pos c1, if_neg (by omega)]
    omega
  · rw [if_neg c1, if_pos (by omega)]
    omega
theorem spn_2 (a : Nat → Int) {k : Nat} (h4 : a 4 ≠ 2) : aSpn a k = k := by
  unfold aSpn
  rw [if_neg h4]
theorem bet_nv {c : Int} {i k : Nat} (h : aI c a) (hi : i < k) (hk : k < 8) : aBetter a (aSpn a k) (aSpn a i : Nat) ↔ nv a (aSpn a i) < nv a (aSpn a k) := by
  have hN := h.2.1
  unfold aN at hN
  have e9 : (((aSpn a i : Nat) : Int)).toNat = aSpn a i := Int.toNat_natCast _
  unfold aBetter
  rw [e9]
  by_cases c1 : a 4 = 0
  · unfold nv
    rw [if_pos c1, if_pos c1]
    omega
  · by_cases c2 : a 4 = 1
    · unfold nv
      rw [if_neg c1, if_neg c1, if_pos c2, if_pos c2]
      omega
    · rw [nv_spn h (by omega) hk, nv_spn h (by omega) (by omega)]
      omega
theorem bd_inv {c : Int} (h : aI c a) : ∀ k, k ≤ 8 → (bd a k = -6 ∧ ∀ j, j < k → ¬ aDue a (aSpn a j)) ∨ ∃ i : Nat, i < k ∧ bd a k = (aSpn a i : Nat) ∧ aDue a (aSpn a i) ∧ ∀ j, j < k → aDue a (aSpn a j) → nv a (aSpn a j) < nv a (aSpn a i) ∨ (nv a (aSpn a j) = nv a (aSpn a i) ∧ i ≤ j) := by
  intro k
  induction k with
  | zero => exact fun _ => Or.inl ⟨rfl, fun j hj => by omega⟩
  | succ k ih =>
    intro hk
    have eb : bd a (k + 1) = if aDue a (aSpn a k) ∧ aBetter a (aSpn a k) (bd a k) then (aSpn a k : Int) else bd a k := rfl
    rw [eb]
    rcases ih (by omega) with ⟨i1, i2⟩ | ⟨i, i1, i2, i3, i4⟩
    · by_cases c1 : aDue a (aSpn a k)
      · rw [if_pos ⟨c1, Or.inl i1⟩]
        refine Or.inr ⟨k, by omega, rfl, c1, fun j h1 h2 => ?_⟩
        by_cases c2 : j = k
        · rw [c2]
          exact Or.inr ⟨rfl, Nat.le_refl _⟩
        · exact absurd h2 (i2 j (by omega))
      · rw [if_neg (fun q => c1 q.1)]
        refine Or.inl ⟨i1, fun j h1 => ?_⟩
        by_cases c2 : j = k
        · rw [c2]
          exact c1
        · exact i2 j (by omega)
    · have hbt := bet_nv h i1 (show k < 8 by omega)
      rw [i2]
      by_cases c1 : aDue a (aSpn a k) ∧ aBetter a (aSpn a k) (aSpn a i : Nat)
      · rw [if_pos c1]
        have h9 := hbt.mp c1.2
        refine Or.inr ⟨k, by omega, rfl, c1.1, fun j h1 h2 => ?_⟩
        by_cases c2 : j = k
        · rw [c2]
          exact Or.inr ⟨rfl, Nat.le_refl _⟩
        · have := i4 j (by omega) h2
          omega
      · rw [if_neg c1]
        refine Or.inr ⟨i, by omega, rfl, i3, fun j h1 h2 => ?_⟩
        by_cases c2 : j = k
        · rw [c2] at h2 ⊢
          have h9 : ¬ nv a (aSpn a i) < nv a (aSpn a k) := fun w => c1 ⟨h2, hbt.mpr w⟩
          omega
        · exact i4 j (by omega) h2
theorem spn_ex (h13 : a 13 = -6 ∨ 0 ≤ a 13 ∧ a 13 ≤ 7) {r : Nat} (hr : r < 8) : ∃ j, j < 8 ∧ aSpn a j = r := by
  by_cases c1 : a 4 = 2
  · by_cases c2 : a 13 = -6
    · refine ⟨r, hr, ?_⟩
      unfold aSpn
      rw [if_pos c1, if_pos c2]
      omega
    · refine ⟨((r + 7 - a 13) % 8).toNat, by omega, ?_⟩
      unfold aSpn
      rw [if_pos c1, if_neg c2]
      omega
  · exact ⟨r, hr, spn_2 a c1⟩
theorem nb_bd {c : Int} (h : aI c a) : (nbg a 8).1 = bd a 8 := by
  have hN := h.2.1
  unfold aN at hN
  have h13 : a 13 = -6 ∨ 0 ≤ a 13 ∧ a 13 ≤ 7 := by omega
  rcases bd_inv h 8 (by omega) with ⟨i1, i2⟩ | ⟨i, i1, i2, i3, i4⟩
  · rcases nb_inv h 8 (by omega) with ⟨j1, j2⟩ | ⟨s, j1, j2, j3, j4, j5⟩
    · rw [j1, i1]
    · obtain ⟨j, hj, ej⟩ := spn_ex h13 j2
      exact absurd (ej ▸ j4) (i2 j hj)
  · have hs := aSpn_lt a (k := i) i1 h13
    rcases nb_inv h 8 (by omega) with ⟨j1, j2⟩ | ⟨s, j1, j2, j3, j4, j5⟩
    · exact absurd i3 (j2 _ (by omega) hs)
    · obtain ⟨j, hj, ej⟩ := spn_ex h13 j2
      have k1 := i4 j hj (by rw [ej]; exact j4)
      have k2 := j5 (aSpn a i) (by omega) hs i3
      rw [j3, i2]
      dsimp only
      congr 1
      rw [ej] at k1
      have k3 : nv a s = nv a (aSpn a i) := by omega
      by_cases c1 : a 4 = 2
      · rw [← ej, nv_spn h c1 hj, nv_spn h c1 i1] at k3
        rw [← ej]
        congr 1
        omega
      · have e1 := spn_2 a (k := j) c1
        have e2 := spn_2 a (k := i) c1
        rw [e1] at ej
        rw [e2] at k1 k2 ⊢
        omega
theorem j_next {c : Int} (h : aI c a) (hQ : vQ q a) (hT : vT t a) (hL : vL l a) (hP : vP p a) : q_L_next q t l p = some (zI (aNext a)) := by
  have hr := h.1
  have hN := h.2.1
  unfold aN at hN
  have h8 := hQ 8 (by omega)
  unfold q_L_next aNext
  by_cases c1 : a 8 ≤ 0
  · rw [h8, if_pos (show zI (a 8) ≤ 0 from zle_p (y := 0) (hr 8) (zr_s (by omega)) c1), if_pos c1]
    unfold aBest
    rw [← nb_bd h]
    have hb : ∀ j, j ≤ 8 → (-6 ≤ (nbg a j).1 ∧ (nbg a j).1 ≤ 7) ∧ -1 ≤ (nbg a j).2 ∧ (nbg a j).2 ≤ 110000 := fun j hj => by
      rcases nb_inv h j hj with ⟨i1, i2⟩ | ⟨s, i1, i2, i3, i4, i5⟩
      · rw [i1]
        dsimp only
        omega
      · have := nv_b (s := s) h i2
        rw [i3]
        dsimp only
        omega
    rw [zl_run (fun j => (zI (nbg a j).1, zI (nbg a j).2, zI (7 - (j : Int)))) (a := ((-6 : Int32), (-1 : Int32), (7 : Int32))) (b := zI (nbg a 8).1) 8 ?_ (by omega) ?_ ?_, zb_some]
    · show (zI (-6), zI (-1), zI (7 - ((0 : Nat) : Int))) = _
      rw [← z6, ← zm1]
      rfl
    · intro j hj
      have hv := nv_b (s := 7 - j) h (by omega)
      obtain ⟨hb1, hb2⟩ := hb j (by omega)
      have hS := h.2.2.1 (7 - j) (by omega)
      have es : zI (7 - (j : Int)) = zI ((7 - j : Nat) : Int) := by congr 1; omega
      have ed : zI (7 - (j : Int)) + (-1) = zI (7 - ((j + 1 : Nat) : Int)) := by
        rw [zm1, zI_add]
        congr 1
        omega
      have eb : nbg a (j + 1) = if aDue a (7 - j) ∧ (nbg a j).2 ≤ nv a (7 - j) then (((7 - j : Nat) : Int), nv a (7 - j)) else nbg a j := rfl
      have key : aDue a (7 - j) → q_L_next_J112 (zI (nbg a j).1, zI (nbg a j).2, zI (7 - (j : Int))) (zI (nv a (7 - j))) = some (Sum.inl (zI (nbg a (j + 1)).1, zI (nbg a (j + 1)).2, zI (7 - ((j + 1 : Nat) : Int)))) := by
        intro hd
        unfold q_L_next_J112 zn
        dsimp only
        rw [ed, eb]
        by_cases c2 : (nbg a j).2 ≤ nv a (7 - j)
        · rw [if_neg (show ¬ zI (nv a (7 - j)) < zI (nbg a j).2 from zlt_n (zr_s (by omega)) (zr_s (by omega)) c2), if_pos ⟨hd, c2⟩, es]
        · rw [if_pos (show zI (nv a (7 - j)) < zI (nbg a j).2 from zlt_p (zr_s (by omega)) (zr_s (by omega)) (by omega)), if_neg (fun q => c2 q.2)]
      unfold q_L_next_L22
      dsimp only
      rw [if_neg (show ¬ zI (7 - (j : Int)) < 0 from zlt_n (y := 0) (zr_s (by omega)) (zr_s (by omega)) (by omega)), es, zg_N (by omega) (by omega), hT (7 - j) (by omega), hQ 19 (by omega), hQ 0 (by omega), hQ 4 (by omega), hQ 13 (by omega), show zI (a 19) / 2 = zI (a 19 / 2) from zI_div (y := 2) (by omega) (by omega), zI_sub, ← es]
      by_cases c2 : a 19 / 2 ≤ a 0 - a (20 + (7 - j))
      · have hd : aDue a (7 - j) := c2
        rw [if_pos (zle_p (zr_s (by omega)) (zr_s (by omega)) c2), ← key hd]
        unfold nv
        by_cases c3 : a 4 = 0
        · rw [if_pos (show zI (a 4) = 0 by rw [c3]; rfl), if_pos c3]
          rfl
        · rw [if_neg (show ¬ zI (a 4) = 0 from zeq_n (y := 0) (hr 4) (zr_s (by omega)) c3), if_neg c3]
          by_cases c4 : a 4 = 1
          · rw [if_pos (show zI (a 4) = 1 by rw [c4]; rfl), if_pos c4, es, show q_L_sum q p (zI ((7 - j : Nat) : Int)) 9 = _ from j_sum (mo := 9) h (zr_s (by omega)) (zr_s (by omega)) hQ hP, zb_some]
          · rw [if_neg (show ¬ zI (a 4) = 1 from zeq_n (y := 1) (hr 4) (zr_s (by omega)) c4), if_neg c4]
            by_cases c5 : 0 ≤ a 13
            · have hm : 0 ≤ (((7 - j : Nat) : Int) + 7 - a 13) % 8 := Int.emod_nonneg _ (by omega)
              rw [if_pos (show 0 ≤ zI (a 13) from zle_p (x := 0) (zr_s (by omega)) (hr 13) c5), if_pos c5, es, show zI ((7 - j : Nat) : Int) + 7 = zI (((7 - j : Nat) : Int) + 7) from zI_add _ 7, zI_sub, show zI (((7 - j : Nat) : Int) + 7 - a 13) - zI (((7 - j : Nat) : Int) + 7 - a 13) / 8 * 8 = _ from zmod 8 (by omega) (by omega), show ∀ m : Int, (8 : Int32) - zI m = zI (8 - m) from fun m => zI_sub 8 m]
              congr 2
              omega
            · rw [if_neg (show ¬ 0 ≤ zI (a 13) from zle_n (x := 0) (zr_s (by omega)) (hr 13) (by omega)), if_neg c5, es, show ∀ m : Int, (8 : Int32) - zI m = zI (8 - m) from fun m => zI_sub 8 m]
      · have hd : ¬ aDue a (7 - j) := c2
        unfold zn
        rw [if_neg (zle_n (zr_s (by omega)) (zr_s (by omega)) (by omega)), ed, eb, if_neg (fun q => hd q.1)]
    · unfold q_L_next_L22
      dsimp only
      rw [if_pos (show zI (7 - ((8 : Nat) : Int)) < 0 from zlt_p (y := 0) (zr_s (by omega)) (zr_s (by omega)) (by omega))]
  · rw [h8, if_neg (show ¬ zI (a 8) ≤ 0 from zle_n (y := 0) (hr 8) (zr_s (by omega)) (by omega)), if_neg c1, hL 0 (by omega)]
end PZ
