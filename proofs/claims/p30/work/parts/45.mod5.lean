/-! the model: what a tick keeps -/
theorem aI_mono {a : Nat → Int} {c c' : Int} (h : aI c a) (hc : c' ≤ c) : aI c' a := by
  obtain ⟨hr, hN, h3⟩ := h
  refine ⟨hr, ?_, h3⟩
  unfold aN at hN ⊢
  omega
/-- a new row that has only numbers changed -/
theorem aI_num {a b : Nat → Int} {c c' : Int} (h : aI c a) (hN : aN c' b) (hr : ∀ i, zr (b i)) (h0 : a 0 ≤ b 0) (e2 : b 2 = a 2) (e8 : b 8 = a 8) (e14 : b 14 = a 14) (e : ∀ i, 20 ≤ i → i < 104 → b i = a i) : aI c' b := by
  obtain ⟨-, hN0, hS, hL, hP, hE⟩ := h
  unfold aN at hN0
  exact ⟨hr, hN, aS_of hS h0 (fun k hk => e _ (by omega) (by omega)), aL_of hL e8 (by omega) (fun k hk => e _ (by omega) (by omega)), aP_of hP e2 (by omega) (fun i h1 h2 => e i (by omega) (by omega)), aE_of hE h0 e14 (fun i h1 h2 => e i (by omega) h2)⟩
section PM5
variable {a : Nat → Int} {r : (Nat → Int32) × (Nat → Int32) × Int32 × (Nat → Int32) × Int32 × Int32 × Int32 × Int32 × Int32 × Int32}
def okS (b : Nat → Int) (j : Nat) : Prop := (0 ≤ b (34 + 2 * j) ∧ b (34 + 2 * j) ≤ 7) ∧ 1 ≤ b (34 + 2 * j + 1) ∧ b (34 + 2 * j + 1) ≤ 9
theorem ePut_ne {b : Nat → Int} {n : Nat} {s t : Int} {i : Nat} (h : i < 34 + 2 * n ∨ 34 + 2 * n + 1 < i) : ePut b n s t i = b i := by
  unfold ePut
  rw [up_ne _ _ (by omega), up_ne _ _ (by omega)]
theorem ePut_0 {b : Nat → Int} {n : Nat} {s t : Int} : ePut b n s t (34 + 2 * n) = s := by
  unfold ePut
  rw [up_ne _ _ (by omega), up_at]
theorem ePut_1 {b : Nat → Int} {n : Nat} {s t : Int} : ePut b n s t (34 + 2 * n + 1) = t := up_at _ _ _
theorem okS_put {b w : Nat → Int} {n : Nat} {s t : Int} (hw : ∀ i, 34 ≤ i → i < 74 → w i = b i) (h : ∀ j, j < n → okS b j) (hs : 0 ≤ s ∧ s ≤ 7) (ht : 1 ≤ t ∧ t ≤ 9) (hn : n < 20) : ∀ j, j < n + 1 → okS (ePut w n s t) j := by
  intro j hj
  by_cases c : j = n
  · subst c
    unfold okS
    rw [ePut_0, ePut_1]
    omega
  · have := h j (by omega)
    unfold okS at this ⊢
    rw [ePut_ne (by omega), ePut_ne (by omega), hw _ (by omega) (by omega), hw _ (by omega) (by omega)]
    exact this
theorem aE_put {b : Nat → Int} {n : Nat} {s t : Int} (h : aE b) (hn : n < 20) : aE (ePut b n s t) := aE_of h (by rw [ePut_ne (by omega)]; omega) (ePut_ne (by omega)) (fun i h1 h2 => ePut_ne (by omega))
theorem aE_rep {b : Nat → Int} {sp : Int} (h : aE b) (h14 : 0 ≤ b 14) (h0 : 0 ≤ b 0) (hs : 0 ≤ sp ∧ sp ≤ 7) : aE (eRep b sp) := by
  have e : ∀ i, i ≠ 3 → i ≠ 11 → eRep b sp i = aLogs b 4 sp i := fun i h1 h2 => by
    unfold eRep
    rw [up_ne _ _ h2, up_ne _ _ h1]
  exact aE_of (aE_logs h h14 h0 (k := 4) (by omega) hs) (by rw [e 0 (by omega) (by omega)]; omega) (e 14 (by omega) (by omega)) (fun i h1 h2 => e i (by omega) (by omega))
theorem eStep_inv2 {sp : Int} {b : Nat → Int} {n k : Nat} (h14 : 0 ≤ b 14) (h0 : 0 ≤ b 0) (hE : aE b) (hb : b 18 ≤ 9) (hk : okS b k) (ho : ∀ j, j < n → okS b j) (hsp : 0 ≤ sp ∧ sp ≤ 7) (hn : n ≤ k) (hk2 : k < 20) : aE (eStep sp k (n, b)).2 ∧ ∀ j, j < (eStep sp k (n, b)).1 → okS (eStep sp k (n, b)).2 j := by
  have hk' := hk
  unfold okS at hk'
  have lo : ∀ m : Int, ∀ i, 34 ≤ i → i < 74 → aLogs b m sp i = b i := fun m i h1 h2 => aLogs_lo b m sp h2 (by omega)
  unfold eStep
  dsimp only
  split
  · split
    · split
      · refine ⟨aE_rep hE h14 h0 hsp, fun j hj => ?_⟩
        have := ho j hj
        unfold okS at this ⊢
        have e : ∀ i, 34 ≤ i → i < 74 → eRep b sp i = b i := fun i h1 h2 => by
          unfold eRep
          rw [up_ne _ _ (by omega), up_ne _ _ (by omega)]
          exact lo 4 i h1 h2
        dsimp only at hj ⊢
        rw [e _ (by omega) (by omega), e _ (by omega) (by omega)]
        exact this
      · exact ⟨aE_put (aE_logs hE h14 h0 (k := 5) (by omega) hsp) (by omega), okS_put (lo 5) ho (by omega) (by omega) (by omega)⟩
    · exact ⟨aE_put hE (by omega), okS_put (fun i _ _ => rfl) ho (by omega) (by omega) (by omega)⟩
  · exact ⟨aE_put hE (by omega), okS_put (fun i _ _ => rfl) ho (by omega) (by omega) (by omega)⟩
/-- the loop over the spots, its first k rounds -/
theorem eLoop_inv {sp : Int} {b : Nat → Int} (hr : ∀ i, zr (b i)) (h14 : 0 ≤ b 14 ∧ b 14 + 20 < 3000000) (h0 : 0 ≤ b 0) (h3 : 0 ≤ b 3 ∧ b 3 ≤ 50) (h11 : 0 ≤ b 11 ∧ b 11 ≤ b 14) (h2 : 0 ≤ b 2 ∧ b 2 ≤ 20) (hb : b 18 ≤ 9) (hE : aE b) (hP : aP b) (hsp : 0 ≤ sp ∧ sp ≤ 7) : ∀ k : Nat, (k : Int) ≤ b 2 →
    ((eLoop sp b k).1 ≤ k ∧ (∀ i, zr ((eLoop sp b k).2 i)) ∧ (b 14 ≤ (eLoop sp b k).2 14 ∧ (eLoop sp b k).2 14 ≤ b 14 + k) ∧ (0 ≤ (eLoop sp b k).2 3 ∧ (eLoop sp b k).2 3 ≤ b 3) ∧ (0 ≤ (eLoop sp b k).2 11 ∧ (eLoop sp b k).2 11 ≤ (eLoop sp b k).2 14) ∧ (∀ i, i < 34 → i ≠ 3 → i ≠ 11 → i ≠ 14 → (eLoop sp b k).2 i = b i) ∧ (∀ i, 34 + 2 * k ≤ i → i < 74 → (eLoop sp b k).2 i = b i)) ∧ aE (eLoop sp b k).2 ∧ ∀ j, j < (eLoop sp b k).1 → okS (eLoop sp b k).2 j := by
  intro k
  induction k with
  | zero => exact fun _ => ⟨⟨Nat.le_refl 0, hr, by show b 14 ≤ b 14 ∧ b 14 ≤ b 14 + (0 : Nat); omega, by show 0 ≤ b 3 ∧ b 3 ≤ b 3; omega, h11, fun i _ _ _ _ => rfl, fun i _ _ => rfl⟩, hE, fun j hj => absurd hj (Nat.not_lt_zero j)⟩
  | succ k ih =>
    intro hk
    obtain ⟨⟨i1, i2, i3, i4, i5, i6, i7⟩, i8, i9⟩ := ih (by omega)
    have hpk := hP k (by omega)
    have e1 := i7 (34 + 2 * k) (by omega) (by omega)
    have e2 := i7 (34 + 2 * k + 1) (by omega) (by omega)
    have e18 := i6 18 (by omega) (by omega) (by omega) (by omega)
    have e0 := i6 0 (by omega) (by omega) (by omega) (by omega)
    obtain ⟨j1, -, j2, j3, j4, j5, j6, j7⟩ := eStep_inv (sp := sp) (b := (eLoop sp b k).2) (n := (eLoop sp b k).1) (k := k) i2 (by omega) (by omega) i5 (by rw [e2]; omega) hsp i1 (by omega)
    obtain ⟨j8, j9⟩ := eStep_inv2 (sp := sp) (b := (eLoop sp b k).2) (n := (eLoop sp b k).1) (k := k) (by omega) (by omega) i8 (by omega) (by unfold okS; rw [e1, e2]; exact hpk) i9 hsp i1 (by omega)
    have ee : eLoop sp b (k + 1) = eStep sp k ((eLoop sp b k).1, (eLoop sp b k).2) := rfl
    rw [ee]
    refine ⟨⟨j1, j2, by omega, by omega, j5, fun i h1 h2 h3 h4 => (j6 i h1 h2 h3 h4).trans (i6 i h1 h2 h3 h4), fun i h1 h2 => (j7 i h1 h2).trans (i7 i (by omega) h2)⟩, j8, j9⟩
def zr0 (b : Nat → Int) (n j : Nat) : Nat → Int := fun i => if 34 + 2 * n ≤ i ∧ i < 34 + 2 * n + 2 * j then 0 else b i
def aEnd0 (a : Nat → Int) : Nat → Int := aLogs (up (up (up (aStop a) (20 + (a 5).toNat) (a 0)) 13 (a 5)) 9 (a 9 + 1)) 3 (a 5)
noncomputable def aEnd1 (a : Nat → Int) : Nat × (Nat → Int) := eLoop (a 5) (aEnd0 a) (a 2).toNat
noncomputable def aEnd (a : Nat → Int) : Nat → Int := zr0 (up (aEnd1 a).2 2 (aEnd1 a).1) (aEnd1 a).1 ((a 2).toNat - (aEnd1 a).1)
theorem aEnd0_lo (a : Nat → Int) {i : Nat} (h5 : 0 ≤ a 5 ∧ a 5 ≤ 7) (h : i < 74) (h14 : i ≠ 14) : aEnd0 a i = if i = 9 then a 9 + 1 else if i = 13 then a 5 else if i = 20 + (a 5).toNat then a 0 else if i = 7 then 0 else if i = 6 then 0 else if i = 5 then -6 else a i := by
  unfold aEnd0
  rw [aLogs_lo _ _ _ h h14]
  rfl
theorem aEnd0_14 (a : Nat → Int) : aEnd0 a 14 = a 14 + 1 := by
  unfold aEnd0
  rw [aLogs_14, up_ne _ _ (by omega), up_ne _ _ (by omega), up_ne _ _ (by omega)]
  unfold aStop
  rw [up_ne _ _ (by omega), up_ne _ _ (by omega), up_ne _ _ (by omega)]
theorem aI_end0 {c : Int} (h : aI (c + 1) a) (hc : 0 ≤ c) (h5 : 0 ≤ a 5 ∧ a 5 ≤ 7) : aI c (aEnd0 a) := by
  obtain ⟨hr, hN, hS, hL, hP, hE⟩ := h
  have hN' := hN
  unfold aN at hN'
  have e14 := aEnd0_14 a
  have e : ∀ i, i < 74 → i ≠ 14 → i ≠ 9 → i ≠ 13 → (i < 20 ∨ 28 ≤ i) → i ≠ 7 → i ≠ 6 → i ≠ 5 → aEnd0 a i = a i := fun i h1 h2 h3 h4 h5' h6 h7 h8 => by
    rw [aEnd0_lo a h5 h1 h2, if_neg h3, if_neg h4, if_neg (by omega), if_neg h6, if_neg h7, if_neg h8]
  have e9 : aEnd0 a 9 = a 9 + 1 := by rw [aEnd0_lo a h5 (by omega) (by omega), if_pos rfl]
  have e13 : aEnd0 a 13 = a 5 := by rw [aEnd0_lo a h5 (by omega) (by omega), if_neg (by omega), if_pos rfl]
  have e7 : aEnd0 a 7 = 0 := by rw [aEnd0_lo a h5 (by omega) (by omega), if_neg (by omega), if_neg (by omega), if_neg (by omega), if_pos rfl]
  have e6 : aEnd0 a 6 = 0 := by rw [aEnd0_lo a h5 (by omega) (by omega), if_neg (by omega), if_neg (by omega), if_neg (by omega), if_neg (by omega), if_pos rfl]
  have e5 : aEnd0 a 5 = -6 := by rw [aEnd0_lo a h5 (by omega) (by omega), if_neg (by omega), if_neg (by omega), if_neg (by omega), if_neg (by omega), if_neg (by omega), if_pos rfl]
  have hrs : ∀ i, zr (aStop a i) := zr_up (zr_up (zr_up hr _ (zr_s (by omega))) _ (zr_s (by omega))) _ (zr_s (by omega))
  have es : ∀ i, i ≠ 5 → i ≠ 6 → i ≠ 7 → aStop a i = a i := fun i h1 h2 h3 => by
    unfold aStop
    rw [up_ne _ _ h3, up_ne _ _ h2, up_ne _ _ h1]
  refine ⟨?_, ?_, ?_, aL_of hL (e 8 (by omega) (by omega) (by omega) (by omega) (by omega) (by omega) (by omega) (by omega)) (by omega) (fun k hk => e _ (by omega) (by omega) (by omega) (by omega) (by omega) (by omega) (by omega) (by omega)), aP_of hP (e 2 (by omega) (by omega) (by omega) (by omega) (by omega) (by omega) (by omega) (by omega)) (by omega) (fun i h1 h2 => e _ (by omega) (by omega) (by omega) (by omega) (by omega) (by omega) (by omega) (by omega)), ?_⟩
  · refine zr_aLogs (zr_up (zr_up (zr_up hrs _ (hr 0)) _ (hr 5)) _ (zr_s (by omega))) (zr_s (by omega)) (hr 5) ?_
    rw [up_ne _ _ (by omega), up_ne _ _ (by omega), up_ne _ _ (by omega), es 14 (by omega) (by omega) (by omega)]
    exact zr_s (by omega)
  · unfold aN
    rw [e14, e9, e13, e7, e6, e5, e 0 (by omega) (by omega) (by omega) (by omega) (by omega) (by omega) (by omega) (by omega), e 1 (by omega) (by omega) (by omega) (by omega) (by omega) (by omega) (by omega) (by omega), e 2 (by omega) (by omega) (by omega) (by omega) (by omega) (by omega) (by omega) (by omega), e 3 (by omega) (by omega) (by omega) (by omega) (by omega) (by omega) (by omega) (by omega), e 4 (by omega) (by omega) (by omega) (by omega) (by omega) (by omega) (by omega) (by omega), e 8 (by omega) (by omega) (by omega) (by omega) (by omega) (by omega) (by omega) (by omega), e 10 (by omega) (by omega) (by omega) (by omega) (by omega) (by omega) (by omega) (by omega), e 11 (by omega) (by omega) (by omega) (by omega) (by omega) (by omega) (by omega) (by omega), e 12 (by omega) (by omega) (by omega) (by omega) (by omega) (by omega) (by omega) (by omega), e 15 (by omega) (by omega) (by omega) (by omega) (by omega) (by omega) (by omega) (by omega), e 16 (by omega) (by omega) (by omega) (by omega) (by omega) (by omega) (by omega) (by omega), e 17 (by omega) (by omega) (by omega) (by omega) (by omega) (by omega) (by omega) (by omega), e 18 (by omega) (by omega) (by omega) (by omega) (by omega) (by omega) (by omega) (by omega), e 19 (by omega) (by omega) (by omega) (by omega) (by omega) (by omega) (by omega) (by omega)]
    omega
  · intro k hk
    have hk1 := hS k hk
    rw [e 0 (by omega) (by omega) (by omega) (by omega) (by omega) (by omega) (by omega) (by omega), aEnd0_lo a h5 (by omega) (by omega), if_neg (by omega), if_neg (by omega)]
    split
    · omega
    · rw [if_neg (by omega), if_neg (by omega), if_neg (by omega)]
      exact hk1
  · refine aE_logs (a := up (up (up (aStop a) (20 + (a 5).toNat) (a 0)) 13 (a 5)) 9 (a 9 + 1)) (aE_of hE ?_ ?_ ?_) ?_ ?_ (by omega) h5
    · rw [up_ne _ _ (by omega), up_ne _ _ (by omega), up_ne _ _ (by omega), es 0 (by omega) (by omega) (by omega)]
      omega
    · rw [up_ne _ _ (by omega), up_ne _ _ (by omega), up_ne _ _ (by omega), es 14 (by omega) (by omega) (by omega)]
    · intro i h1 h2
      rw [up_ne _ _ (by omega), up_ne _ _ (by omega), up_ne _ _ (by omega), es i (by omega) (by omega) (by omega)]
    · rw [up_ne _ _ (by omega), up_ne _ _ (by omega), up_ne _ _ (by omega), es 14 (by omega) (by omega) (by omega)]
      omega
    · rw [up_ne _ _ (by omega), up_ne _ _ (by omega), up_ne _ _ (by omega), es 0 (by omega) (by omega) (by omega)]
      omega
end PM5
