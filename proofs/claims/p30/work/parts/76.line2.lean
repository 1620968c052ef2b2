/-! class and model side by side: entry, lineAt -/
section PN
variable {u : tX6} {x y : Int32} {a : Nat → Int} {r : (Nat → Int32) × (Nat → Int32) × Int32 × (Nat → Int32) × Int32 × Int32 × Int32 × Int32 × Int32 × Int32}
def wch (K : Int) (j : Nat) : Int := (zSB (K.toNat - 1) j).toInt
def wln (K : Int) : Nat := zSL (K.toNat - 1)
def lI (T K S : Int) (p : Nat) : Int := if p < nd T then 48 + td T (nd T - 1 - p) % 10 else if p = nd T then 32 else if p < nd T + 1 + wln K then wch K (p - nd T - 1) else if p = nd T + 1 + wln K then 32 else 48 + S
def lL (T K : Int) : Nat := nd T + wln K + 3
def eV (a : Nat → Int) (i k : Nat) : Int := a (74 + 3 * aAt a i + k)
theorem k6 {K : Int} (h : 1 ≤ K ∧ K ≤ 6) : K = 1 ∨ K = 2 ∨ K = 3 ∨ K = 4 ∨ K = 5 ∨ K = 6 := by omega
theorem wln_b {K : Int} (h : 1 ≤ K ∧ K ≤ 6) : 4 ≤ wln K ∧ wln K ≤ 8 := by
  rcases k6 h with rfl | rfl | rfl | rfl | rfl | rfl <;> decide +kernel
theorem z_wordOf {K : Int} (h : 1 ≤ K ∧ K ≤ 6) : q_X6_wordOf (zI K) = some (K.toNat - 1) := by
  rcases k6 h with rfl | rfl | rfl | rfl | rfl | rfl <;> decide +kernel
theorem z_wcbF : ∀ K : Fin 6, ∀ q : Fin 8, (q : Nat) < zSL K → 0 ≤ (zSB K q).toInt ∧ (zSB K q).toInt < 128 := by decide +kernel
theorem wch_b {K : Int} {q : Nat} (h : 1 ≤ K ∧ K ≤ 6) (hq : q < wln K) : 0 ≤ wch K q ∧ wch K q < 128 := by
  have hb := wln_b h
  exact z_wcbF ⟨K.toNat - 1, by omega⟩ ⟨q, by omega⟩ hq
theorem aAt_b {i : Nat} (h : 0 ≤ a 14) (hi : (i : Int) < aMany a) : aAt a i < 10 ∧ (aAt a i : Int) < a 14 := by
  unfold aMany at hi
  unfold aAt aMany
  split at hi <;> rename_i c
  · rw [if_pos c]; omega
  · rw [if_neg c]; omega
theorem eV_b {i : Nat} (h : aI 0 a) (hi : (i : Int) < aMany a) : (0 ≤ eV a i 0 ∧ eV a i 0 ≤ a 0) ∧ (1 ≤ eV a i 1 ∧ eV a i 1 ≤ 6) ∧ (0 ≤ eV a i 2 ∧ eV a i 2 ≤ 7) := by
  have hN := h.2.1
  unfold aN at hN
  obtain ⟨h1, h2⟩ := aAt_b (by omega) hi
  exact h.2.2.2.2.2 _ h1 h2
theorem z_fmF : ∀ q : Fin 30, q_J9_floorMod_7cf53 (zI (((q : Nat) : Int) - 15)) 10 = some (zI ((((q : Nat) : Int) - 15) % 10)) := by decide +kernel
theorem c_logPlace {g : tX3} {i : Nat} (h : 0 ≤ a 14) (hi : (i : Int) < aMany a) (hR : lR g a) : q_X3_placeOf g (zI i) = some (zI (aAt a i : Nat)) := by
  have hx : -15 ≤ nx (a 14) - mn (a 14) + i ∧ nx (a 14) - mn (a 14) + i < 15 ∧ (nx (a 14) - mn (a 14) + i) % 10 = (aAt a i : Nat) := by
    unfold aMany at hi
    unfold nx mn aAt aMany
    by_cases c1 : 10 ≤ a 14
    · rw [if_pos c1] at hi ⊢
      rw [if_neg (show ¬ a 14 = 0 by omega), if_neg (show ¬ a 14 < 10 by omega)]
      omega
    · rw [if_neg c1] at hi ⊢
      rw [if_pos (show a 14 < 10 by omega)]
      by_cases c2 : a 14 = 0
      · rw [if_pos c2]; omega
      · rw [if_neg c2]; omega
  unfold q_X3_placeOf
  rw [hR.2.1, hR.2.2, zI_sub, zI_add]
  generalize nx (a 14) - mn (a 14) + i = q at hx
  have := z_fmF ⟨(q + 15).toNat, by omega⟩
  dsimp only at this
  rw [show (((q + 15).toNat : Nat) : Int) - 15 = q by omega, hx.2.2] at this
  rw [this, zb_some]
theorem c_tickAt {g : tX3} {i : Nat} (h : 0 ≤ a 14) (hi : (i : Int) < aMany a) (hR : lR g a) : q_X3_tickAt g (zI i) = some (zI (eV a i 0)) := by
  obtain ⟨h1, h2⟩ := aAt_b h hi
  unfold q_X3_tickAt
  rw [c_logPlace h hi hR, zb_some, zg_N h1 (by omega), (hR.1 _ h1).1]
  rfl
theorem c_kindAt {g : tX3} {i : Nat} (h : 0 ≤ a 14) (hi : (i : Int) < aMany a) (hR : lR g a) : q_X3_kindAt g (zI i) = some (zI (eV a i 1)) := by
  obtain ⟨h1, h2⟩ := aAt_b h hi
  unfold q_X3_kindAt
  rw [c_logPlace h hi hR, zb_some, zg_N h1 (by omega), (hR.1 _ h1).2.1]
  rfl
theorem c_spanAt {g : tX3} {i : Nat} (h : 0 ≤ a 14) (hi : (i : Int) < aMany a) (hR : lR g a) : q_X3_spanAt g (zI i) = some (zI (eV a i 2)) := by
  obtain ⟨h1, h2⟩ := aAt_b h hi
  unfold q_X3_spanAt
  rw [c_logPlace h hi hR, zb_some, zg_N h1 (by omega), (hR.1 _ h1).2.2]
  rfl
theorem lL_b {T K : Int} (hT : 0 ≤ T ∧ T ≤ 99999) (hK : 1 ≤ K ∧ K ≤ 6) : 8 ≤ lL T K ∧ lL T K ≤ 16 := by
  have := nd_b hT
  have := wln_b hK
  unfold lL
  omega
theorem lI_b {T K S : Int} {p : Nat} (hT : 0 ≤ T ∧ T ≤ 99999) (hK : 1 ≤ K ∧ K ≤ 6) (hS : 0 ≤ S ∧ S ≤ 7) : 0 ≤ lI T K S p ∧ lI T K S p < 128 := by
  unfold lI
  split
  · omega
  · split
    · omega
    · split
      · exact wch_b hK (by omega)
      · split <;> omega
/-- what the StringBuilder holds behind writeLine -/
def lW (g : tJ4) (T K S : Int) : Prop := g.2.1 = 0 ∧ g.2.2.2 = zI (lL T K : Nat) ∧ ∀ p, p < lL T K → g.1 p = zI (lI T K S p)
theorem jR_lW {g : tJ4} {T K S : Int} (hT : 0 ≤ T ∧ T ≤ 99999) (hK : 1 ≤ K ∧ K ≤ 6) (h : lW g T K S) : jR g := ⟨h.1, lL T K, (lL_b hT hK).2, h.2.1⟩
theorem c_writeLine {i : Nat} (h : aI 0 a) (h9 : a 0 ≤ 99999) (hi : (i : Int) < aMany a) (hl : lR u.1.2.2.2.2.1 a) (hj : jR u.2.2.2.2) : ∃ g : tJ4, q_X6_writeLine u (zI i) = some g ∧ lW g (eV a i 0) (eV a i 1) (eV a i 2) := by
  have hN := h.2.1
  unfold aN at hN
  obtain ⟨hT, hK, hS⟩ := eV_b h hi
  have e1 := c_tickAt (by omega) hi hl
  have e2 := c_kindAt (by omega) hi hl
  have e3 := c_spanAt (by omega) hi hl
  obtain ⟨hj0, m, hm16, hm⟩ := hj
  generalize eV a i 0 = T at *
  generalize eV a i 1 = K at *
  generalize eV a i 2 = S at *
  have hT' : 0 ≤ T ∧ T ≤ 99999 := by omega
  have hS' : 0 ≤ S ∧ S ≤ 99999 := by omega
  have b1 := nd_b hT'
  have b2 := wln_b hK
  have b3 : nd S = 1 := by unfold nd; rw [if_pos (by omega)]
  have hkk : K.toNat - 1 < 6 := by omega
  obtain ⟨k, hk⟩ := c_setLen hj0 hm hm16
  unfold q_X6_writeLine
  rw [hk, zb_some, e1, zb_some]
  dsimp only
  rw [c_appInt (g := (u.2.2.2.2.1, u.2.2.2.2.2.1, k, 0)) (m := 0) hj0 rfl hT' (by omega), zb_some]
  dsimp only
  rw [c_appSp (g := (_, u.2.2.2.2.2.1, k, zI ((0 + nd T : Nat) : Int))) (m := 0 + nd T) hj0 rfl (by omega), zb_some, e2, zb_some, z_wordOf hK, zb_some]
  dsimp only
  rw [c_appStr (g := (_, u.2.2.2.2.2.1, k, zI ((0 + nd T + 1 : Nat) : Int))) (m := 0 + nd T + 1) hj0 rfl hkk (show 0 + nd T + 1 + wln K ≤ 16 by omega), zb_some]
  dsimp only
  rw [c_appSp (g := (_, u.2.2.2.2.2.1, k, zI ((0 + nd T + 1 + zSL (K.toNat - 1) : Nat) : Int))) (m := 0 + nd T + 1 + zSL (K.toNat - 1)) hj0 rfl (show 0 + nd T + 1 + wln K < 16 by omega), zb_some, e3, zb_some]
  dsimp only
  rw [c_appInt (g := (_, u.2.2.2.2.2.1, k, zI ((0 + nd T + 1 + zSL (K.toNat - 1) + 1 : Nat) : Int))) (m := 0 + nd T + 1 + zSL (K.toNat - 1) + 1) hj0 rfl hS' (show 0 + nd T + 1 + wln K + 1 + nd S ≤ 16 by omega), zb_some]
  refine ⟨_, rfl, hj0, ?_, fun p hp => ?_⟩
  · dsimp only
    congr 2
    show 0 + nd T + 1 + wln K + 1 + nd S = nd T + wln K + 3
    omega
  · dsimp only
    unfold lL at hp
    unfold lI
    rw [b3, dput_at (by omega)]
    show (if 0 + nd T + 1 + wln K + 1 + 1 - 1 ≤ p ∧ p < 0 + nd T + 1 + wln K + 1 + 1 then _ else _) = _
    by_cases c1 : p = nd T + 1 + wln K + 1
    · rw [if_pos (by omega), if_neg (by omega), if_neg (by omega), if_neg (by omega), if_neg (by omega)]
      show zI (48 + td S (0 + nd T + 1 + wln K + 1 + 1 - 1 - p) % 10) = _
      rw [show 0 + nd T + 1 + wln K + 1 + 1 - 1 - p = 0 by omega]
      show zI (48 + S % 10) = _
      rw [show S % 10 = S by omega]
    · rw [if_neg (by omega)]
      by_cases c2 : p = nd T + 1 + wln K
      · rw [show p = 0 + nd T + 1 + zSL (K.toNat - 1) from c2.trans (by show _ = 0 + nd T + 1 + wln K; omega), upd_at]
        show 32 = zI (if 0 + nd T + 1 + wln K < nd T then _ else if 0 + nd T + 1 + wln K = nd T then 32 else if 0 + nd T + 1 + wln K < nd T + 1 + wln K then _ else if 0 + nd T + 1 + wln K = nd T + 1 + wln K then 32 else 48 + S)
        rw [if_neg (by omega), if_neg (by omega), if_neg (by omega), if_pos (by omega)]
        rfl
      · rw [upd_ne' _ _ (show p ≠ 0 + nd T + 1 + zSL (K.toNat - 1) from fun q => c2 (q.trans (by show 0 + nd T + 1 + wln K = _; omega)))]
        unfold va_cpy
        show (if 0 + nd T + 1 ≤ p ∧ p < 0 + nd T + 1 + wln K then _ else _) = _
        by_cases c3 : nd T + 1 ≤ p
        · rw [if_pos (by omega), if_neg (by omega), if_neg (by omega), if_pos (by omega)]
          unfold wch
          rw [zI_of, show 0 + (p - (0 + nd T + 1)) = p - nd T - 1 by omega]
        · rw [if_neg (by omega)]
          by_cases c4 : p = nd T
          · rw [show p = 0 + nd T by omega, upd_at, if_neg (by omega), if_pos (by omega)]
            rfl
          · rw [upd_ne' _ _ (show p ≠ 0 + nd T by omega), dput_at (by omega), if_pos (by omega), if_pos (show p < nd T by omega), show 0 + nd T - 1 - p = nd T - 1 - p by omega]
theorem z_chF : ∀ c : Fin 128, ((Int32.toUInt32 (zI ((c : Nat) : Int) &&& 255) % 65536).toInt32) = zI ((c : Nat) : Int) := by decide +kernel
theorem z_ch {c : Int} (h : 0 ≤ c ∧ c < 128) : ((Int32.toUInt32 (zI c &&& 255) % 65536).toInt32) = zI c := by
  have := z_chF ⟨c.toNat, by omega⟩
  dsimp only at this
  rw [show ((c.toNat : Nat) : Int) = c by omega] at this
  exact this
theorem c_charAt {g : tJ4} {T K S : Int} {p : Nat} (hT : 0 ≤ T ∧ T ≤ 99999) (hK : 1 ≤ K ∧ K ≤ 6) (hS : 0 ≤ S ∧ S ≤ 7) (h : lW g T K S) (hp : p < lL T K) : q_J4_charAt_5068e g (zI p) = some (zI (lI T K S p)) := by
  have hb := lL_b hT hK
  have hc := lI_b (p := p) hT hK hS
  obtain ⟨h1, h2, h3⟩ := h
  have hz : 0 ≤ zI (lI T K S p) ∧ zI (lI T K S p) < 65536 := ⟨zle_p (x := 0) (zr_s (by omega)) (zr_s (by omega)) hc.1, zlt_p (y := 65536) (zr_s (by omega)) (zr_s (by omega)) (by omega)⟩
  unfold q_J4_charAt_5068e q_J5_charAt_5068e q_J0_checkIndex_df160 q_J3_checkIndex_8e157 zn
  rw [h1, h2, show (16 : Int32) >>> ((0 : Int32) &&& 31) = zI 16 by decide +kernel, if_neg (show ¬ zI 16 < zI (lL T K : Nat) from zlt_n (zr_s (by omega)) (zr_s (by omega)) (by omega))]
  dsimp only
  rw [if_neg (show ¬ zI (p : Nat) < 0 from zlt_n (y := 0) (zr_s (by omega)) (zr_s (by omega)) (by omega)), if_pos (show zI (p : Nat) < zI (lL T K : Nat) from zlt_p (zr_s (by omega)) (zr_s (by omega)) (by omega)), zb_some, zb_some, if_pos rfl, zg_N (by omega) (by omega), h3 p hp, z_ch hc, zq_t hz, zb_some, zq_t hz]
theorem c_has {g : tX3} {p : Int} (h : 0 ≤ a 14) (hp : zr p) (hR : lR g a) : q_X3_has g (zI p) = some (if 0 ≤ p ∧ p < aMany a then 1 else 0) := by
  have e : mn (a 14) = aMany a := by
    unfold mn aMany
    split <;> split <;> omega
  have hb : 0 ≤ aMany a ∧ aMany a ≤ 10 := by
    unfold aMany
    split <;> omega
  unfold q_X3_has
  rw [hR.2.2, e]
  by_cases c1 : p < 0
  · rw [if_pos (show zI p < 0 from zlt_p (y := 0) hp (zr_s (by omega)) c1), if_neg (by omega)]
  · rw [if_neg (show ¬ zI p < 0 from zlt_n (y := 0) hp (zr_s (by omega)) (by omega))]
    by_cases c2 : aMany a ≤ p
    · rw [if_pos (zle_p (zr_s (by omega)) hp c2), if_neg (by omega)]
    · rw [if_neg (zle_n (zr_s (by omega)) hp (by omega)), if_pos (by omega)]
end PN
