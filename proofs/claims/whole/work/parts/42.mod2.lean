/-! the model: the list, the next span, a tick -/
section PM2
variable {a : Nat → Int} {r : (Nat → Int32) × (Nat → Int32) × Int32 × (Nat → Int32) × Int32 × Int32 × Int32 × Int32 × Int32 × Int32}
/-- the last of the first n places of the list that holds s -/
def pl (a : Nat → Int) (s : Int) : Nat → Int
  | 0 => -6
  | n + 1 => if a (28 + n) = s then n else pl a s n
def aPlace (a : Nat → Int) (s : Int) : Int := pl a s (a 8).toNat
theorem pl_none {a : Nat → Int} {s : Int} {n : Nat} (h : ∀ k, k < n → a (28 + k) ≠ s) : pl a s n = -6 := by
  induction n with
  | zero => rfl
  | succ n ih =>
    unfold pl
    rw [if_neg (h n (by omega))]
    exact ih (fun k hk => h k (by omega))
theorem pl_some {a : Nat → Int} {s : Int} {n k : Nat} (hk : k < n) (h : a (28 + k) = s) (hd : ∀ j, k < j → j < n → a (28 + j) ≠ s) : pl a s n = k := by
  induction n with
  | zero => omega
  | succ n ih =>
    unfold pl
    by_cases e : n = k
    · subst e
      rw [if_pos h]
    · rw [if_neg (hd n (by omega) (by omega))]
      exact ih (by omega) (fun j h1 h2 => hd j h1 (by omega))
theorem pl_cases (a : Nat → Int) (s : Int) (n : Nat) : (pl a s n = -6 ∧ ∀ k, k < n → a (28 + k) ≠ s) ∨ ∃ k : Nat, k < n ∧ a (28 + k) = s ∧ pl a s n = k := by
  induction n with
  | zero => exact Or.inl ⟨rfl, fun k hk => by omega⟩
  | succ n ih =>
    unfold pl
    by_cases h : a (28 + n) = s
    · rw [if_pos h]
      exact Or.inr ⟨n, by omega, h, rfl⟩
    · rw [if_neg h]
      rcases ih with ⟨h1, h2⟩ | ⟨k, h1, h2, h3⟩
      · refine Or.inl ⟨h1, fun k hk => ?_⟩
        by_cases e : k = n
        · subst e; exact h
        · exact h2 k (by omega)
      · exact Or.inr ⟨k, by omega, h2, h3⟩
theorem m_placeOf {c s : Int} (h : aI c a) (hs : zr s) : q_X7_placeOf (zM a, r) (zI s) = some (zI (aPlace a s)) := by
  have hr := h.1
  have h0 := h.2.1
  unfold aN at h0
  unfold q_X7_placeOf aPlace
  rw [zl_run (fun k => (zI (pl a s k), zI k)) (a := ((-6 : Int32), (0 : Int32))) (b := zI (pl a s (a 8).toNat)) (a 8).toNat rfl (by omega) ?_ ?_, zb_some]
  · intro k hk
    unfold q_X7_placeOf_L5
    dsimp only
    rw [if_neg (show ¬ zM a 8 ≤ zI k from zle_n (hr 8) (zr_s (by omega)) (by omega)), zg_M (i := 28 + k) (show (28 : Int32) + zI k = _ from zI_k 28 k) (by omega)]
    simp only [zI_eq (hr (28 + k)) hs, zI_1]
    show _ = some (Sum.inl (zI (if a (28 + k) = s then (k : Int) else pl a s k), _))
    split <;> rfl
  · unfold q_X7_placeOf_L5
    dsimp only
    rw [if_pos (show zM a 8 ≤ zI ((a 8).toNat : Nat) from zle_p (hr 8) (zr_s (by omega)) (by omega))]
/-- the list without its place p -/
def tk (a : Nat → Int) (p k : Nat) : Nat → Int := fun i => if i = 8 then a 8 - 1 else if 28 + p ≤ i ∧ i < 28 + p + k then a (i + 1) else a i
def aTake (a : Nat → Int) (p : Nat) : Nat → Int := up (tk a p ((a 8).toNat - 1 - p)) (28 + ((a 8).toNat - 1)) 0
theorem m_takesOut {p : Nat} (hp : (p : Int) < a 8) (h8 : a 8 ≤ 6) : q_X7_takesOut (zM a, r) (zI p) = some (zM (aTake a p)) := by
  have e0 : upd (zM a) 8 (zM a 8 - 1) = zM (tk a p 0) := by
    rw [show zM a 8 - 1 = zI (a 8 - 1) from zI_sub _ 1, zM_up]
    congr 1
    funext i
    unfold up tk
    split
    · rfl
    · rw [if_neg (by omega)]
  unfold q_X7_takesOut aTake zn
  dsimp only
  rw [e0, zl_run (fun k => (zI ((p + k : Nat) : Int), zM (tk a p k))) (a := (zI p, zM (tk a p 0))) (b := zM (tk a p ((a 8).toNat - 1 - p))) ((a 8).toNat - 1 - p) rfl (by omega) ?_ ?_, zb_some]
  · unfold q_X7_takesOut_J50
    refine (zs_M (i := 28 + ((a 8).toNat - 1)) (z := 0) ?_ rfl (by omega)).trans rfl
    rw [zM_at, show tk a p ((a 8).toNat - 1 - p) 8 = ((a 8).toNat - 1 : Nat) by unfold tk; rw [if_pos rfl]; omega]
    exact zI_k 28 _
  · intro k hk
    have e8 : tk a p k 8 = a 8 - 1 := if_pos rfl
    unfold q_X7_takesOut_L13
    dsimp only
    rw [if_neg (show ¬ zM (tk a p k) 8 ≤ zI ((p + k : Nat) : Int) by rw [zM_at, e8]; exact zle_n (zr_s (by omega)) (zr_s (by omega)) (by omega))]
    rw [zg_M (i := 28 + (p + k) + 1) (by rw [show ((28 : Int32) + zI ((p + k : Nat) : Int)) = _ from zI_k 28 (p + k)]; exact zI_k _ 1) (by omega), zs_M (i := 28 + (p + k)) (show (28 : Int32) + zI ((p + k : Nat) : Int) = _ from zI_k 28 (p + k)) rfl (by omega), zI_1]
    congr 2
    · congr 1
      congr 1
      funext i
      unfold up tk
      by_cases c1 : i = 28 + (p + k)
      · rw [if_pos c1, if_neg (by omega), if_neg (by omega), if_neg (by omega), if_pos (by omega), c1]
      · rw [if_neg c1]
        by_cases c2 : i = 8
        · rw [if_pos c2, if_pos c2]
        · rw [if_neg c2, if_neg c2]
          by_cases c3 : 28 + p ≤ i ∧ i < 28 + p + k
          · rw [if_pos c3, if_pos (by omega)]
          · rw [if_neg c3, if_neg (by omega)]
  · unfold q_X7_takesOut_L13
    dsimp only
    rw [if_pos (show zM (tk a p ((a 8).toNat - 1 - p)) 8 ≤ zI ((p + ((a 8).toNat - 1 - p) : Nat) : Int) by rw [zM_at, show tk a p ((a 8).toNat - 1 - p) 8 = a 8 - 1 from if_pos rfl]; exact zle_p (zr_s (by omega)) (zr_s (by omega)) (by omega))]
/-- the span looked at k-th, k from 0 -/
def aSpn (a : Nat → Int) (k : Nat) : Nat := if a 4 = 2 then (((if a 13 = -6 then 7 else a 13) + 1 + k) % 8).toNat else k
def aAge (a : Nat → Int) (s : Nat) : Int := a 0 - a (20 + s)
abbrev aDue (a : Nat → Int) (s : Nat) : Prop := a 19 / 2 ≤ aAge a s
abbrev aBetter (a : Nat → Int) (s : Nat) (f : Int) : Prop := f = -6 ∨ (a 4 = 0 ∧ aAge a f.toNat < aAge a s) ∨ (a 4 = 1 ∧ aSum a f 9 < aSum a s 9)
def bd (a : Nat → Int) : Nat → Int
  | 0 => -6
  | k + 1 => if aDue a (aSpn a k) ∧ aBetter a (aSpn a k) (bd a k) then aSpn a k else bd a k
def aBest (a : Nat → Int) : Int := bd a 8
theorem aSpn_lt (a : Nat → Int) {k : Nat} (hk : k < 8) (h : a 13 = -6 ∨ 0 ≤ a 13 ∧ a 13 ≤ 7) : aSpn a k < 8 := by
  unfold aSpn
  split
  · split <;> omega
  · exact hk
theorem bd_lt (a : Nat → Int) (h : a 13 = -6 ∨ 0 ≤ a 13 ∧ a 13 ≤ 7) : ∀ k, k ≤ 8 → bd a k = -6 ∨ 0 ≤ bd a k ∧ bd a k ≤ 7 := by
  intro k
  induction k with
  | zero => exact fun _ => Or.inl rfl
  | succ k ih =>
    intro hk
    unfold bd
    have := aSpn_lt a (k := k) (by omega) h
    split
    · omega
    · exact ih (by omega)
theorem aSum_b {c : Int} {s mo : Int} (h : aI c a) (hm : 0 ≤ mo ∧ mo ≤ 9) : 0 ≤ aSum a s mo ∧ aSum a s mo ≤ 180 := by
  have h2 := h.2.1.2.2.1
  have := zsum_le (g := gSum a s mo) (c := 9) (n := (a 2).toNat) (fun k hk => by
    have := h.2.2.2.2.1 k (by omega)
    unfold gSum
    split
    · split <;> omega
    · omega)
  unfold aSum
  omega
theorem m_bestDue {c : Int} (h : aI c a) : q_X7_bestDue (zM a, r) = some (zI (aBest a)) := by
  have hr := h.1
  have h0 := h.2.1
  unfold aN at h0
  have key : ∀ y : Int, y = (if a 13 = -6 then 7 else a 13) → q_X7_bestDue_J27 (zM a, r) (zI y) = some (zI (aBest a)) := by
    intro y hy
    have hyb : 0 ≤ y ∧ y ≤ 7 := by
      rw [hy]
      split <;> omega
    unfold q_X7_bestDue_J27 aBest
    rw [zl_run (fun k => (zI (bd a k), zI ((k + 1 : Nat) : Int))) (a := ((-6 : Int32), (1 : Int32))) (b := zI (bd a 8)) 8 rfl (by omega) ?_ ?_, zb_some]
    · intro k hk
      have hb := bd_lt a (by omega) k (by omega)
      have hsl := aSpn_lt a hk (by omega)
      have hD := m_isDue (r := r) hsl h
      have hb9 : ∀ s, 0 ≤ aSum a s 9 ∧ aSum a s 9 ≤ 180 := fun s => aSum_b h (by omega)
      have hst : ∀ j : Nat, j < 8 → 0 ≤ a (20 + j) ∧ a (20 + j) ≤ a 0 := h.2.2.1
      -- the last step, with 'better' told
      have last : ∀ (z : Int32) (b : Prop) [Decidable b], z = (if b then 1 else 0) → (b ↔ aBetter a (aSpn a k) (bd a k)) → q_X7_bestDue_J122 (zM a, r) (zI (bd a k), zI ((k + 1 : Nat) : Int)) (zI (aSpn a k)) z = some (Sum.inl (zI (bd a (k + 1)), zI ((k + 1 + 1 : Nat) : Int))) := by
        intro z b _ hz hbt
        unfold q_X7_bestDue_J122
        rw [hD, zb_some, hz]
        have e : bd a (k + 1) = if aDue a (aSpn a k) ∧ aBetter a (aSpn a k) (bd a k) then (aSpn a k : Int) else bd a k := rfl
        rw [e]
        dsimp only
        rw [zI_1]
        by_cases c1 : a 19 / 2 ≤ a 0 - a (20 + aSpn a k)
        · rw [if_pos c1, if_neg (by decide)]
          by_cases c2 : b
          · rw [if_pos c2, if_neg (by decide), if_pos ⟨c1, hbt.mp c2⟩]
          · rw [if_neg c2, if_pos rfl, if_neg (fun q => c2 (hbt.mpr q.2))]
        · rw [if_neg c1, if_pos rfl, if_neg (fun q => c1 q.1)]
      have mid : q_X7_bestDue_J58 (zM a, r) (zI (bd a k), zI ((k + 1 : Nat) : Int)) (zI (aSpn a k)) = some (Sum.inl (zI (bd a (k + 1)), zI ((k + 1 + 1 : Nat) : Int))) := by
        unfold q_X7_bestDue_J58
        dsimp only
        by_cases c1 : bd a k = -6
        · rw [if_pos (show zI (bd a k) = -6 by rw [c1]; rfl)]
          exact last 1 True rfl ⟨fun _ => Or.inl c1, fun _ => trivial⟩
        · rw [if_neg (show ¬ zI (bd a k) = -6 from zeq_n (y := -6) (zr_s (by omega)) (zr_s (by omega)) c1)]
          obtain ⟨f, hf⟩ : ∃ f : Nat, bd a k = f := ⟨(bd a k).toNat, by omega⟩
          have hfl : f < 8 := by omega
          have hf1 := hst f hfl
          have hs1 := hst _ hsl
          have hS := hb9 f
          have hS2 := hb9 (aSpn a k)
          have j89 : ¬ (a 4 = 0 ∧ aAge a f < aAge a (aSpn a k)) → q_X7_bestDue_J89 (zM a, r) (zI (bd a k), zI ((k + 1 : Nat) : Int)) (zI (aSpn a k)) = some (Sum.inl (zI (bd a (k + 1)), zI ((k + 1 + 1 : Nat) : Int))) := by
            intro hn
            unfold q_X7_bestDue_J89
            dsimp only
            by_cases c4 : a 4 = 1
            · rw [if_pos (show zM a 4 = 1 by rw [zM_at, c4]; rfl), show q_X7_sumOf (zM a, r) (zI (aSpn a k)) 9 = _ from m_sumOf (mo := 9) h.1 h.2.1.2.2.1 (zr_s (by omega)) (zr_s (by omega)), zb_some, show q_X7_sumOf (zM a, r) (zI (bd a k)) 9 = _ from m_sumOf (mo := 9) h.1 h.2.1.2.2.1 (zr_s (by omega)) (zr_s (by omega)), zb_some]
              by_cases c5 : aSum a (aSpn a k) 9 ≤ aSum a (bd a k) 9
              · rw [if_pos (zle_p (zr_s (by omega)) (zr_s (by rw [hf]; omega)) c5)]
                refine last 0 False rfl ⟨fun q => q.elim, fun q => ?_⟩
                rcases q with q | q | q
                · exact c1 q
                · rw [hf] at q; exact hn q
                · omega
              · rw [if_neg (zle_n (zr_s (by omega)) (zr_s (by rw [hf]; omega)) (by omega))]
                exact last 1 True rfl ⟨fun _ => Or.inr (Or.inr ⟨c4, by omega⟩), fun _ => trivial⟩
            · rw [if_neg (show ¬ zM a 4 = 1 from zeq_n (y := 1) (hr 4) (zr_s (by omega)) c4)]
              refine last 0 False rfl ⟨fun q => q.elim, fun q => ?_⟩
              rcases q with q | q | q
              · exact c1 q
              · rw [hf] at q; exact hn q
              · exact c4 q.1
          by_cases c2 : a 4 = 0
          · have hag : q_X7_age (zM a, r) (zI (bd a k)) = some (zI (a 0 - a (20 + f))) := by rw [hf]; exact m_age hfl
            rw [if_pos (show zM a 4 = 0 by rw [zM_at, c2]; rfl), m_age hsl, zb_some, hag, zb_some]
            by_cases c3 : a 0 - a (20 + f) < a 0 - a (20 + aSpn a k)
            · rw [if_pos (zlt_p (zr_s (by omega)) (zr_s (by omega)) c3)]
              refine last 1 True rfl ⟨fun _ => Or.inr (Or.inl ⟨c2, ?_⟩), fun _ => trivial⟩
              rw [hf]
              exact c3
            · rw [if_neg (zlt_n (zr_s (by omega)) (zr_s (by omega)) (by omega))]
              exact j89 (fun q => c3 q.2)
          · rw [if_neg (show ¬ zM a 4 = 0 from zeq_n (y := 0) (hr 4) (zr_s (by omega)) c2)]
            exact j89 (fun q => c2 q.1)
      unfold q_X7_bestDue_L30
      dsimp only
      rw [if_neg (show ¬ (8 : Int32) < zI ((k + 1 : Nat) : Int) from zlt_n (x := 8) (zr_s (by omega)) (zr_s (by omega)) (by omega))]
      by_cases c4 : a 4 = 2
      · rw [if_pos (show zM a 4 = 2 by rw [zM_at, c4]; rfl), zI_add, show zI (y + (k + 1 : Nat)) - zI (y + (k + 1 : Nat)) / 8 * 8 = _ from zmod 8 (by omega) (by omega), show ((y + (k + 1 : Nat)) % (8 : Nat)).toNat = aSpn a k by unfold aSpn; rw [if_pos c4, ← hy]; congr 1; omega]
        exact mid
      · rw [if_neg (show ¬ zM a 4 = 2 from zeq_n (y := 2) (hr 4) (zr_s (by omega)) c4), show zI ((k + 1 : Nat) : Int) - 1 = zI (aSpn a k) by unfold aSpn; rw [if_neg c4, show (1 : Int32) = zI 1 from rfl, zI_sub]; congr 1; omega]
        exact mid
    · unfold q_X7_bestDue_L30
      dsimp only
      rw [if_pos (show (8 : Int32) < zI ((8 + 1 : Nat) : Int) from zlt_p (x := 8) (zr_s (by omega)) (zr_s (by omega)) (by omega))]
  unfold q_X7_bestDue
  dsimp only
  by_cases c1 : a 13 = -6
  · rw [if_pos (show zM a 13 = -6 by rw [zM_at, c1]; rfl)]
    exact key 7 (by rw [if_pos c1])
  · rw [if_neg (show ¬ zM a 13 = -6 from zeq_n (y := -6) (hr 13) (zr_s (by omega)) c1), zM_at]
    exact key _ (by rw [if_neg c1])
def aNext (a : Nat → Int) : Int := if a 8 ≤ 0 then aBest a else a 28
theorem m_nextSpan {c : Int} (h : aI c a) : q_X7_nextSpan (zM a, r) = some (zI (aNext a)) := by
  unfold q_X7_nextSpan aNext
  dsimp only
  simp only [zM_at, show (zI (a 8) ≤ (0 : Int32)) = _ from propext (zI_le (y := 0) (h.1 8) (zr_s (by omega)))]
  split
  · rw [m_bestDue h, zb_some]
  · rfl
end PM2
