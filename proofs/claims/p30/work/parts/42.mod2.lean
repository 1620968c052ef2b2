/-! the model: the list, the next span, a tick -/
section PM2
variable {a : Nat → Int} {r : (Nat → Int32) × (Nat → Int32) × Int32 × (Nat → Int32) × Int32 × Int32 × Int32 × Int32 × Int32 × Int32}
/-- the last of the first n places of the list that holds s -/
def pl (a : Nat → Int) (s : Int) : Nat → Int
  | 0 => -6
  | n + 1 => if a (28 + n) = s then n else pl a s n
def aPlace (a : Nat → Int) (s : Int) : Int := pl a s (a 8).toNat
theorem pl_none {a : Nat → Int} {s : Int} {n : Nat} (h : ∀ k, k < n → a (28 + k) ≠ s) : pl a s n = -6 := by
  induction n with
  | zero => rfl
  | succ n ih =>
    unfold pl
    rw [if_neg (h n (by omega))]
    exact ih (fun k hk => h k (by omega))
theorem pl_some {a : Nat → Int} {s : Int} {n k : Nat} (hk : k < n) (h : a (28 + k) = s) (hd : ∀ j, k < j → j < n → a (28 + j) ≠ s) : pl a s n = k := by
  induction n with
  | zero => omega
  | succ n ih =>
    unfold pl
    by_cases e : n = k
    · subst e
      rw [if_pos h]
    · rw [if_neg (hd n (by omega) (by omega))]
      exact ih (by omega) (fun j h1 h2 => hd j h1 (by omega))
theorem pl_cases (a : Nat → Int) (s : Int) (n : Nat) : (pl a s n = -6 ∧ ∀ k, k < n → a (28 + k) ≠ s) ∨ ∃ k : Nat, k < n ∧ a (28 + k) = s ∧ pl a s n = k := by
  induction n with
  | zero => exact Or.inl ⟨rfl, fun k hk => by omega⟩
  | succ n ih =>
    unfold pl
    by_cases h : a (28 + n) = s
    · rw [if_pos h]
      exact Or.inr ⟨n, by omega, h, rfl⟩
    · rw [if_neg h]
      rcases ih with ⟨h1, h2⟩ | ⟨k, h1, h2, h3⟩
      · refine Or.inl ⟨h1, fun k hk => ?_⟩
        by_cases e : k = n
        · subst e; exact h
        · exact h2 k (by omega)
      · exact Or.inr ⟨k, by omega, h2, h3⟩
/-- the list without its place p -/
def tk (a : Nat → Int) (p k : Nat) : Nat → Int := fun i => if i = 8 then a 8 - 1 else if 28 + p ≤ i ∧ i < 28 + p + k then a (i + 1) else a i
def aTake (a : Nat → Int) (p : Nat) : Nat → Int := up (tk a p ((a 8).toNat - 1 - p)) (28 + ((a 8).toNat - 1)) 0
/-- the span looked at k-th, k from 0 -/
def aSpn (a : Nat → Int) (k : Nat) : Nat := if a 4 = 2 then (((if a 13 = -6 then 7 else a 13) + 1 + k) % 8).toNat else k
def aAge (a : Nat → Int) (s : Nat) : Int := a 0 - a (20 + s)
abbrev aDue (a : Nat → Int) (s : Nat) : Prop := a 19 / 2 ≤ aAge a s
abbrev aBetter (a : Nat → Int) (s : Nat) (f : Int) : Prop := f = -6 ∨ (a 4 = 0 ∧ aAge a f.toNat < aAge a s) ∨ (a 4 = 1 ∧ aSum a f 9 < aSum a s 9)
def bd (a : Nat → Int) : Nat → Int
  | 0 => -6
  | k + 1 => if aDue a (aSpn a k) ∧ aBetter a (aSpn a k) (bd a k) then aSpn a k else bd a k
def aBest (a : Nat → Int) : Int := bd a 8
theorem aSpn_lt (a : Nat → Int) {k : Nat} (hk : k < 8) (h : a 13 = -6 ∨ 0 ≤ a 13 ∧ a 13 ≤ 7) : aSpn a k < 8 := by
  unfold aSpn
  split
  · split <;> omega
  · exact hk
theorem bd_lt (a : Nat → Int) (h : a 13 = -6 ∨ 0 ≤ a 13 ∧ a 13 ≤ 7) : ∀ k, k ≤ 8 → bd a k = -6 ∨ 0 ≤ bd a k ∧ bd a k ≤ 7 := by
  intro k
  induction k with
  | zero => exact fun _ => Or.inl rfl
  | succ k ih =>
    intro hk
    unfold bd
    have := aSpn_lt a (k := k) (by omega) h
    split
    · omega
    · exact ih (by omega)
theorem aSum_b {c : Int} {s mo : Int} (h : aI c a) (hm : 0 ≤ mo ∧ mo ≤ 9) : 0 ≤ aSum a s mo ∧ aSum a s mo ≤ 180 := by
  have h2 := h.2.1.2.2.1
  have := zsum_le (g := gSum a s mo) (c := 9) (n := (a 2).toNat) (fun k hk => by
    have := h.2.2.2.2.1 k (by omega)
    unfold gSum
    split
    · split <;> omega
    · omega)
  unfold aSum
  omega
def aNext (a : Nat → Int) : Int := if a 8 ≤ 0 then aBest a else a 28
end PM2
