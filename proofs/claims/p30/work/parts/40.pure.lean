/-! the pure layer: whole numbers under Int32 -/
def zI (x : Int) : Int32 := Int32.ofInt x
def zr (x : Int) : Prop := -2147483648 ≤ x ∧ x < 2147483648
theorem zI_toInt {x : Int} (h : zr x) : (zI x).toInt = x := Int32.toInt_ofInt_of_le (by unfold zr at h; exact h.1) (by unfold zr at h; exact h.2)
theorem zI_of (x : Int32) : zI x.toInt = x := Int32.ofInt_toInt x
theorem zr_of (x : Int32) : zr x.toInt := ⟨Int32.le_toInt x, Int32.toInt_lt x⟩
theorem zI_add (x y : Int) : zI x + zI y = zI (x + y) := (Int32.ofInt_add x y).symm
theorem zI_sub (x y : Int) : zI x - zI y = zI (x - y) := (Int32.ofInt_sub x y).symm
theorem zI_mul (x y : Int) : zI x * zI y = zI (x * y) := (Int32.ofInt_mul x y).symm
theorem zI_neg (x : Int) : -zI x = zI (-x) := (Int32.ofInt_neg x).symm
theorem zI_lit (n : Nat) : (no_index (OfNat.ofNat n) : Int32) = zI (no_index (OfNat.ofNat n)) := (Int32.ofInt_eq_ofNat (n := n)).symm
theorem zI_lt {x y : Int} (hx : zr x) (hy : zr y) : (zI x < zI y) ↔ x < y := by rw [Int32.lt_iff_toInt_lt, zI_toInt hx, zI_toInt hy]
theorem zI_le {x y : Int} (hx : zr x) (hy : zr y) : (zI x ≤ zI y) ↔ x ≤ y := by rw [Int32.le_iff_toInt_le, zI_toInt hx, zI_toInt hy]
theorem zI_eq {x y : Int} (hx : zr x) (hy : zr y) : (zI x = zI y) ↔ x = y := by
  constructor
  · intro h
    rw [← zI_toInt hx, ← zI_toInt hy, h]
  · exact fun h => by rw [h]
theorem zle_n {x y : Int} (hx : zr x) (hy : zr y) (h : y < x) : ¬ zI x ≤ zI y := by rw [zI_le hx hy]; omega
theorem zle_p {x y : Int} (hx : zr x) (hy : zr y) (h : x ≤ y) : zI x ≤ zI y := (zI_le hx hy).mpr h
theorem zlt_n {x y : Int} (hx : zr x) (hy : zr y) (h : y ≤ x) : ¬ zI x < zI y := by rw [zI_lt hx hy]; omega
theorem zlt_p {x y : Int} (hx : zr x) (hy : zr y) (h : x < y) : zI x < zI y := (zI_lt hx hy).mpr h
theorem zeq_n {x y : Int} (hx : zr x) (hy : zr y) (h : x ≠ y) : ¬ zI x = zI y := by rw [zI_eq hx hy]; exact h
theorem zI_clamp {x : Int} (h : zr x) : (zI x).toNatClampNeg = x.toNat := by
  show (zI x).toInt.toNat = x.toNat
  rw [zI_toInt h]
theorem zI_div {x y : Int} (hx : 0 ≤ x ∧ x < 2147483648) (hy : 0 < y ∧ y < 2147483648) : zI x / zI y = zI (x / y) := by
  apply Int32.toInt_inj.mp
  have h1 : zr x := ⟨by omega, hx.2⟩
  have h2 : zr y := ⟨by omega, hy.2⟩
  have h3 : 0 ≤ x / y := Int.ediv_nonneg hx.1 (by omega)
  have h4 : x / y ≤ x := Int.ediv_le_self y hx.1
  have h5 : zr (x / y) := ⟨by omega, by omega⟩
  rw [zI_toInt h5, Int32.toInt_div_of_ne_right _ _ (by intro h; have := congrArg Int32.toInt h; rw [zI_toInt h2] at this; have e : (-1 : Int32).toInt = -1 := by decide
                                                       omega), zI_toInt h1, zI_toInt h2]
  exact Int.tdiv_eq_ediv_of_nonneg hx.1
theorem zg_zI {β : Type} {n : Nat} {f : Nat → Int32} {i : Int} {K : Int32 → Option β} (h : 0 ≤ i ∧ i < n) (hn : n < 2147483648) : zg n f (zI i) K = K (f i.toNat) := by
  have hz : zr i := ⟨by omega, by omega⟩
  unfold zg
  rw [zI_clamp hz, if_neg]
  rintro (c | c)
  · rw [show (0 : Int32) = zI 0 from rfl, zI_lt hz ⟨by omega, by omega⟩] at c
    omega
  · omega
theorem zs_zI {β : Type} {n : Nat} {f : Nat → Int32} {i : Int} {x : Int32} {K : (Nat → Int32) → Option β} (h : 0 ≤ i ∧ i < n) (hn : n < 2147483648) : zs n f (zI i) x K = K (upd f i.toNat x) := by
  have hz : zr i := ⟨by omega, by omega⟩
  unfold zs
  rw [zI_clamp hz, if_neg]
  rintro (c | c)
  · rw [show (0 : Int32) = zI 0 from rfl, zI_lt hz ⟨by omega, by omega⟩] at c
    omega
  · omega
theorem zb_some {α β : Type} {x : α} {K : α → Option β} : zb (some x) K = K x := rfl
/-- a loop that goes through f 0, f 1, .. and leaves at f N -/
theorem zl_iter {α β : Type} {B : α → Option (α ⊕ β)} {f : Nat → α} {b : β} (N : Nat) (hs : ∀ k, k < N → B (f k) = some (.inl (f (k + 1)))) (he : B (f N) = some (.inr b)) : ∀ (fuel k : Nat), k ≤ N → N - k < fuel → zl fuel B (f k) = some b := by
  intro fuel
  induction fuel with
  | zero => intro k h1 h2; omega
  | succ n ih =>
    intro k h1 h2
    unfold zl
    by_cases h : k = N
    · subst h
      rw [he]
      rfl
    · rw [hs k (by omega)]
      exact ih (k + 1) (by omega) (by omega)
theorem zl_run {α β : Type} {B : α → Option (α ⊕ β)} (f : Nat → α) {a : α} {b : β} (N : Nat) (h0 : f 0 = a) (hN : N < 1000000) (hs : ∀ k, k < N → B (f k) = some (.inl (f (k + 1)))) (he : B (f N) = some (.inr b)) : zl 1000000 B a = some b := by
  subst h0
  exact zl_iter N hs he 1000000 0 (Nat.zero_le _) (by omega)
/-- the model's row of numbers -/
def zM (a : Nat → Int) : Nat → Int32 := fun i => zI (a i)
def up (a : Nat → Int) (k : Nat) (x : Int) : Nat → Int := fun i => if i = k then x else a i
theorem zM_up (a : Nat → Int) (k : Nat) (x : Int) : upd (zM a) k (zI x) = zM (up a k x) := by
  funext i
  unfold upd zM up
  split <;> rfl
theorem up_at (a : Nat → Int) (k : Nat) (x : Int) : up a k x k = x := if_pos rfl
theorem up_ne (a : Nat → Int) {k i : Nat} (x : Int) (h : i ≠ k) : up a k x i = a i := if_neg h
/-- a sum, a count over the first n -/
def zsum (g : Nat → Int) : Nat → Int
  | 0 => 0
  | n + 1 => zsum g n + g n
theorem zsum_le {g : Nat → Int} {c : Int} {n : Nat} (h : ∀ k, k < n → 0 ≤ g k ∧ g k ≤ c) : 0 ≤ zsum g n ∧ zsum g n ≤ c * n := by
  induction n with
  | zero => simp [zsum]
  | succ n ih =>
    have h1 := ih (fun k hk => h k (by omega))
    have h2 := h n (by omega)
    have h3 : c * ((n + 1 : Nat) : Int) = c * n + c := by rw [Int.natCast_add, Int.mul_add]; simp
    unfold zsum
    omega
