/-! the model: the end of a check, a tick -/
section PM4
variable {a : Nat → Int} {r : (Nat → Int32) × (Nat → Int32) × Int32 × (Nat → Int32) × Int32 × Int32 × Int32 × Int32 × Int32 × Int32}
def eW (sp : Int) (k : Nat) (b : Nat → Int) : Prop := b (34 + 2 * k) = sp ∧ b 18 ≤ b (34 + 2 * k + 1)
def eRep (b : Nat → Int) (sp : Int) : Nat → Int := up (up (aLogs b 4 sp) 3 (b 3 - 1)) 11 (b 11 + 1)
def ePut (b : Nat → Int) (n : Nat) (s t : Int) : Nat → Int := up (up b (34 + 2 * n) s) (34 + 2 * n + 1) t
noncomputable def eStep (sp : Int) (k : Nat) (st : Nat × (Nat → Int)) : Nat × (Nat → Int) :=
  if st.2 (34 + 2 * k) = sp then
    (if st.2 18 ≤ st.2 (34 + 2 * k + 1) then
      (if 0 < st.2 3 then (st.1, eRep st.2 sp) else (st.1 + 1, ePut (aLogs st.2 5 sp) st.1 (st.2 (34 + 2 * k)) (st.2 (34 + 2 * k + 1))))
    else (st.1 + 1, ePut st.2 st.1 (st.2 (34 + 2 * k)) (st.2 (34 + 2 * k + 1) + 1)))
  else (st.1 + 1, ePut st.2 st.1 (st.2 (34 + 2 * k)) (st.2 (34 + 2 * k + 1)))
noncomputable def eLoop (sp : Int) (b : Nat → Int) : Nat → Nat × (Nat → Int)
  | 0 => (0, b)
  | k + 1 => eStep sp k (eLoop sp b k)
theorem zi_lin1 (b c k : Nat) : (zI b + zI c * zI k + 1 : Int32) = zI ((b + c * k + 1 : Nat) : Int) := by
  rw [zi_lin]
  exact zI_1 _
theorem m_eput {β : Type} {K : (Nat → Int32) → Option β} {b : Nat → Int} {n : Nat} {s t : Int} (hn : n < 20) : (zs 104 (zM b) (34 + 2 * zI n) (zI s) fun s1 => zs 104 s1 (34 + 2 * zI n + 1) (zI t) fun s2 => K s2) = K (zM (ePut b n s t)) := by
  rw [zs_M (i := 34 + 2 * n) (show (34 : Int32) + 2 * zI n = _ from zi_lin 34 2 n) rfl (by omega), zs_M (i := 34 + 2 * n + 1) (show (34 : Int32) + 2 * zI n + 1 = _ from zi_lin1 34 2 n) rfl (by omega)]
  rfl
/-- what the loop keeps -/
theorem eStep_inv {sp : Int} {b : Nat → Int} {n k : Nat} (hr : ∀ i, zr (b i)) (h14 : 0 ≤ b 14 ∧ b 14 < 3000000) (h3 : 0 ≤ b 3 ∧ b 3 ≤ 50) (h11 : 0 ≤ b 11 ∧ b 11 ≤ b 14) (ht : b (34 + 2 * k + 1) ≤ 9) (hsp : 0 ≤ sp ∧ sp ≤ 7) (hn : n ≤ k) (hk : k < 20) :
    (eStep sp k (n, b)).1 ≤ k + 1 ∧ n ≤ (eStep sp k (n, b)).1 ∧ (∀ i, zr ((eStep sp k (n, b)).2 i)) ∧ (b 14 ≤ (eStep sp k (n, b)).2 14 ∧ (eStep sp k (n, b)).2 14 ≤ b 14 + 1) ∧ (0 ≤ (eStep sp k (n, b)).2 3 ∧ (eStep sp k (n, b)).2 3 ≤ b 3) ∧ (0 ≤ (eStep sp k (n, b)).2 11 ∧ (eStep sp k (n, b)).2 11 ≤ (eStep sp k (n, b)).2 14) ∧ (∀ i, i < 34 → i ≠ 3 → i ≠ 11 → i ≠ 14 → (eStep sp k (n, b)).2 i = b i) ∧ (∀ i, 34 + 2 * (k + 1) ≤ i → i < 74 → (eStep sp k (n, b)).2 i = b i) := by
  have hz : ∀ m : Int, 1 ≤ m ∧ m ≤ 6 → ∀ i, zr (aLogs b m sp i) := fun m hm => zr_aLogs hr (zr_s (by omega)) (zr_s (by omega)) (zr_s (by omega))
  have pt : ∀ (w : Nat → Int) (s t : Int), (∀ i, zr (w i)) → zr s → zr t → ∀ i, zr (ePut w n s t i) := fun w s t hw h1 h2 => zr_up (zr_up hw _ h1) _ h2
  have pe : ∀ (w : Nat → Int) (s t : Int) (i : Nat), (i < 34 ∨ 34 + 2 * (k + 1) ≤ i) → ePut w n s t i = w i := fun w s t i hi => by
    unfold ePut
    rw [up_ne _ _ (by omega), up_ne _ _ (by omega)]
  unfold eStep
  dsimp only
  split
  · split
    · split
      · have e : ∀ i, i ≠ 3 → i ≠ 11 → eRep b sp i = aLogs b 4 sp i := fun i h1 h2 => by
          unfold eRep
          rw [up_ne _ _ h2, up_ne _ _ h1]
        have e3 : eRep b sp 3 = b 3 - 1 := by
          unfold eRep
          rw [up_ne _ _ (by omega), up_at]
        have e11 : eRep b sp 11 = b 11 + 1 := up_at _ _ _
        dsimp only
        rw [e 14 (by omega) (by omega), aLogs_14, e3, e11]
        refine ⟨by omega, by omega, zr_up (zr_up (hz 4 (by omega)) _ (zr_s (by omega))) _ (zr_s (by omega)), by omega, by omega, by omega, fun i h1 h2 h3 h4 => ?_, fun i h1 h2 => ?_⟩
        · rw [e i h2 h3]
          exact aLogs_lo b 4 sp (by omega) h4
        · rw [e i (by omega) (by omega)]
          exact aLogs_lo b 4 sp (by omega) (by omega)
      · dsimp only
        rw [pe _ _ _ 14 (by omega), pe _ _ _ 3 (by omega), pe _ _ _ 11 (by omega), aLogs_14, aLogs_lo _ _ _ (i := 3) (by omega) (by omega), aLogs_lo _ _ _ (i := 11) (by omega) (by omega)]
        refine ⟨by omega, by omega, pt _ _ _ (hz 5 (by omega)) (hr _) (hr _), by omega, by omega, by omega, fun i h1 h2 h3 h4 => ?_, fun i h1 h2 => ?_⟩
        · rw [pe _ _ _ i (by omega)]
          exact aLogs_lo b 5 sp (by omega) h4
        · rw [pe _ _ _ i (by omega)]
          exact aLogs_lo b 5 sp (by omega) (by omega)
    · dsimp only
      rw [pe _ _ _ 14 (by omega), pe _ _ _ 3 (by omega), pe _ _ _ 11 (by omega)]
      have hzk := hr (34 + 2 * k + 1)
      exact ⟨by omega, by omega, pt _ _ _ hr (hr _) ⟨by have := hzk.1; omega, by omega⟩, by omega, by omega, by omega, fun i h1 h2 h3 h4 => pe _ _ _ i (by omega), fun i h1 h2 => pe _ _ _ i (by omega)⟩
  · dsimp only
    rw [pe _ _ _ 14 (by omega), pe _ _ _ 3 (by omega), pe _ _ _ 11 (by omega)]
    exact ⟨by omega, by omega, pt _ _ _ hr (hr _) (hr _), by omega, by omega, by omega, fun i h1 h2 h3 h4 => pe _ _ _ i (by omega), fun i h1 h2 => pe _ _ _ i (by omega)⟩
end PM4
