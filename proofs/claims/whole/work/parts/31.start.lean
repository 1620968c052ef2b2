/-! the start of the law: what the Statement gives, the two objects made, the loop entered -/
def R_law : String := "QuietChecksLaw"
def lw_P (b : Addr) (xs : List Int32) (args : Array Value) (s : State) : Prop := args = #[.ref b] ∧ s.IntsAt b xs ∧ xs.length ≤ 1536 ∧ (Jvm.Cond.and given_1 narrow_1).before args s = true
def lw_Q (_ : Array Value) (s : State) (o : Outcome) (t : State) : Prop := o = .returned (some (.int 1)) ∧ Framed s o t [] 600000 7302249
def lw_Z (below : List Frame) (a : Array Value) (s : State) : State → Prop := fun t => ∃ o, t.status = .running ∧ Ended t below o ∧ lw_Q a s o t
/-- the law's own end, with 1 on the stack, nothing written that was there before, its room as the claim has it -/
theorem lw_ret {p : Program} {l : Launch} {e : Env} {s : State} {m : MethodId} {below : List Frame} {meth : Method} {c : Code} {b : Nat} (hx : p.tables.exec = Jvm.exec) (hb : c.code = code) (hr : meth.sig.returnType = ret) (hlocks : meth.locks = false) {pc : Nat} {H : Heap} {ls : Array Slot} (hdg : decode code pc = .ok (.ireturn, 1)) : W p l e room_1 s m #[Value.ref b] below meth c H [] 600000 7302249 (lw_Z below #[Value.ref b] s) (F0 m pc ls [.int 1]) := by
  intro T hT X
  obtain ⟨fs, hret, hrun, hended, hW, hframe⟩ := X.leave (v := some (.int 1)) (hlocks := hlocks) (fun h => by rw [hr] at h; cases h)
  have hmeth' : T.vm.method? m = some meth := X.method'
  refine ⟨T.setFrames fs, ?_, .returned (some (.int 1)), hrun, hended, rfl, ⟨_, rfl⟩, hW, hframe⟩
  jvm_step X.here [X.here.top, hx, hb, hdg, hmeth', hr, ret, narrow_b1]
  (try refine ⟨rfl, ?_⟩); (try refine ⟨rfl, ?_⟩)
  first | (intro acts; rw [hret _ acts rfl rfl rfl]) | rw [hret _ _ rfl rfl rfl]
  exact Steps.refl _
/-- what holds at the law's entry: the machine, the code, the tables' words (any of lw_tbl by 'hts w (by decide +kernel)'), the script of L ints xs at the cell b, what the Statement gives of the start (any of its parts by flat_of_before) -/
def lw_At (p : Program) (s : State) (m : MethodId) (meth : Method) (c : Code) (b L : Nat) (xs : Nat → Int32) : Prop :=
  p.tables.exec = Jvm.exec ∧ c.code = code ∧ meth.sig.returnType = ret ∧ c.maxLocals = 4 ∧ s.vm.findClass R_law = some m.cls ∧ (∀ w ∈ lw_tbl, w.before #[Value.ref b] s = true) ∧ va_X b L xs s s.heap ∧ b < s.heap.size ∧ meth.locks = false ∧ (Jvm.Cond.and given_1 narrow_1).before #[Value.ref b] s = true
def zFl : List Cond := flatC (Cond.and given_1 narrow_1)
def nT (tm : Term) (ty : FieldType) (N : Nat) (f : Nat → Int32) : List Cond := [.isRef tm, .arrayOf tm ty, .eq (.length tm) (.int (Int32.ofNat N))] ++ (List.range N).map (fun j => Cond.eq (.elem tm (.int (Int32.ofNat j))) (.int (f j)))
def zqs (i : Nat) : String × Nat × String × List Int32 := zStr.getD i ("", 0, "", [])
def tS (i : Nat) : Term := .string (zqs i).1 (zqs i).2.1
def tV (i : Nat) : Term := .field (tS i) "java/lang/String" "value" "[B"
def nS (i : Nat) : List Cond := [.exactly (tS i) "java/lang/String", .eq (.field (tS i) "java/lang/String" "coder" "B") (.int 0), .arrayOf (tV i) .byte, .eq (.length (tV i)) (.int (Int32.ofNat (zSL i)))] ++ ((List.range (zSL i)).map (fun j => Cond.eq (.elem (tV i) (.int (Int32.ofNat j))) (.int (zSB i j))) ++ (List.range i).map (fun j => Cond.not (Cond.eq (tS j) (tS i))))
abbrev tmF : Term := .static "QuietChecks" "FIRST_SETTING" "[I"
abbrev tmL : Term := .static "QuietChecks" "LOWEST_SETTING" "[I"
abbrev tmH : Term := .static "QuietChecks" "HIGHEST_SETTING" "[I"
abbrev tmO : Term := .static "java/lang/Integer" "DigitOnes" "[B"
abbrev tmT : Term := .static "java/lang/Integer" "DigitTens" "[B"
def nX1 : List Cond := nT tmF .int 5 zFirstI ++ ([.eq (.static "java/lang/String" "COMPACT_STRINGS" "Z") (.int 1)] ++ (nT tmL .int 5 zLowI ++ (nT tmH .int 5 zHighI ++ (nT tmO .byte 100 zOnesI ++ (nT tmT .byte 100 zTensI ++ [.isRef (.static "jdk/internal/util/Preconditions" "SIOOBE_FORMATTER" "Ljava/util/function/BiFunction;")])))))
def nX2 : List Cond := ((List.range 14).map nS).flatten
set_option maxRecDepth 100000 in
theorem nX1_eq : (zFl.drop 4).take 232 = nX1 := by decide +kernel
set_option maxRecDepth 100000 in
theorem nX2_eq : (zFl.drop 239).take 218 = nX2 := by decide +kernel
theorem nX1_in {w : Cond} (h : w ∈ nX1) : w ∈ zFl := List.mem_of_mem_drop (List.mem_of_mem_take (nX1_eq ▸ h))
theorem nX2_in {w : Cond} (h : w ∈ nX2) : w ∈ zFl := List.mem_of_mem_drop (List.mem_of_mem_take (nX2_eq ▸ h))
theorem nS_in {i : Nat} (hi : i < 14) {w : Cond} (h : w ∈ nS i) : w ∈ zFl := nX2_in (List.mem_flatten.mpr ⟨nS i, List.mem_map_of_mem (List.mem_range.mpr hi), h⟩)
section ZS0
variable {args : Array Value} {s : State} {A : Nat → Prop}
theorem nT_of {tm : Term} {ty : FieldType} {N : Nat} {f : Nat → Int32} (hN : N < 2 ^ 31) (h : ∀ w ∈ nT tm ty N f, w.before args s = true) (hA : ∀ a : Nat, a < s.heap.size → ¬ A a) : ∃ t : Nat, tm.eval args s none [] s = some (.ref t) ∧ va_T ty t N (fun j => .int (f j)) A s s.heap :=
  va_Tof hN (h _ (List.mem_append_left _ (List.mem_cons_of_mem _ List.mem_cons_self))) (va_eqt (h _ (List.mem_append_left _ (List.mem_cons_of_mem _ (List.mem_cons_of_mem _ List.mem_cons_self))))) (fun j hj => va_eqt (h _ (List.mem_append_right _ (List.mem_map_of_mem (f := fun j => Cond.eq (.elem tm (.int (Int32.ofNat j))) (.int (f j))) (List.mem_range.mpr hj))))) hA
theorem z_strs (hf : ∀ w ∈ zFl, w.before args s = true) (hA : ∀ a : Nat, a < s.heap.size → ¬ A a) : ∃ adK adV : Nat → Nat, vk_S 14 (zStr.map (fun q => q.2.2.2.length)) (zStr.map (fun q => q.2.2.2)) adK adV A s s.heap ∧ ∀ i : Nat, i < 14 → (tS i).eval args s none [] s = some (.ref (adK i)) := by
  refine vk_Sof (tm := tS) ?_ ?_ ?_ ?_ ?_ ?_ ?_ hA
  · intro i hi
    rcases (show i = 0 ∨ i = 1 ∨ i = 2 ∨ i = 3 ∨ i = 4 ∨ i = 5 ∨ i = 6 ∨ i = 7 ∨ i = 8 ∨ i = 9 ∨ i = 10 ∨ i = 11 ∨ i = 12 ∨ i = 13 by omega) with rfl | rfl | rfl | rfl | rfl | rfl | rfl | rfl | rfl | rfl | rfl | rfl | rfl | rfl <;> decide
  · exact fun i hi => hf _ (nS_in hi (List.mem_append_left _ List.mem_cons_self))
  · exact fun i hi => hf _ (nS_in hi (List.mem_append_left _ (List.mem_cons_of_mem _ List.mem_cons_self)))
  · exact fun i hi => hf _ (nS_in hi (List.mem_append_left _ (List.mem_cons_of_mem _ (List.mem_cons_of_mem _ List.mem_cons_self))))
  · exact fun i hi => hf _ (nS_in hi (List.mem_append_left _ (List.mem_cons_of_mem _ (List.mem_cons_of_mem _ (List.mem_cons_of_mem _ List.mem_cons_self)))))
  · exact fun i hi j hj => hf _ (nS_in hi (List.mem_append_right _ (List.mem_append_left _ (List.mem_map_of_mem (f := fun j => Cond.eq (.elem (tV i) (.int (Int32.ofNat j))) (.int (zSB i j))) (List.mem_range.mpr hj)))))
  · intro i j hi hj hij
    by_cases h : i < j
    · exact Or.inl (hf _ (nS_in hj (List.mem_append_right _ (List.mem_append_right _ (List.mem_map_of_mem (f := fun i => Cond.not (Cond.eq (tS i) (tS j))) (List.mem_range.mpr h))))))
    · exact Or.inr (hf _ (nS_in hi (List.mem_append_right _ (List.mem_append_right _ (List.mem_map_of_mem (f := fun j => Cond.not (Cond.eq (tS j) (tS i))) (List.mem_range.mpr (by omega)))))))
theorem z_aR (hcond : ∀ ty : FieldType, ∀ x : String, ty ≠ .object x) : True := trivial

theorem z_refs (hts : ∀ w ∈ lw_tbl, w.before args s = true) {adK : Nat → Nat} (hv : ∀ i : Nat, i < 14 → (tS i).eval args s none [] s = some (.ref (adK i))) : ∀ (k : Nat) (q : String × Nat × String × List Int32), zStr[k]? = some q → vk_R q.1 q.2.1 q.2.2.1 (adK k) s
  | 0, q, h => by cases h; exact vk_R.of (hts _ (tb_3 (List.mem_of_getElem? (i := 190) rfl))) (hv 0 (by decide))
  | 1, q, h => by cases h; exact vk_R.of (hts _ (tb_3 (List.mem_of_getElem? (i := 191) rfl))) (hv 1 (by decide))
  | 2, q, h => by cases h; exact vk_R.of (hts _ (tb_3 (List.mem_of_getElem? (i := 192) rfl))) (hv 2 (by decide))
  | 3, q, h => by cases h; exact vk_R.of (hts _ (tb_3 (List.mem_of_getElem? (i := 193) rfl))) (hv 3 (by decide))
  | 4, q, h => by cases h; exact vk_R.of (hts _ (tb_3 (List.mem_of_getElem? (i := 194) rfl))) (hv 4 (by decide))
  | 5, q, h => by cases h; exact vk_R.of (hts _ (tb_3 (List.mem_of_getElem? (i := 195) rfl))) (hv 5 (by decide))
  | 6, q, h => by cases h; exact vk_R.of (hts _ (tb_4 (List.mem_of_getElem? (i := 80) rfl))) (hv 6 (by decide))
  | 7, q, h => by cases h; exact vk_R.of (hts _ (tb_4 (List.mem_of_getElem? (i := 126) rfl))) (hv 7 (by decide))
  | 8, q, h => by cases h; exact vk_R.of (hts _ (tb_4 (List.mem_of_getElem? (i := 127) rfl))) (hv 8 (by decide))
  | 9, q, h => by cases h; exact vk_R.of (hts _ (tb_4 (List.mem_of_getElem? (i := 128) rfl))) (hv 9 (by decide))
  | 10, q, h => by cases h; exact vk_R.of (hts _ (tb_4 (List.mem_of_getElem? (i := 129) rfl))) (hv 10 (by decide))
  | 11, q, h => by cases h; exact vk_R.of (hts _ (tb_4 (List.mem_of_getElem? (i := 134) rfl))) (hv 11 (by decide))
  | 12, q, h => by cases h; exact vk_R.of (hts _ (tb_4 (List.mem_of_getElem? (i := 135) rfl))) (hv 12 (by decide))
  | 13, q, h => by cases h; exact vk_R.of (hts _ (tb_4 (List.mem_of_getElem? (i := 136) rfl))) (hv 13 (by decide))
  | _ + 14, q, h => by cases h
theorem z_nest (hts : ∀ w ∈ lw_tbl, w.before args s = true) : ∀ w ∈ zNest, va_Nw w s := List.forall_mem_cons.mpr ⟨va_Nw.of (by decide +kernel) (hts _ (tb_1 (List.mem_of_getElem? (i := 36) rfl))), List.forall_mem_cons.mpr ⟨va_Nw.of (by decide +kernel) (hts _ (tb_1 (List.mem_of_getElem? (i := 56) rfl))), List.forall_mem_cons.mpr ⟨va_Nw.of (by decide +kernel) (hts _ (tb_1 (List.mem_of_getElem? (i := 71) rfl))), List.forall_mem_cons.mpr ⟨va_Nw.of (by decide +kernel) (hts _ (tb_1 (List.mem_of_getElem? (i := 171) rfl))), List.forall_mem_cons.mpr ⟨va_Nw.of (by decide +kernel) (hts _ (tb_2 (List.mem_of_getElem? (i := 48) rfl))), List.forall_mem_cons.mpr ⟨va_Nw.of (by decide +kernel) (hts _ (tb_2 (List.mem_of_getElem? (i := 87) rfl))), List.forall_mem_cons.mpr ⟨va_Nw.of (by decide +kernel) (hts _ (tb_1 (List.mem_of_getElem? (i := 41) rfl))), List.forall_mem_cons.mpr ⟨va_Nw.of (by decide +kernel) (hts _ (tb_1 (List.mem_of_getElem? (i := 43) rfl))), List.forall_mem_cons.mpr ⟨va_Nw.of (by decide +kernel) (hts _ (tb_1 (List.mem_of_getElem? (i := 45) rfl))), List.forall_mem_cons.mpr ⟨va_Nw.of (by decide +kernel) (hts _ (tb_1 (List.mem_of_getElem? (i := 61) rfl))), List.forall_mem_cons.mpr ⟨va_Nw.of (by decide +kernel) (hts _ (tb_1 (List.mem_of_getElem? (i := 63) rfl))), List.forall_mem_cons.mpr ⟨va_Nw.of (by decide +kernel) (hts _ (tb_1 (List.mem_of_getElem? (i := 80) rfl))), List.forall_mem_cons.mpr ⟨va_Nw.of (by decide +kernel) (hts _ (tb_1 (List.mem_of_getElem? (i := 92) rfl))), List.forall_mem_cons.mpr ⟨va_Nw.of (by decide +kernel) (hts _ (tb_1 (List.mem_of_getElem? (i := 98) rfl))), List.forall_mem_cons.mpr ⟨va_Nw.of (by decide +kernel) (hts _ (tb_1 (List.mem_of_getElem? (i := 101) rfl))), List.forall_mem_cons.mpr ⟨va_Nw.of (by decide +kernel) (hts _ (tb_1 (List.mem_of_getElem? (i := 104) rfl))), List.forall_mem_cons.mpr ⟨va_Nw.of (by decide +kernel) (hts _ (tb_1 (List.mem_of_getElem? (i := 106) rfl))), List.forall_mem_cons.mpr ⟨va_Nw.of (by decide +kernel) (hts _ (tb_1 (List.mem_of_getElem? (i := 179) rfl))), List.forall_mem_cons.mpr ⟨va_Nw.of (by decide +kernel) (hts _ (tb_1 (List.mem_of_getElem? (i := 181) rfl))), List.forall_mem_cons.mpr ⟨va_Nw.of (by decide +kernel) (hts _ (tb_1 (List.mem_of_getElem? (i := 183) rfl))), List.forall_mem_cons.mpr ⟨va_Nw.of (by decide +kernel) (hts _ (tb_1 (List.mem_of_getElem? (i := 185) rfl))), List.forall_mem_cons.mpr ⟨va_Nw.of (by decide +kernel) (hts _ (tb_2 (List.mem_of_getElem? (i := 51) rfl))), List.forall_mem_cons.mpr ⟨va_Nw.of (by decide +kernel) (hts _ (tb_2 (List.mem_of_getElem? (i := 53) rfl))), fun _ h => (List.not_mem_nil h).elim⟩⟩⟩⟩⟩⟩⟩⟩⟩⟩⟩⟩⟩⟩⟩⟩⟩⟩⟩⟩⟩⟩⟩
theorem z_start0 (hts : ∀ w ∈ lw_tbl, w.before args s = true) (hf : ∀ w ∈ zFl, w.before args s = true) (hA : ∀ a : Nat, a < s.heap.size → ¬ A a) (c4 : ClassId × ClassId × ClassId × ClassId) : ∃ G : zG, G.1 = c4 ∧ zF G A s s.heap := by
  have hX : ∀ w ∈ nX1, w.before args s = true := fun w h => hf w (nX1_in h)
  unfold nX1 at hX
  obtain ⟨h1, hX⟩ := List.forall_mem_append.mp hX
  obtain ⟨h2, hX⟩ := List.forall_mem_append.mp hX
  obtain ⟨h3, hX⟩ := List.forall_mem_append.mp hX
  obtain ⟨h4, hX⟩ := List.forall_mem_append.mp hX
  obtain ⟨h5, hX⟩ := List.forall_mem_append.mp hX
  obtain ⟨h6, h7⟩ := List.forall_mem_append.mp hX
  obtain ⟨t1, e1, v1⟩ := nT_of (by decide) h1 hA
  obtain ⟨t3, e3, v3⟩ := nT_of (by decide) h3 hA
  obtain ⟨t4, e4, v4⟩ := nT_of (by decide) h4 hA
  obtain ⟨t5, e5, v5⟩ := nT_of (by decide) h5 hA
  obtain ⟨t6, e6, v6⟩ := nT_of (by decide) h6 hA
  obtain ⟨adK, adV, hs, hv⟩ := z_strs hf hA
  refine ⟨(c4, (t3, t4, t1), (t5, t6), adK, adV), rfl, z_nest hts, ⟨va_Zof (hts _ (tb_2 (List.mem_of_getElem? (i := 52) rfl))) (hts _ (tb_1 (List.mem_of_getElem? (i := 1) rfl))) e3 hA, v3⟩, ⟨va_Zof (hts _ (tb_2 (List.mem_of_getElem? (i := 54) rfl))) (hts _ (tb_1 (List.mem_of_getElem? (i := 1) rfl))) e4 hA, v4⟩, ⟨va_Zof (hts _ (tb_1 (List.mem_of_getElem? (i := 93) rfl))) (hts _ (tb_1 (List.mem_of_getElem? (i := 1) rfl))) e1 hA, v1⟩, ⟨va_Zof (hts _ (tb_3 (List.mem_of_getElem? (i := 112) rfl))) (hts _ (tb_1 (List.mem_of_getElem? (i := 18) rfl))) e5 hA, v5⟩, ⟨va_Zof (hts _ (tb_3 (List.mem_of_getElem? (i := 114) rfl))) (hts _ (tb_1 (List.mem_of_getElem? (i := 18) rfl))) e6 hA, v6⟩, va_Zof (hts _ (tb_1 (List.mem_of_getElem? (i := 215) rfl))) (hts _ (tb_1 (List.mem_of_getElem? (i := 11) rfl))) (va_eqt (h2 _ List.mem_cons_self)) hA, va_Zqof (hts _ (tb_3 (List.mem_of_getElem? (i := 128) rfl))) (hts _ (tb_1 (List.mem_of_getElem? (i := 19) rfl))) (h7 _ List.mem_cons_self) hA, hs, z_refs hts hv, va_AO.of (hts _ (tb_1 (List.mem_of_getElem? (i := 160) rfl)))⟩
theorem z_class (hts : ∀ w ∈ lw_tbl, w.before args s = true) : ∃ (D : va_G) (c4 : ClassId × ClassId × ClassId × ClassId), ∀ G : zG, G.1 = c4 → va_K D vwCl (zTY G) s := by
  obtain ⟨c0, i0, k0⟩ := u_known (C := RJ4) (T := TJ4) (N := 4) (n := 4) hts wf_J4 (hts _ (tb_1 (List.mem_of_getElem? (i := 206) rfl)))
  obtain ⟨c1, i1, k1⟩ := u_known (C := RX0) (T := TX0) (N := 2) (n := 2) hts wf_X0 (hts _ (tb_1 (List.mem_of_getElem? (i := 55) rfl)))
  obtain ⟨c2, i2, k2⟩ := u_known (C := RX1) (T := TX1) (N := 17) (n := 17) hts wf_X1 (hts _ (tb_1 (List.mem_of_getElem? (i := 29) rfl)))
  obtain ⟨c3, i3, k3⟩ := u_known (C := RX2) (T := TX2) (N := 2) (n := 2) hts wf_X2 (hts _ (tb_1 (List.mem_of_getElem? (i := 154) rfl)))
  obtain ⟨c4, i4, k4⟩ := u_known (C := RX3) (T := TX3) (N := 5) (n := 5) hts wf_X3 (hts _ (tb_1 (List.mem_of_getElem? (i := 70) rfl)))
  obtain ⟨c5, i5, k5⟩ := u_known (C := RX4) (T := TX4) (N := 8) (n := 8) hts wf_X4 (hts _ (tb_1 (List.mem_of_getElem? (i := 170) rfl)))
  obtain ⟨c6, i6, k6⟩ := u_known (C := RX5) (T := TX5) (N := 3) (n := 3) hts wf_X5 (hts _ (tb_1 (List.mem_of_getElem? (i := 35) rfl)))
  obtain ⟨c7, i7, k7⟩ := u_known (C := RX6) (T := TX6) (N := 5) (n := 5) hts wf_X6 (hts _ (tb_1 (List.mem_of_getElem? (i := 21) rfl)))
  obtain ⟨c8, i8, k8⟩ := u_known (C := RX7) (T := TX7) (N := 11) (n := 11) hts wf_X7 (hts _ (tb_4 (List.mem_of_getElem? (i := 176) rfl)))
  have ha : ∀ ty : FieldType, (∀ x : String, ty ≠ .object x) → (Cond.arrayClass ty).before args s = true → ∃ cA : ClassId, ArrOfT s cA ty ∧ s.vm.findClass ("[" ++ ty.toString) = some cA := by
    intro ty _ h
    obtain ⟨cA, kA, comp, h1, h2, h3⟩ := Cond.arrayClass_spec h
    exact ⟨cA, fun n z => ⟨fun k h => (by cases h), kA, h2, comp, h3⟩, h1⟩
  obtain ⟨aI, bI, dI⟩ := ha .int (fun _ h => by cases h) (hts _ (tb_1 (List.mem_of_getElem? (i := 53) rfl)))
  obtain ⟨aC, bC, dC⟩ := ha .char (fun _ h => by cases h) (hts _ (tb_1 (List.mem_of_getElem? (i := 204) rfl)))
  obtain ⟨aB, bB, dB⟩ := ha .byte (fun _ h => by cases h) (hts _ (tb_1 (List.mem_of_getElem? (i := 236) rfl)))
  obtain ⟨comp, aO, kA, f1, f0, f2, f3, f4⟩ := Cond.arrayOver_spec (hts _ (tb_1 (List.mem_of_getElem? (i := 160) rfl)))
  refine ⟨(fun k => match k with | 0 => c0 | 1 => c1 | 2 => c2 | 3 => c3 | 4 => c4 | 5 => c5 | 6 => c6 | 7 => c7 | _ => c8, fun k => match k with | 0 => i0 | 1 => i1 | 2 => i2 | 3 => i3 | 4 => i4 | 5 => i5 | 6 => i6 | 7 => i7 | _ => i8), (aI, aC, aB, aO), ?_⟩
  intro G hG
  have hT : zTY G = [(aI, .int), (aC, .char), (aB, .byte), (aO, .object "QuietChecks$Disk")] := by
    unfold zTY
    rw [hG]
  rw [hT]
  refine ⟨?_, ?_⟩
  · intro k q hq
    match k, hq with
    | 0, hq => cases hq; exact k0
    | 1, hq => cases hq; exact k1
    | 2, hq => cases hq; exact k2
    | 3, hq => cases hq; exact k3
    | 4, hq => cases hq; exact k4
    | 5, hq => cases hq; exact k5
    | 6, hq => cases hq; exact k6
    | 7, hq => cases hq; exact k7
    | 8, hq => cases hq; exact k8
    | k + 9, hq => cases hq
  · intro k q hq
    match k, hq with
    | 0, hq => cases hq; exact ⟨bI, dI⟩
    | 1, hq => cases hq; exact ⟨bC, dC⟩
    | 2, hq => cases hq; exact ⟨bB, dB⟩
    | 3, hq => cases hq; exact ⟨fun n z => ⟨fun k h => (by cases h), kA, f2, comp, f3⟩, kA, comp, f2, f3, f1, f4⟩
    | k + 4, hq => cases hq
end ZS0
set_option maxHeartbeats 4000000 in
set_option maxRecDepth 100000 in
theorem z_whole (hpure : ∀ (L : Nat) (xs : Nat → Int32) (ar : Nat → Nat → Nat), L ≤ 1536 → qL 600 L xs 0 (iX6 ar) iX7 = some ()) {p : Program} {e : Env} {s : State} {m : MethodId} {below : List Frame} {meth : Method} {c : Code} (l : Launch) {b L : Nat} {xs : Nat → Int32} (hL : L ≤ 1536) (C0 : lw_At p s m meth c b L xs) : W p l e room_1 s m #[Value.ref b] below meth c s.heap [] 0 0 (lw_Z below #[Value.ref b] s) (entryFrame m ([Value.ref b] : List Value).toArray 4) := by
  obtain ⟨hx, hb, hr, hml, hown0, hts, hX, hbl, hlocks, hgv⟩ := id C0
  have hA : ∀ q : Nat, s.heap.size ≤ q → (fun q : Nat => s.heap.size ≤ q) q := fun _ h => h
  have hA' : ∀ a : Nat, a < s.heap.size → ¬ (fun q : Nat => s.heap.size ≤ q) a := fun a h => Nat.not_le.mpr h
  have hbA : ¬ (fun q : Nat => s.heap.size ≤ q) b := Nat.not_le.mpr hbl
  obtain ⟨D, c4, hK⟩ := z_class hts
  obtain ⟨G, hG, hF⟩ := z_start0 hts (flat_of_before _ hgv) hA' c4
  replace hK := hK G hG
  have hW := wsL_before hts
  have hown : s.vm.findClass RL = some m.cls := hown0
  have C0 : zCx p s m #[.ref b] meth c cL_law 4 ret RL D G (fun q : Nat => s.heap.size ≤ q) := ⟨hx, hb, hml, hown, hW, hK, hlocks, hF, hr, hA⟩
  have hS : va_S (fun q : Nat => s.heap.size ≤ q) s.heap s.heap [] := va_S.rf
  have hP : va_P D vwCl [] s.heap := fun k q h => by simp at h
  have hD : va_D (fun q : Nat => s.heap.size ≤ q) [] := ⟨fun i j p q h => by simp at h, fun k q h => by simp at h⟩
  have hl := lv_entry ([.ref b]) (n := 4) (Nat.le_of_ble_eq_true rfl)
  rw [lg_entry_eq]
  generalize (lg_sl ([.ref b]) ++ List.replicate (4 - (lg_sl ([.ref b])).length) Slot.unset).toArray = ls at hl ⊢
  replace hl : lv_has ls 4 [(0, .ref b)] := hl
  refine va_new (ci := 7) (fs := [.null, .null, .null, .null, .null]) (C := RX6) (T := TX6) (N := 5) hx hb hW inlX6 tyX6 tyX6_ok hown (hW _ wd_0) (hW _ wd_1) (hW _ wd_2) hK hP hD hS hA rfl (fun j hj => by rcases (show j = 0 ∨ j = 1 ∨ j = 2 ∨ j = 3 ∨ j = 4 by omega) with rfl | rfl | rfl | rfl | rfl <;> rfl) (Nat.le_of_ble_eq_true rfl) (Nat.le_of_ble_eq_true rfl) dL_law_0 (fun q0 H hP hD hS => ?_)
  replace hP : va_P D vwCl [(q0, .inr (7, [.null, .null, .null, .null, .null]))] H := hP
  replace hD : va_D (fun q : Nat => s.heap.size ≤ q) [(q0, .inr (7, [.null, .null, .null, .null, .null]))] := hD
  refine lv_dup hx hb dL_law_3 rfl ?_
  refine z_ci (rest := [.ref q0]) (ws' := fun (u : (Nat → Nat) × (Nat → Nat → Nat)) => wX6 G (zad q0 u.1) 0 (iX6 u.2)) C0 wd_6 wd_7 wd_2 wd_8 rfl (n := 0) (by decide +kernel) (c_X6_init l D G q0) z_pall (fun _ => z_pall.symm) rfl ⟨Nat.le_of_ble_eq_true rfl, Nat.le_of_ble_eq_true rfl⟩ (Nat.le_of_ble_eq_true rfl) rfl hl.1 ⟨Nat.le_of_ble_eq_true rfl, Nat.le_of_ble_eq_true rfl⟩ hP hD hS dL_law_4 (fun u H locs hP hD hS => ?_)
  refine lv_astore_n (lv' := [(1, .ref (zad q0 u.1 0)), (0, .ref b)]) hx hb dL_law_7 rfl hl (by decide) rfl (fun ls hl => ?_)
  refine va_new (ci := 8) (fs := [.null, .null, .null, .int 0, .null, .int 0, .int 0, .int 0, .int 0, .int 0, .int 0]) (C := RX7) (T := TX7) (N := 11) hx hb hW inlX7 tyX7 tyX7_ok hown (hW _ wd_3) (hW _ wd_4) (hW _ wd_5) hK hP hD hS hA rfl (fun j hj => by rcases (show j = 0 ∨ j = 1 ∨ j = 2 ∨ j = 3 ∨ j = 4 ∨ j = 5 ∨ j = 6 ∨ j = 7 ∨ j = 8 ∨ j = 9 ∨ j = 10 by omega) with rfl | rfl | rfl | rfl | rfl | rfl | rfl | rfl | rfl | rfl | rfl <;> rfl) (Nat.le_of_ble_eq_true rfl) (Nat.le_of_ble_eq_true rfl) dL_law_8 (fun q1 H hP hD hS => ?_)
  refine lv_dup hx hb dL_law_11 rfl ?_
  refine z_ci (rest := [.ref q1]) (ws' := fun (u1 : Nat → Nat) => wX6 G (zad q0 u.1) 0 (iX6 u.2) ++ wX7 G (zad q1 u1) 0 iX7) C0 wd_123 wd_124 wd_5 wd_125 rfl (n := 0) (by decide +kernel) (c_X7_init l D G q1) z_pap (fun _ => z_pap) rfl ⟨Nat.le_of_ble_eq_true rfl, Nat.le_of_ble_eq_true rfl⟩ (Nat.le_of_ble_eq_true rfl) rfl hl.1 ⟨Nat.le_of_ble_eq_true rfl, Nat.le_of_ble_eq_true rfl⟩ hP hD hS dL_law_12 (fun u1 H locs hP hD hS => ?_)
  refine lv_astore_n (lv' := [(2, .ref (zad q1 u1 0)), (1, .ref (zad q0 u.1 0)), (0, .ref b)]) hx hb dL_law_15 rfl hl (by decide) rfl (fun ls hl => ?_)
  refine lv_iconst (v := nI 0) hx hb dL_law_16 (by decide) ?_
  refine lv_istore_n (lv' := [(3, .int (nI 0)), (2, .ref (zad q1 u1 0)), (1, .ref (zad q0 u.1 0)), (0, .ref b)]) hx hb dL_law_17 rfl hl (by decide) rfl (fun ls hl => ?_)
  refine W.widen (k := 600000) (n := 7302249) (Nat.le_of_ble_eq_true rfl) (Nat.le_of_ble_eq_true rfl) ?_
  refine cL_loop C0 hX hbl hbA hL ⟨Nat.le_of_ble_eq_true rfl, Nat.le_of_ble_eq_true rfl⟩ (fun H1 locs1 ls1 hS => ?_) 600 0 (iX6 u.2) iX7 (hpure L xs u.2 hL) (by omega) H locs ls hP hD hS hl
  refine lv_iconst (v := 1) hx hb dL_law_764 (by decide) ?_
  refine va_forget (fun q hq => hS.2.2 q hq) ?_
  exact lw_ret hx hb hr hlocks dL_law_765
