/-! the start of the law: what the Statement gives, the two objects made, the loop entered -/
def R_law : String := "QuietChecksLaw"
def lw_P (b : Addr) (xs : List Int32) (args : Array Value) (s : State) : Prop := args = #[.ref b] ∧ s.IntsAt b xs ∧ xs.length ≤ 260 ∧ (Jvm.Cond.and given_1 narrow_1).before args s = true
def lw_Q (_ : Array Value) (s : State) (o : Outcome) (t : State) : Prop := o = .returned (some (.int 1)) ∧ Framed s o t [] 600000 7302250
def lw_Z (below : List Frame) (a : Array Value) (s : State) : State → Prop := fun t => ∃ o, t.status = .running ∧ Ended t below o ∧ lw_Q a s o t
/-- the law's own end, with 1 on the stack, nothing written that was there before, its room as the claim has it -/
theorem lw_ret {p : Program} {l : Launch} {e : Env} {s : State} {m : MethodId} {below : List Frame} {meth : Method} {c : Code} {b : Nat} (hx : p.tables.exec = Jvm.exec) (hb : c.code = code) (hr : meth.sig.returnType = ret) (hlocks : meth.locks = false) {pc : Nat} {H : Heap} {ls : Array Slot} (hdg : decode code pc = .ok (.ireturn, 1)) : W p l e room_1 s m #[Value.ref b] below meth c H [] 600000 7302250 (lw_Z below #[Value.ref b] s) (F0 m pc ls [.int 1]) := by
  intro T hT X
  obtain ⟨fs, hret, hrun, hended, hW, hframe⟩ := X.leave (v := some (.int 1)) (hlocks := hlocks) (fun h => by rw [hr] at h; cases h)
  have hmeth' : T.vm.method? m = some meth := X.method'
  refine ⟨T.setFrames fs, ?_, .returned (some (.int 1)), hrun, hended, rfl, ⟨_, rfl⟩, hW, hframe⟩
  jvm_step X.here [X.here.top, hx, hb, hdg, hmeth', hr, ret, narrow_b1]
  (try refine ⟨rfl, ?_⟩); (try refine ⟨rfl, ?_⟩)
  first | (intro acts; rw [hret _ acts rfl rfl rfl]) | rw [hret _ _ rfl rfl rfl]
  exact Steps.refl _
/-- what holds at the law's entry: the machine, the code, the tables' words (any of lw_tbl by 'hts w (by decide +kernel)'), the script of L ints xs at the cell b, what the Statement gives of the start (any of its parts by flat_of_before) -/
def lw_At (p : Program) (s : State) (m : MethodId) (meth : Method) (c : Code) (b L : Nat) (xs : Nat → Int32) : Prop :=
  p.tables.exec = Jvm.exec ∧ c.code = code ∧ meth.sig.returnType = ret ∧ c.maxLocals = 16 ∧ s.vm.findClass R_law = some m.cls ∧ (∀ w ∈ lw_tbl, w.before #[Value.ref b] s = true) ∧ va_X b L xs s s.heap ∧ b < s.heap.size ∧ meth.locks = false ∧ (Jvm.Cond.and given_1 narrow_1).before #[Value.ref b] s = true
def zFl : List Cond := flatC (Cond.and given_1 narrow_1)
def nT (tm : Term) (ty : FieldType) (N : Nat) (f : Nat → Int32) : List Cond := [.isRef tm, .arrayOf tm ty, .eq (.length tm) (.int (Int32.ofNat N))] ++ (List.range N).map (fun j => Cond.eq (.elem tm (.int (Int32.ofNat j))) (.int (f j)))
def zqs (i : Nat) : String × Nat × String × List Int32 := zStr.getD i ("", 0, "", [])
def tS (i : Nat) : Term := .string (zqs i).1 (zqs i).2.1
def tV (i : Nat) : Term := .field (tS i) "java/lang/String" "value" "[B"
def nS (i : Nat) : List Cond := [.exactly (tS i) "java/lang/String", .eq (.field (tS i) "java/lang/String" "coder" "B") (.int 0), .arrayOf (tV i) .byte, .eq (.length (tV i)) (.int (Int32.ofNat (zSL i)))] ++ ((List.range (zSL i)).map (fun j => Cond.eq (.elem (tV i) (.int (Int32.ofNat j))) (.int (zSB i j))) ++ (List.range i).map (fun j => Cond.not (Cond.eq (tS j) (tS i))))
abbrev tmF : Term := .static "QuietChecks" "FIRST_SETTING" "[I"
abbrev tmL : Term := .static "QuietChecks" "LOWEST_SETTING" "[I"
abbrev tmH : Term := .static "QuietChecks" "HIGHEST_SETTING" "[I"
abbrev tmO : Term := .static "java/lang/Integer" "DigitOnes" "[B"
abbrev tmT : Term := .static "java/lang/Integer" "DigitTens" "[B"
def nX1 : List Cond := nT tmF .int 5 zFirstI ++ ([.eq (.static "java/lang/String" "COMPACT_STRINGS" "Z") (.int 1)] ++ (nT tmL .int 5 zLowI ++ (nT tmH .int 5 zHighI ++ (nT tmO .byte 100 zOnesI ++ (nT tmT .byte 100 zTensI ++ [.isRef (.static "jdk/internal/util/Preconditions" "SIOOBE_FORMATTER" "Ljava/util/function/BiFunction;")])))))
def nX2 : List Cond := ((List.range 6).map nS).flatten
set_option maxRecDepth 100000 in
theorem nX1_eq : (zFl.drop 4).take 232 = nX1 := by decide +kernel
set_option maxRecDepth 100000 in
theorem nX2_eq : (zFl.drop 239).take 72 = nX2 := by decide +kernel
theorem nX1_in {w : Cond} (h : w ∈ nX1) : w ∈ zFl := List.mem_of_mem_drop (List.mem_of_mem_take (nX1_eq ▸ h))
theorem nX2_in {w : Cond} (h : w ∈ nX2) : w ∈ zFl := List.mem_of_mem_drop (List.mem_of_mem_take (nX2_eq ▸ h))
theorem nS_in {i : Nat} (hi : i < 6) {w : Cond} (h : w ∈ nS i) : w ∈ zFl := nX2_in (List.mem_flatten.mpr ⟨nS i, List.mem_map_of_mem (List.mem_range.mpr hi), h⟩)
section ZS0
variable {args : Array Value} {s : State} {A : Nat → Prop}
theorem nT_of {tm : Term} {ty : FieldType} {N : Nat} {f : Nat → Int32} (hN : N < 2 ^ 31) (h : ∀ w ∈ nT tm ty N f, w.before args s = true) (hA : ∀ a : Nat, a < s.heap.size → ¬ A a) : ∃ t : Nat, tm.eval args s none [] s = some (.ref t) ∧ va_T ty t N (fun j => .int (f j)) A s s.heap :=
  va_Tof hN (h _ (List.mem_append_left _ (List.mem_cons_of_mem _ List.mem_cons_self))) (va_eqt (h _ (List.mem_append_left _ (List.mem_cons_of_mem _ (List.mem_cons_of_mem _ List.mem_cons_self))))) (fun j hj => va_eqt (h _ (List.mem_append_right _ (List.mem_map_of_mem (f := fun j => Cond.eq (.elem tm (.int (Int32.ofNat j))) (.int (f j))) (List.mem_range.mpr hj))))) hA
theorem z_strs (hf : ∀ w ∈ zFl, w.before args s = true) (hA : ∀ a : Nat, a < s.heap.size → ¬ A a) : ∃ adK adV : Nat → Nat, vk_S 6 (zStr.map (fun q => q.2.2.2.length)) (zStr.map (fun q => q.2.2.2)) adK adV A s s.heap ∧ ∀ i : Nat, i < 6 → (tS i).eval args s none [] s = some (.ref (adK i)) := by
  refine vk_Sof (tm := tS) ?_ ?_ ?_ ?_ ?_ ?_ ?_ hA
  · intro i hi
    rcases (show i = 0 ∨ i = 1 ∨ i = 2 ∨ i = 3 ∨ i = 4 ∨ i = 5 by omega) with rfl | rfl | rfl | rfl | rfl | rfl <;> decide
  · exact fun i hi => hf _ (nS_in hi (List.mem_append_left _ List.mem_cons_self))
  · exact fun i hi => hf _ (nS_in hi (List.mem_append_left _ (List.mem_cons_of_mem _ List.mem_cons_self)))
  · exact fun i hi => hf _ (nS_in hi (List.mem_append_left _ (List.mem_cons_of_mem _ (List.mem_cons_of_mem _ List.mem_cons_self))))
  · exact fun i hi => hf _ (nS_in hi (List.mem_append_left _ (List.mem_cons_of_mem _ (List.mem_cons_of_mem _ (List.mem_cons_of_mem _ List.mem_cons_self)))))
  · exact fun i hi j hj => hf _ (nS_in hi (List.mem_append_right _ (List.mem_append_left _ (List.mem_map_of_mem (f := fun j => Cond.eq (.elem (tV i) (.int (Int32.ofNat j))) (.int (zSB i j))) (List.mem_range.mpr hj)))))
  · intro i j hi hj hij
    by_cases h : i < j
    · exact Or.inl (hf _ (nS_in hj (List.mem_append_right _ (List.mem_append_right _ (List.mem_map_of_mem (f := fun i => Cond.not (Cond.eq (tS i) (tS j))) (List.mem_range.mpr h))))))
    · exact Or.inr (hf _ (nS_in hi (List.mem_append_right _ (List.mem_append_right _ (List.mem_map_of_mem (f := fun j => Cond.not (Cond.eq (tS j) (tS i))) (List.mem_range.mpr (by omega)))))))
theorem z_aR (hcond : ∀ ty : FieldType, ∀ x : String, ty ≠ .object x) : True := trivial

theorem z_refs (hts : ∀ w ∈ lw_tbl, w.before args s = true) {adK : Nat → Nat} (hv : ∀ i : Nat, i < 6 → (tS i).eval args s none [] s = some (.ref (adK i))) : ∀ (k : Nat) (q : String × Nat × String × List Int32), zStr[k]? = some q → vk_R q.1 q.2.1 q.2.2.1 (adK k) s
  | 0, q, h => by cases h; exact vk_R.of (hts _ (tb_3 (List.mem_of_getElem? (i := 231) rfl))) (hv 0 (by decide))
  | 1, q, h => by cases h; exact vk_R.of (hts _ (tb_3 (List.mem_of_getElem? (i := 232) rfl))) (hv 1 (by decide))
  | 2, q, h => by cases h; exact vk_R.of (hts _ (tb_3 (List.mem_of_getElem? (i := 233) rfl))) (hv 2 (by decide))
  | 3, q, h => by cases h; exact vk_R.of (hts _ (tb_3 (List.mem_of_getElem? (i := 234) rfl))) (hv 3 (by decide))
  | 4, q, h => by cases h; exact vk_R.of (hts _ (tb_3 (List.mem_of_getElem? (i := 235) rfl))) (hv 4 (by decide))
  | 5, q, h => by cases h; exact vk_R.of (hts _ (tb_3 (List.mem_of_getElem? (i := 236) rfl))) (hv 5 (by decide))
  | _ + 6, q, h => by cases h
theorem z_nest (hts : ∀ w ∈ lw_tbl, w.before args s = true) : ∀ w ∈ zNest, va_Nw w s := List.forall_mem_cons.mpr ⟨va_Nw.of (by decide +kernel) (hts _ (tb_1 (List.mem_of_getElem? (i := 35) rfl))), List.forall_mem_cons.mpr ⟨va_Nw.of (by decide +kernel) (hts _ (tb_1 (List.mem_of_getElem? (i := 55) rfl))), List.forall_mem_cons.mpr ⟨va_Nw.of (by decide +kernel) (hts _ (tb_1 (List.mem_of_getElem? (i := 70) rfl))), List.forall_mem_cons.mpr ⟨va_Nw.of (by decide +kernel) (hts _ (tb_1 (List.mem_of_getElem? (i := 170) rfl))), List.forall_mem_cons.mpr ⟨va_Nw.of (by decide +kernel) (hts _ (tb_2 (List.mem_of_getElem? (i := 43) rfl))), List.forall_mem_cons.mpr ⟨va_Nw.of (by decide +kernel) (hts _ (tb_2 (List.mem_of_getElem? (i := 82) rfl))), List.forall_mem_cons.mpr ⟨va_Nw.of (by decide +kernel) (hts _ (tb_1 (List.mem_of_getElem? (i := 40) rfl))), List.forall_mem_cons.mpr ⟨va_Nw.of (by decide +kernel) (hts _ (tb_1 (List.mem_of_getElem? (i := 42) rfl))), List.forall_mem_cons.mpr ⟨va_Nw.of (by decide +kernel) (hts _ (tb_1 (List.mem_of_getElem? (i := 44) rfl))), List.forall_mem_cons.mpr ⟨va_Nw.of (by decide +kernel) (hts _ (tb_1 (List.mem_of_getElem? (i := 60) rfl))), List.forall_mem_cons.mpr ⟨va_Nw.of (by decide +kernel) (hts _ (tb_1 (List.mem_of_getElem? (i := 62) rfl))), List.forall_mem_cons.mpr ⟨va_Nw.of (by decide +kernel) (hts _ (tb_1 (List.mem_of_getElem? (i := 79) rfl))), List.forall_mem_cons.mpr ⟨va_Nw.of (by decide +kernel) (hts _ (tb_1 (List.mem_of_getElem? (i := 91) rfl))), List.forall_mem_cons.mpr ⟨va_Nw.of (by decide +kernel) (hts _ (tb_1 (List.mem_of_getElem? (i := 97) rfl))), List.forall_mem_cons.mpr ⟨va_Nw.of (by decide +kernel) (hts _ (tb_1 (List.mem_of_getElem? (i := 100) rfl))), List.forall_mem_cons.mpr ⟨va_Nw.of (by decide +kernel) (hts _ (tb_1 (List.mem_of_getElem? (i := 103) rfl))), List.forall_mem_cons.mpr ⟨va_Nw.of (by decide +kernel) (hts _ (tb_1 (List.mem_of_getElem? (i := 105) rfl))), List.forall_mem_cons.mpr ⟨va_Nw.of (by decide +kernel) (hts _ (tb_2 (List.mem_of_getElem? (i := 46) rfl))), List.forall_mem_cons.mpr ⟨va_Nw.of (by decide +kernel) (hts _ (tb_2 (List.mem_of_getElem? (i := 48) rfl))), fun _ h => (List.not_mem_nil h).elim⟩⟩⟩⟩⟩⟩⟩⟩⟩⟩⟩⟩⟩⟩⟩⟩⟩⟩⟩
theorem z_start0 (hts : ∀ w ∈ lw_tbl, w.before args s = true) (hf : ∀ w ∈ zFl, w.before args s = true) (hA : ∀ a : Nat, a < s.heap.size → ¬ A a) (c4 : ClassId × ClassId × ClassId × ClassId) : ∃ G : zG, G.1 = c4 ∧ zF G A s s.heap := by
  have hX : ∀ w ∈ nX1, w.before args s = true := fun w h => hf w (nX1_in h)
  unfold nX1 at hX
  obtain ⟨h1, hX⟩ := List.forall_mem_append.mp hX
  obtain ⟨h2, hX⟩ := List.forall_mem_append.mp hX
  obtain ⟨h3, hX⟩ := List.forall_mem_append.mp hX
  obtain ⟨h4, hX⟩ := List.forall_mem_append.mp hX
  obtain ⟨h5, hX⟩ := List.forall_mem_append.mp hX
  obtain ⟨h6, h7⟩ := List.forall_mem_append.mp hX
  obtain ⟨t1, e1, v1⟩ := nT_of (by decide) h1 hA
  obtain ⟨t3, e3, v3⟩ := nT_of (by decide) h3 hA
  obtain ⟨t4, e4, v4⟩ := nT_of (by decide) h4 hA
  obtain ⟨t5, e5, v5⟩ := nT_of (by decide) h5 hA
  obtain ⟨t6, e6, v6⟩ := nT_of (by decide) h6 hA
  obtain ⟨adK, adV, hs, hv⟩ := z_strs hf hA
  refine ⟨(c4, (t3, t4, t1), (t5, t6), adK, adV), rfl, z_nest hts, ⟨va_Zof (hts _ (tb_2 (List.mem_of_getElem? (i := 47) rfl))) (hts _ (tb_1 (List.mem_of_getElem? (i := 1) rfl))) e3 hA, v3⟩, ⟨va_Zof (hts _ (tb_2 (List.mem_of_getElem? (i := 49) rfl))) (hts _ (tb_1 (List.mem_of_getElem? (i := 1) rfl))) e4 hA, v4⟩, ⟨va_Zof (hts _ (tb_1 (List.mem_of_getElem? (i := 92) rfl))) (hts _ (tb_1 (List.mem_of_getElem? (i := 1) rfl))) e1 hA, v1⟩, ⟨va_Zof (hts _ (tb_3 (List.mem_of_getElem? (i := 153) rfl))) (hts _ (tb_1 (List.mem_of_getElem? (i := 17) rfl))) e5 hA, v5⟩, ⟨va_Zof (hts _ (tb_3 (List.mem_of_getElem? (i := 155) rfl))) (hts _ (tb_1 (List.mem_of_getElem? (i := 17) rfl))) e6 hA, v6⟩, va_Zof (hts _ (tb_1 (List.mem_of_getElem? (i := 210) rfl))) (hts _ (tb_1 (List.mem_of_getElem? (i := 11) rfl))) (va_eqt (h2 _ List.mem_cons_self)) hA, va_Zqof (hts _ (tb_3 (List.mem_of_getElem? (i := 169) rfl))) (hts _ (tb_1 (List.mem_of_getElem? (i := 18) rfl))) (h7 _ List.mem_cons_self) hA, hs, z_refs hts hv, va_AO.of (hts _ (tb_1 (List.mem_of_getElem? (i := 159) rfl)))⟩
theorem z_class (hts : ∀ w ∈ lw_tbl, w.before args s = true) : ∃ (D : va_G) (c4 : ClassId × ClassId × ClassId × ClassId), ∀ G : zG, G.1 = c4 → va_K D vwCl (zTY G) s := by
  obtain ⟨c0, i0, k0⟩ := u_known (C := RJ4) (T := TJ4) (N := 4) (n := 4) hts wf_J4 (hts _ (tb_1 (List.mem_of_getElem? (i := 201) rfl)))
  obtain ⟨c1, i1, k1⟩ := u_known (C := RX0) (T := TX0) (N := 2) (n := 2) hts wf_X0 (hts _ (tb_1 (List.mem_of_getElem? (i := 54) rfl)))
  obtain ⟨c2, i2, k2⟩ := u_known (C := RX1) (T := TX1) (N := 17) (n := 17) hts wf_X1 (hts _ (tb_1 (List.mem_of_getElem? (i := 28) rfl)))
  obtain ⟨c3, i3, k3⟩ := u_known (C := RX2) (T := TX2) (N := 2) (n := 2) hts wf_X2 (hts _ (tb_1 (List.mem_of_getElem? (i := 153) rfl)))
  obtain ⟨c4, i4, k4⟩ := u_known (C := RX3) (T := TX3) (N := 5) (n := 5) hts wf_X3 (hts _ (tb_1 (List.mem_of_getElem? (i := 69) rfl)))
  obtain ⟨c5, i5, k5⟩ := u_known (C := RX4) (T := TX4) (N := 8) (n := 8) hts wf_X4 (hts _ (tb_1 (List.mem_of_getElem? (i := 169) rfl)))
  obtain ⟨c6, i6, k6⟩ := u_known (C := RX5) (T := TX5) (N := 3) (n := 3) hts wf_X5 (hts _ (tb_1 (List.mem_of_getElem? (i := 34) rfl)))
  obtain ⟨c7, i7, k7⟩ := u_known (C := RX6) (T := TX6) (N := 5) (n := 5) hts wf_X6 (hts _ (tb_1 (List.mem_of_getElem? (i := 20) rfl)))
  have ha : ∀ ty : FieldType, (∀ x : String, ty ≠ .object x) → (Cond.arrayClass ty).before args s = true → ∃ cA : ClassId, ArrOfT s cA ty ∧ s.vm.findClass ("[" ++ ty.toString) = some cA := by
    intro ty _ h
    obtain ⟨cA, kA, comp, h1, h2, h3⟩ := Cond.arrayClass_spec h
    exact ⟨cA, fun n z => ⟨fun k h => (by cases h), kA, h2, comp, h3⟩, h1⟩
  obtain ⟨aI, bI, dI⟩ := ha .int (fun _ h => by cases h) (hts _ (tb_1 (List.mem_of_getElem? (i := 52) rfl)))
  obtain ⟨aC, bC, dC⟩ := ha .char (fun _ h => by cases h) (hts _ (tb_1 (List.mem_of_getElem? (i := 199) rfl)))
  obtain ⟨aB, bB, dB⟩ := ha .byte (fun _ h => by cases h) (hts _ (tb_1 (List.mem_of_getElem? (i := 231) rfl)))
  obtain ⟨comp, aO, kA, f1, f0, f2, f3, f4⟩ := Cond.arrayOver_spec (hts _ (tb_1 (List.mem_of_getElem? (i := 159) rfl)))
  refine ⟨(fun k => match k with | 0 => c0 | 1 => c1 | 2 => c2 | 3 => c3 | 4 => c4 | 5 => c5 | 6 => c6 | _ => c7, fun k => match k with | 0 => i0 | 1 => i1 | 2 => i2 | 3 => i3 | 4 => i4 | 5 => i5 | 6 => i6 | _ => i7), (aI, aC, aB, aO), ?_⟩
  intro G hG
  have hT : zTY G = [(aI, .int), (aC, .char), (aB, .byte), (aO, .object "QuietChecks$Disk")] := by
    unfold zTY
    rw [hG]
  rw [hT]
  refine ⟨?_, ?_⟩
  · intro k q hq
    match k, hq with
    | 0, hq => cases hq; exact k0
    | 1, hq => cases hq; exact k1
    | 2, hq => cases hq; exact k2
    | 3, hq => cases hq; exact k3
    | 4, hq => cases hq; exact k4
    | 5, hq => cases hq; exact k5
    | 6, hq => cases hq; exact k6
    | 7, hq => cases hq; exact k7
    | k + 8, hq => cases hq
  · intro k q hq
    match k, hq with
    | 0, hq => cases hq; exact ⟨bI, dI⟩
    | 1, hq => cases hq; exact ⟨bC, dC⟩
    | 2, hq => cases hq; exact ⟨bB, dB⟩
    | 3, hq => cases hq; exact ⟨fun n z => ⟨fun k h => (by cases h), kA, f2, comp, f3⟩, kA, comp, f2, f3, f1, f4⟩
    | k + 4, hq => cases hq
end ZS0
noncomputable def q_L_ini (u : Nat → Int32) (u1 : Nat → Int32) (u2 : Nat → Int32) (u3 : Nat → Int32) (u4 : Nat → Int32) (u5 : tX6) : Option ((Nat → Int32)) :=
  zn (upd u 3 6) fun s40 => zn (upd s40 5 (-6)) fun s45 => zn (upd s45 13 (-6)) fun s51 => zn (upd s51 15 5) fun s56 => zn (upd s56 16 10) fun s62 => zn (upd s62 17 3) fun s67 => zn (upd s67 18 5) fun s72 => zn (upd s72 19 400) fun s79 => some (s79)
set_option maxRecDepth 100000 in
set_option maxHeartbeats 20000000 in
theorem c_L_ini {p : Program} {l : Launch} {e : Env} {s : State} {m : MethodId} {args : Array Value} {below : List Frame} {meth : Method} {c : Code} {H : Heap} {locs : List Loc} {cells slots : Nat} {Q : State → Prop} {D : va_G} {G : zG} {A : Nat → Prop} {ls : Array Slot} {rt : Option FieldType} (C0 : zCx p s m args meth c cL_law 16 rt RL D G A) (hcs : cells + 0 ≤ room_1.cells ∧ slots + 0 ≤ room_1.slots) (ad : Nat → Nat) (b : Nat) (ad1 : Nat → Nat) (b1 : Nat) (ad2 : Nat → Nat) (b2 : Nat) (ad3 : Nat → Nat) (b3 : Nat) (ad4 : Nat → Nat) (b4 : Nat) (ad5 : Nat → Nat) (b5 : Nat) (sb : Nat) (u : Nat → Int32) (u1 : Nat → Int32) (u2 : Nat → Int32) (u3 : Nat → Int32) (u4 : Nat → Int32) (u5 : tX6) (res : (Nat → Int32)) (hf : q_L_ini u u1 u2 u3 u4 u5 = some res) (hP : va_P D vwCl (wAR G ad b 20 u ++ wAR G ad1 b1 8 u1 ++ wAR G ad2 b2 6 u2 ++ wAR G ad3 b3 20 u3 ++ wAR G ad4 b4 30 u4 ++ wX6 G ad5 b5 u5) H) (hD : va_D A (wAR G ad b 20 u ++ wAR G ad1 b1 8 u1 ++ wAR G ad2 b2 6 u2 ++ wAR G ad3 b3 20 u3 ++ wAR G ad4 b4 30 u4 ++ wX6 G ad5 b5 u5)) (hS : va_S A s.heap H locs) (hl : lv_has ls 16 [(0, .ref sb), (1, .ref (ad5 b5)), (2, .ref (ad b)), (3, .ref (ad1 b1)), (4, .ref (ad2 b2)), (5, .ref (ad3 b3)), (6, .ref (ad4 b4))])
    (kk : ∀ (H1 : Heap) (locs1 : List Loc) (ls1 : Array Slot), va_P D vwCl (wAR G ad b 20 res ++ wAR G ad1 b1 8 u1 ++ wAR G ad2 b2 6 u2 ++ wAR G ad3 b3 20 u3 ++ wAR G ad4 b4 30 u4 ++ wX6 G ad5 b5 u5) H1 → va_D A (wAR G ad b 20 res ++ wAR G ad1 b1 8 u1 ++ wAR G ad2 b2 6 u2 ++ wAR G ad3 b3 20 u3 ++ wAR G ad4 b4 30 u4 ++ wX6 G ad5 b5 u5) → va_S A s.heap H1 locs1 → lv_has ls1 16 [(0, .ref sb), (1, .ref (ad5 b5)), (2, .ref (ad b)), (3, .ref (ad1 b1)), (4, .ref (ad2 b2)), (5, .ref (ad3 b3)), (6, .ref (ad4 b4))] → W p l e room_1 s m args below meth c H1 locs1 cells slots Q (F0 m 80 ls1 [])) : W p l e room_1 s m args below meth c H locs cells slots Q (F0 m 36 ls []) := by
  obtain ⟨hx, hb, hml, hown, hW, hK, hlocks, hF, hr, hA⟩ := id C0
  unfold q_L_ini at hf
  refine lv_aload_n hx hb dL_law_36 rfl (lv_at hl 2 rfl) ?_
  refine lv_iconst (v := 3) hx hb dL_law_37 (by decide) ?_
  refine lv_bipush (v := 6) hx hb dL_law_38 (by decide) ?_
  replace hf := zn_s hf
  obtain ⟨s40, es40, hf⟩ := hf
  refine z_iast (ws' := wAR G ad b 20 s40 ++ wAR G ad1 b1 8 u1 ++ wAR G ad2 b2 6 u2 ++ wAR G ad3 b3 20 u3 ++ wAR G ad4 b4 30 u4 ++ wX6 G ad5 b5 u5) hx hb hK hP hD hS 0 0 rfl rfl (z_in rfl) es40 rfl dL_law_40 (fun H locs hP hD hS => ?_)
  refine lv_aload_n hx hb dL_law_41 rfl (lv_at hl 2 rfl) ?_
  refine lv_iconst (v := 5) hx hb dL_law_42 (by decide) ?_
  refine lv_bipush (v := (-6)) hx hb dL_law_43 (by decide) ?_
  replace hf := zn_s hf
  obtain ⟨s45, es45, hf⟩ := hf
  refine z_iast (ws' := wAR G ad b 20 s45 ++ wAR G ad1 b1 8 u1 ++ wAR G ad2 b2 6 u2 ++ wAR G ad3 b3 20 u3 ++ wAR G ad4 b4 30 u4 ++ wX6 G ad5 b5 u5) hx hb hK hP hD hS 0 0 rfl rfl (z_in rfl) es45 rfl dL_law_45 (fun H locs hP hD hS => ?_)
  refine lv_aload_n hx hb dL_law_46 rfl (lv_at hl 2 rfl) ?_
  refine lv_bipush (v := 13) hx hb dL_law_47 (by decide) ?_
  refine lv_bipush (v := (-6)) hx hb dL_law_49 (by decide) ?_
  replace hf := zn_s hf
  obtain ⟨s51, es51, hf⟩ := hf
  refine z_iast (ws' := wAR G ad b 20 s51 ++ wAR G ad1 b1 8 u1 ++ wAR G ad2 b2 6 u2 ++ wAR G ad3 b3 20 u3 ++ wAR G ad4 b4 30 u4 ++ wX6 G ad5 b5 u5) hx hb hK hP hD hS 0 0 rfl rfl (z_in rfl) es51 rfl dL_law_51 (fun H locs hP hD hS => ?_)
  refine lv_aload_n hx hb dL_law_52 rfl (lv_at hl 2 rfl) ?_
  refine lv_bipush (v := 15) hx hb dL_law_53 (by decide) ?_
  refine lv_iconst (v := 5) hx hb dL_law_55 (by decide) ?_
  replace hf := zn_s hf
  obtain ⟨s56, es56, hf⟩ := hf
  refine z_iast (ws' := wAR G ad b 20 s56 ++ wAR G ad1 b1 8 u1 ++ wAR G ad2 b2 6 u2 ++ wAR G ad3 b3 20 u3 ++ wAR G ad4 b4 30 u4 ++ wX6 G ad5 b5 u5) hx hb hK hP hD hS 0 0 rfl rfl (z_in rfl) es56 rfl dL_law_56 (fun H locs hP hD hS => ?_)
  refine lv_aload_n hx hb dL_law_57 rfl (lv_at hl 2 rfl) ?_
  refine lv_bipush (v := 16) hx hb dL_law_58 (by decide) ?_
  refine lv_bipush (v := 10) hx hb dL_law_60 (by decide) ?_
  replace hf := zn_s hf
  obtain ⟨s62, es62, hf⟩ := hf
  refine z_iast (ws' := wAR G ad b 20 s62 ++ wAR G ad1 b1 8 u1 ++ wAR G ad2 b2 6 u2 ++ wAR G ad3 b3 20 u3 ++ wAR G ad4 b4 30 u4 ++ wX6 G ad5 b5 u5) hx hb hK hP hD hS 0 0 rfl rfl (z_in rfl) es62 rfl dL_law_62 (fun H locs hP hD hS => ?_)
  refine lv_aload_n hx hb dL_law_63 rfl (lv_at hl 2 rfl) ?_
  refine lv_bipush (v := 17) hx hb dL_law_64 (by decide) ?_
  refine lv_iconst (v := 3) hx hb dL_law_66 (by decide) ?_
  replace hf := zn_s hf
  obtain ⟨s67, es67, hf⟩ := hf
  refine z_iast (ws' := wAR G ad b 20 s67 ++ wAR G ad1 b1 8 u1 ++ wAR G ad2 b2 6 u2 ++ wAR G ad3 b3 20 u3 ++ wAR G ad4 b4 30 u4 ++ wX6 G ad5 b5 u5) hx hb hK hP hD hS 0 0 rfl rfl (z_in rfl) es67 rfl dL_law_67 (fun H locs hP hD hS => ?_)
  refine lv_aload_n hx hb dL_law_68 rfl (lv_at hl 2 rfl) ?_
  refine lv_bipush (v := 18) hx hb dL_law_69 (by decide) ?_
  refine lv_iconst (v := 5) hx hb dL_law_71 (by decide) ?_
  replace hf := zn_s hf
  obtain ⟨s72, es72, hf⟩ := hf
  refine z_iast (ws' := wAR G ad b 20 s72 ++ wAR G ad1 b1 8 u1 ++ wAR G ad2 b2 6 u2 ++ wAR G ad3 b3 20 u3 ++ wAR G ad4 b4 30 u4 ++ wX6 G ad5 b5 u5) hx hb hK hP hD hS 0 0 rfl rfl (z_in rfl) es72 rfl dL_law_72 (fun H locs hP hD hS => ?_)
  refine lv_aload_n hx hb dL_law_73 rfl (lv_at hl 2 rfl) ?_
  refine lv_bipush (v := 19) hx hb dL_law_74 (by decide) ?_
  refine lv_sipush (v := 400) hx hb dL_law_76 (by decide) ?_
  replace hf := zn_s hf
  obtain ⟨s79, es79, hf⟩ := hf
  refine z_iast (ws' := wAR G ad b 20 s79 ++ wAR G ad1 b1 8 u1 ++ wAR G ad2 b2 6 u2 ++ wAR G ad3 b3 20 u3 ++ wAR G ad4 b4 30 u4 ++ wX6 G ad5 b5 u5) hx hb hK hP hD hS 0 0 rfl rfl (z_in rfl) es79 rfl dL_law_79 (fun H locs hP hD hS => ?_)
  obtain rfl := zo hf
  exact kk _ _ _ hP hD hS (lv_sub hl [0, 1, 2, 3, 4, 5, 6] rfl)
theorem kL_106 : zLkS RL 106 yL_cell cL_cell 2 (some .int) 2 := ⟨⟨wd_120, wd_121, wd_122, wd_123⟩, by decide +kernel⟩
theorem kL_137 : zLkS RL 137 yL_same cL_same 14 (some .boolean) 7 := ⟨⟨wd_345, wd_346, wd_122, wd_347⟩, by decide +kernel⟩
theorem zs_x {l : Launch} {y : MethodName} {cc : ByteArray} {n f Lo b L : Nat} {xs : Nat → Int32} {D : va_G} {G : zG} {av : List Value} {r : Int32} (hy : plainFor y = true) (hn : (lg_sl av).length ≤ n)
    (body : ∀ (p : Program) (e : Env) (s : State) (m : MethodId) (args : Array Value) (below : List Frame) (meth : Method) (c : Code) (A : Nat → Prop) (Q : State → Prop) (H : Heap) (ls : Array Slot), zCx p s m args meth c cc n (some .int) y.cls D G A → va_X b L xs s s.heap → b < s.heap.size → ¬ A b →
      (∀ (H : Heap) (locs : List Loc) (pc : Nat) (ls : Array Slot) (v : Int32), va_P D vwCl [] H → va_D A [] → va_S A s.heap H locs → v = r → decode cc pc = .ok (.ireturn, 1) → W p l e (zRm f Lo) s m args below meth c H locs 0 0 Q (F0 m pc ls [.int v])) →
      va_P D vwCl [] H → va_D A [] → va_S A s.heap H [] → lv_has ls n (lv_args 0 av) → W p l e (zRm f Lo) s m args below meth c H [] 0 0 Q (F0 m 0 ls [])) : zMs l y cc n (some .int) f Lo D G b L xs av r := by
  intro sz
  refine z_ofWF (cc := cc) (maxL := n) (ret := some .int) hy rfl ?_
  intro p e s m args below meth c s₁ B hml hv
  obtain ⟨rfl, ⟨hsz, hP, hK, hD0, hF⟩, hX, hbl⟩ := hv
  subst hsz
  have hts := atoms_spec (ws := zW y cc n (some .int)) B.pre
  rw [lg_entry_eq]
  have C0 : zCx p s m av.toArray meth c cc n (some .int) y.cls D G (va_A [] s.heap.size) := ⟨B.exec, B.bytes, hml, findClass_of_methodNamed B.named, fun w h => hts w (List.mem_cons_of_mem _ h), hK, B.notSynchronized, hF, B.returns, fun q h => Or.inr h⟩
  refine body p e s m av.toArray below meth c (va_A [] s.heap.size) _ s.heap _ C0 hX hbl ?_ (fun H locs pc ls v h1 h2 h3 h4 h5 => z_iret C0 h1 h2 h3 h4 h5) hP hD0.self va_S.rf (lv_entry av hn)
  rintro (⟨k, e9, h9⟩ | h9)
  · simp at h9
  · omega
set_option maxRecDepth 100000 in
set_option maxHeartbeats 4000000 in
theorem c_L_cell (l : Launch) (D : va_G) (G : zG) (b L : Nat) (xs : Nat → Int32) (hL : L ≤ 260) (k : Int32) (hk : ¬ k < 0) : zMs l yL_cell cL_cell 2 (some .int) 0 0 D G b L xs [.ref b, .int k] (qcell L xs k) := by
  refine zs_x (by decide +kernel) (Nat.le_of_ble_eq_true rfl) ?_
  intro p e s m args below meth c A Q H ls C0 hX hbl hbA hret hP hD hS hl
  obtain ⟨hx, hb, hml, hown, hW, hK, hlocks, hF, hr, hA⟩ := id C0
  replace hl : lv_has ls 2 [(0, .ref b), (1, .int k)] := hl
  refine lv_iload_n hx hb dL_cell_0 rfl (lv_at hl 1 rfl) ?_
  refine lv_aload_n hx hb dL_cell_1 rfl (lv_at hl 0 rfl) ?_
  refine va_slen hx hb hX hbl hbA hS dL_cell_2 ?_
  refine lv_icmp_ge (tgt := 12) hx hb dL_cell_3 (by decide) (fun c1 => ?_) (fun c1 => ?_)
  · refine lv_ldc hx hb hown (hW _ wd_124) dL_cell_12 ?_
    refine lv_iload_n hx hb dL_cell_14 rfl (lv_at hl 1 rfl) ?_
    refine lv_iconst (v := 1) hx hb dL_cell_15 (by decide) ?_
    refine lv_iadd hx hb dL_cell_16 ?_
    refine lv_imul hx hb dL_cell_17 ?_
    refine lv_ldc hx hb hown (hW _ wd_125) dL_cell_18 ?_
    refine lv_iadd hx hb dL_cell_20 ?_
    refine hret _ _ _ _ _ hP hD hS ?_ dL_cell_21
    unfold qcell
    rw [if_pos c1]
  · refine lv_aload_n hx hb dL_cell_6 rfl (lv_at hl 0 rfl) ?_
    refine lv_iload_n hx hb dL_cell_7 rfl (lv_at hl 1 rfl) ?_
    have hin : vp_in k L := by
      rintro (h | h)
      · exact hk h
      · apply c1
        obtain ⟨j, hj, rfl⟩ := nI_of hk
        rw [nI_clamp hj] at h
        exact (nI_leI (by omega) hj).mpr h
    refine va_sld hx hb hX hbl hbA hS hin dL_cell_8 ?_
    refine lv_goto (tgt := 21) hx hb dL_cell_9 (by decide) ?_
    refine hret _ _ _ _ _ hP hD hS ?_ dL_cell_21
    unfold qcell
    rw [if_neg c1]
section ZLC
variable {p : Program} {l : Launch} {e : Env} {R : Room} {s : State} {m : MethodId} {args : Array Value} {below : List Frame} {meth : Method} {c : Code} {H : Heap} {locs : List Loc} {cells slots : Nat} {Q : State → Prop} {cc : ByteArray} {nL : Nat} {ret : Option FieldType} {own : String} {D : va_G} {G : zG} {A : Nat → Prop} {pc : Nat} {ls : Array Slot} {ws : va_W}
theorem z_Gc {y : MethodName} {cy : ByteArray} {ny fy Ly idx n b L : Nat} {xs : Nat → Int32} {rety : Option FieldType} {As rest st0 : List Value} {r : Int32} (C0 : zCx p s m args meth c cc nL ret own D G A) (hX : va_X b L xs s s.heap) (hbl : b < s.heap.size) (hbA : ¬ A b) (k : zLkS own idx y cy ny rety n) (hM : zMs l y cy ny rety fy Ly D G b L xs As r)
    (hn : As.length = n) (hR : fy + 1 ≤ R.frames ∧ 8 + (ny + 11) + Ly ≤ R.locals) (hrm : (rest.map fun v => v.category).sum ≤ 8) (hcs : cells + 0 ≤ R.cells ∧ slots + 0 ≤ R.slots) (hst : st0 = As.reverse ++ rest) (hls : ls.size = nL)
    (hP : va_P D vwCl ws H) (hD : va_D A ws) (hS : va_S A s.heap H locs) (hdg : decode cc pc = .ok (.invokestatic idx, 3))
    (kk : ∀ (H1 : Heap) (locs1 : List Loc), va_P D vwCl ws H1 → va_D A ws → va_S A s.heap H1 locs1 → W p l e R s m args below meth c H1 locs1 cells slots Q (F0 m (pc + 3) ls (.int r :: rest))) : W p l e R s m args below meth c H locs cells slots Q (F0 m pc ls st0) := by
  obtain ⟨hx, hb, hml, hown, hW, hK, hlocks, hF, hr, hA⟩ := C0
  subst hst
  have hPc : va_P D vwCl ([] ++ ws) H := hP
  have hDc : va_D A ([] ++ ws) := hD
  have hFc := z_free hDc hS hA
  have hXH : va_X b L xs s H := hX.kept (hS.2.1 b hbl hbA)
  have hbH : b < H.size := Nat.lt_of_lt_of_le hbl hS.1
  refine va_calli (va_runS (As := As) (rest := rest) ⟨hx, hb, hml, hown, hW⟩ (hM H.size) (va_cwS n hW (z_goodS k) rfl rfl rfl k.2 hR) ⟨zPreS_blind, fun U hU hWm => ?_⟩ rfl hn hls rfl (lv_room hrm) hdg hcs) hS (fun q _ h => hFc q h) hFc (fun x u t H1 locs1 ht hvm hw hB hz1 hk1 hS1 => ?_)
  · have h0 := z_pre (av := As) hF hK hPc hDc hS hFc U hU hWm
    refine ⟨h0.1, h0.2, ?_, hbH⟩
    rw [hU]
    exact hXH.moved hWm.alike
  · obtain ⟨h1, h2⟩ := z_backW (ws' := ws) hPc hDc hFc ht hB hk1 (List.Perm.refl _)
    subst hw
    exact kk H1 locs1 h1 h2 hS1
end ZLC
abbrev tLS : Type := (Nat → Int32) × (Nat → Int32) × (Nat → Int32) × (Nat → Int32) × (Nat → Int32) × tX6
noncomputable def qT (L : Nat) (xs : Nat → Int32) (k : Nat) (v : tLS) : Option tLS :=
  zb (q_L_turn v.1 v.2.1 v.2.2.1 v.2.2.2.1 v.2.2.2.2.1 v.2.2.2.2.2 (nI k) (qcell L xs (2 * nI k)) (qcell L xs (2 * nI k + 1))) fun o => zb (q_L_same o.1 o.2.1 o.2.2.1 o.2.2.2.1 o.2.2.2.2.1 o.2.2.2.2.2 (qcell L xs (2 * nI k + 1) >>> (3 &&& 31))) fun r => if r.1 = 0 then none else some (o.1, o.2.1, o.2.2.1, o.2.2.2.1, o.2.2.2.2.1, (o.2.2.2.2.2.1, r.2.1, o.2.2.2.2.2.2.2.1, o.2.2.2.2.2.2.2.2.1, r.2.2))
noncomputable def qL (L : Nat) (xs : Nat → Int32) : Nat → Nat → tLS → Option Unit
  | 0, _, _ => some ()
  | n + 1, k, v => zb (qT L xs k v) fun o => qL L xs n (k + 1) o
def wLS (G : zG) (a0 a1 a2 a3 a4 a5 : Nat → Nat) (b0 b1 b2 b3 b4 b5 : Nat) (v : tLS) : va_W := wAR G a0 b0 20 v.1 ++ wAR G a1 b1 8 v.2.1 ++ wAR G a2 b2 6 v.2.2.1 ++ wAR G a3 b3 20 v.2.2.2.1 ++ wAR G a4 b4 30 v.2.2.2.2.1 ++ wX6 G a5 b5 v.2.2.2.2.2
theorem pz_6_5' {w0 w1 w2 w3 w4 w5 : va_W} : (w0 ++ w1 ++ w2 ++ w3 ++ w4 ++ w5).Perm (w1 ++ w2 ++ w3 ++ w4 ++ w5 ++ w0) := by
  have h := z_x6 (w := fun k => match k with | 0 => w0 | 1 => w1 | 2 => w2 | 3 => w3 | 4 => w4 | _ => w5) (l1 := [0, 1, 2, 3, 4, 5]) (l2 := [1, 2, 3, 4, 5, 0]) (by decide)
  simp only [List.map_cons, List.map_nil, List.flatten_cons, List.flatten_nil, List.append_nil] at h
  simp only [List.append_assoc] at h ⊢
  exact h
section ZLAW
variable {p : Program} {l : Launch} {e : Env} {s : State} {m : MethodId} {below : List Frame} {meth : Method} {c : Code} {Q : State → Prop} {D : va_G} {G : zG} {A : Nat → Prop} {b L : Nat} {xs : Nat → Int32} {a0 a1 a2 a3 a4 a5 : Nat → Nat} {b0 b1 b2 b3 b4 b5 : Nat}
set_option maxRecDepth 100000 in
set_option maxHeartbeats 8000000 in
theorem cL_loop (C0 : zCx p s m #[.ref b] meth c cL_law 16 ret RL D G A) (hX : va_X b L xs s s.heap) (hbl : b < s.heap.size) (hbA : ¬ A b) (hL : L ≤ 260)
    (kend : ∀ (H1 : Heap) (locs1 : List Loc) (ls1 : Array Slot) (cells slots : Nat), cells ≤ 600000 → slots ≤ 7302250 → va_S A s.heap H1 locs1 → W p l e room_1 s m #[.ref b] below meth c H1 locs1 cells slots Q (F0 m 1146 ls1 [])) : ∀ (n k : Nat) (hkn : k + n = 36) (v : tLS) (hf : qL L xs n k v = some ()) (H : Heap) (locs : List Loc) (ls : Array Slot) (cells slots : Nat) (hc : cells + 20 * n ≤ 600000) (hs : slots + 336 * n ≤ 7302250) (hP : va_P D vwCl (wLS G a0 a1 a2 a3 a4 a5 b0 b1 b2 b3 b4 b5 v) H) (hD : va_D A (wLS G a0 a1 a2 a3 a4 a5 b0 b1 b2 b3 b4 b5 v)) (hS : va_S A s.heap H locs) (hl : lv_has ls 16 [(0, .ref b), (1, .ref (a5 b5)), (2, .ref (a0 b0)), (3, .ref (a1 b1)), (4, .ref (a2 b2)), (5, .ref (a3 b3)), (6, .ref (a4 b4)), (7, .int (nI k))]), W p l e room_1 s m #[.ref b] below meth c H locs cells slots Q (F0 m 83 ls []) := by
  obtain ⟨hx, hb, hml, hown, hW, hK, hlocks, hF, hr, hA⟩ := id C0
  intro n
  induction n with
  | zero =>
    intro k hkn v hf H locs ls cells slots hc hs hP hD hS hl
    obtain rfl : k = 36 := by omega
    refine lv_iload hx hb dL_law_83 (lv_at hl 7 rfl) ?_
    refine lv_bipush (v := 36) hx hb dL_law_85 (by decide) ?_
    refine lv_icmp_ge (tgt := 1146) hx hb dL_law_87 (by decide) (fun _ => ?_) (fun c1 => absurd (by decide) c1)
    exact kend _ _ _ _ _ (by omega) (by omega) hS
  | succ n ih =>
    intro k hkn v hf H locs ls cells slots hc hs hP hD hS hl
    unfold qL at hf
    replace hf := zb_s hf
    obtain ⟨v2, ht, hf⟩ := hf
    unfold qT at ht
    replace ht := zb_s ht
    obtain ⟨o, ho, ht⟩ := ht
    replace ht := zb_s ht
    obtain ⟨r, hr9, ht⟩ := ht
    have hc0 : cells + 0 ≤ room_1.cells ∧ slots + 0 ≤ room_1.slots := ⟨by show cells + 0 ≤ 600000; omega, by show slots + 0 ≤ 7302250; omega⟩
    have hk2 : (2 : Int32) * nI k = nI (2 * k) := (Int32.ofNat_mul 2 k).symm
    have hk3 : (2 : Int32) * nI k + 1 = nI (2 * k + 1) := by rw [hk2]; exact nI_add _ 1
    refine lv_iload hx hb dL_law_83 (lv_at hl 7 rfl) ?_
    refine lv_bipush (v := 36) hx hb dL_law_85 (by decide) ?_
    refine lv_icmp_ge (tgt := 1146) hx hb dL_law_87 (by decide) (fun c1 => absurd ((nI_leI (a := 36) (b := k) (by omega) (by omega)).mp c1) (by omega)) (fun _ => ?_)
    refine lv_aload_n hx hb dL_law_90 rfl (lv_at hl 0 rfl) ?_
    refine lv_iconst (v := 2) hx hb dL_law_91 (by decide) ?_
    refine lv_iload hx hb dL_law_92 (lv_at hl 7 rfl) ?_
    refine lv_imul hx hb dL_law_94 ?_
    refine z_Gc (rest := []) C0 hX hbl hbA kL_106 (c_L_cell l D G b L xs hL (2 * nI k) (by rw [hk2]; exact nI_pos (by omega))) rfl ⟨Nat.le_of_ble_eq_true rfl, Nat.le_of_ble_eq_true rfl⟩ (Nat.le_of_ble_eq_true rfl) hc0 rfl hl.1 hP hD hS dL_law_95 (fun H locs hP hD hS => ?_)
    generalize hx8 : qcell L xs (2 * nI k) = x8 at ho ⊢
    refine lv_istore (lv' := [(8, .int x8), (0, .ref b), (1, .ref (a5 b5)), (2, .ref (a0 b0)), (3, .ref (a1 b1)), (4, .ref (a2 b2)), (5, .ref (a3 b3)), (6, .ref (a4 b4)), (7, .int (nI k))]) hx hb dL_law_98 hl (by decide) rfl (fun ls hl => ?_)
    refine lv_aload_n hx hb dL_law_100 rfl (lv_at hl 1 rfl) ?_
    refine lv_iconst (v := 2) hx hb dL_law_101 (by decide) ?_
    refine lv_iload hx hb dL_law_102 (lv_at hl 8 rfl) ?_
    refine lv_imul hx hb dL_law_104 ?_
    refine lv_iconst (v := 1) hx hb dL_law_105 (by decide) ?_
    refine lv_iadd hx hb dL_law_106 ?_
    refine z_Gc (rest := []) C0 hX hbl hbA kL_106 (c_L_cell l D G b L xs hL (2 * nI k + 1) (by rw [hk3]; exact nI_pos (by omega))) rfl ⟨Nat.le_of_ble_eq_true rfl, Nat.le_of_ble_eq_true rfl⟩ (Nat.le_of_ble_eq_true rfl) hc0 rfl hl.1 hP hD hS dL_law_107 (fun H locs hP hD hS => ?_)
    generalize hx9 : qcell L xs (2 * nI k + 1) = x9 at ho hr9 ⊢
    refine lv_istore (lv' := [(9, .int x9), (8, .int x8), (0, .ref b), (1, .ref (a5 b5)), (2, .ref (a0 b0)), (3, .ref (a1 b1)), (4, .ref (a2 b2)), (5, .ref (a3 b3)), (6, .ref (a4 b4)), (7, .int (nI k))]) hx hb dL_law_110 hl (by decide) rfl (fun ls hl => ?_)
    refine c_L_turn C0 hc0 a0 b0 a1 b1 a2 b2 a3 b3 a4 b4 a5 b5 b v.1 v.2.1 v.2.2.1 v.2.2.2.1 v.2.2.2.2.1 v.2.2.2.2.2 (nI k) x8 x9 o ho hP hD hS (lv_sub hl [2, 3, 4, 5, 6, 7, 8, 9, 1, 0] rfl) (fun H locs ls hP hD hS hl => ?_)
    refine lv_aload_n hx hb dL_law_1119 rfl (lv_at hl 1 rfl) ?_
    refine lv_iload hx hb dL_law_1120 (lv_at hl 8 rfl) ?_
    refine lv_iconst (v := 3) hx hb dL_law_1122 (by decide) ?_
    refine lv_ishr hx hb dL_law_1123 ?_
    refine lv_aload_n hx hb dL_law_1124 rfl (lv_at hl 2 rfl) ?_
    refine lv_aload_n hx hb dL_law_1125 rfl (lv_at hl 3 rfl) ?_
    refine lv_aload hx hb dL_law_1126 (lv_at hl 4 rfl) ?_
    refine lv_aload hx hb dL_law_1128 (lv_at hl 5 rfl) ?_
    refine lv_aload hx hb dL_law_1130 (lv_at hl 6 rfl) ?_
    refine z_GK (rest := []) C0 kL_137 (c_L_same l D G a0 b0 a1 b1 a2 b2 a3 b3 a4 b4 a5 b5 o.1 o.2.1 o.2.2.1 o.2.2.2.1 o.2.2.2.2.1 o.2.2.2.2.2 (x9 >>> (3 &&& 31)) r hr9) z_pall z_pall.symm rfl ⟨Nat.le_of_ble_eq_true rfl, Nat.le_of_ble_eq_true rfl⟩ (Nat.le_of_ble_eq_true rfl) ⟨by show cells + 20 ≤ 600000; omega, by show slots + 336 ≤ 7302250; omega⟩ rfl hl.1 hP hD hS dL_law_1132 (fun H locs hP hD hS => ?_)
    refine lv_if_ne (tgt := 1140) hx hb dL_law_1135 (by decide) (fun c1 => ?_) (fun c1 => ?_)
    · replace ht := zi_n ht c1
      obtain rfl := zo ht
      refine lv_iinc (v := nI (k + 1)) (lv' := [(7, .int (nI (k + 1))), (0, .ref b), (1, .ref (a5 b5)), (2, .ref (a0 b0)), (3, .ref (a1 b1)), (4, .ref (a2 b2)), (5, .ref (a3 b3)), (6, .ref (a4 b4)), (9, .int x9)]) hx hb dL_law_1140 hl (k := 7) rfl (nI_add k 1) (by decide) rfl (fun ls hl => ?_)
      refine lv_goto (tgt := 83) hx hb dL_law_1143 (by decide) ?_
      exact ih (k + 1) (by omega) _ hf _ _ _ _ _ (by omega) (by omega) hP hD hS (lv_sub hl [1, 2, 3, 4, 5, 6, 7, 0] rfl)
    · replace ht := zi_p ht c1
      cases ht
end ZLAW
set_option maxHeartbeats 8000000 in
set_option maxRecDepth 100000 in
theorem z_whole (hpure : ∀ (L : Nat) (xs : Nat → Int32) (ar : Nat → Nat → Nat), L ≤ 260 → ∃ q0, q_L_ini (fun _ => 0) (fun _ => 0) (fun _ => 0) (fun _ => 0) (fun _ => 0) (iX6 ar) = some q0 ∧ qL L xs 36 0 (q0, fun _ => 0, fun _ => 0, fun _ => 0, fun _ => 0, iX6 ar) = some ()) {p : Program} {e : Env} {s : State} {m : MethodId} {below : List Frame} {meth : Method} {c : Code} (l : Launch) {b L : Nat} {xs : Nat → Int32} (hL : L ≤ 260) (C0 : lw_At p s m meth c b L xs) : W p l e room_1 s m #[Value.ref b] below meth c s.heap [] 0 0 (lw_Z below #[Value.ref b] s) (entryFrame m ([Value.ref b] : List Value).toArray 16) := by
  obtain ⟨hx, hb, hr, hml, hown0, hts, hX, hbl, hlocks, hgv⟩ := id C0
  have hA : ∀ q : Nat, s.heap.size ≤ q → (fun q : Nat => s.heap.size ≤ q) q := fun _ h => h
  have hA' : ∀ a : Nat, a < s.heap.size → ¬ (fun q : Nat => s.heap.size ≤ q) a := fun a h => Nat.not_le.mpr h
  have hbA : ¬ (fun q : Nat => s.heap.size ≤ q) b := Nat.not_le.mpr hbl
  obtain ⟨D, c4, hK⟩ := z_class hts
  obtain ⟨G, hG, hF⟩ := z_start0 hts (flat_of_before _ hgv) hA' c4
  replace hK := hK G hG
  have hW := wsL_before hts
  have hown : s.vm.findClass RL = some m.cls := hown0
  have C0 : zCx p s m #[.ref b] meth c cL_law 16 ret RL D G (fun q : Nat => s.heap.size ≤ q) := ⟨hx, hb, hml, hown, hW, hK, hlocks, hF, hr, hA⟩
  have hS : va_S (fun q : Nat => s.heap.size ≤ q) s.heap s.heap [] := va_S.rf
  have hP : va_P D vwCl [] s.heap := fun k q h => by simp at h
  have hD : va_D (fun q : Nat => s.heap.size ≤ q) [] := ⟨fun i j p q h => by simp at h, fun k q h => by simp at h⟩
  have hl := lv_entry ([.ref b]) (n := 16) (Nat.le_of_ble_eq_true rfl)
  rw [lg_entry_eq]
  generalize (lg_sl ([.ref b]) ++ List.replicate (16 - (lg_sl ([.ref b])).length) Slot.unset).toArray = ls at hl ⊢
  replace hl : lv_has ls 16 [(0, .ref b)] := hl
  refine va_new (ci := 7) (fs := [.null, .null, .null, .null, .null]) (C := RX6) (T := TX6) (N := 5) hx hb hW inlX6 tyX6 tyX6_ok hown (hW _ wd_0) (hW _ wd_1) (hW _ wd_2) hK hP hD hS hA rfl (fun j hj => by rcases (show j = 0 ∨ j = 1 ∨ j = 2 ∨ j = 3 ∨ j = 4 by omega) with rfl | rfl | rfl | rfl | rfl <;> rfl) (Nat.le_of_ble_eq_true rfl) (Nat.le_of_ble_eq_true rfl) dL_law_0 (fun q0 H hP hD hS => ?_)
  replace hP : va_P D vwCl [(q0, .inr (7, [.null, .null, .null, .null, .null]))] H := hP
  replace hD : va_D (fun q : Nat => s.heap.size ≤ q) [(q0, .inr (7, [.null, .null, .null, .null, .null]))] := hD
  refine lv_dup hx hb dL_law_3 rfl ?_
  refine z_ci (rest := [.ref q0]) (ws' := fun (u : (Nat → Nat) × (Nat → Nat → Nat)) => wX6 G (zad q0 u.1) 0 (iX6 u.2)) C0 wd_4 wd_5 wd_2 wd_6 rfl (n := 0) (by decide +kernel) (c_X6_init l D G q0) z_pall (fun _ => z_pall.symm) rfl ⟨Nat.le_of_ble_eq_true rfl, Nat.le_of_ble_eq_true rfl⟩ (Nat.le_of_ble_eq_true rfl) rfl hl.1 ⟨Nat.le_of_ble_eq_true rfl, Nat.le_of_ble_eq_true rfl⟩ hP hD hS dL_law_4 (fun u H locs hP hD hS => ?_)
  obtain ⟨a5, e5, hP', hD'⟩ : ∃ a5 : Nat → Nat, a5 0 = q0 ∧ va_P D vwCl (wX6 G a5 0 (iX6 u.2)) H ∧ va_D (fun q : Nat => s.heap.size ≤ q) (wX6 G a5 0 (iX6 u.2)) := ⟨zad q0 u.1, rfl, hP, hD⟩
  clear hP hD
  subst e5
  have hP := hP'
  have hD := hD'
  refine lv_astore_n (lv' := [(1, .ref (a5 0)), (0, .ref b)]) hx hb dL_law_7 rfl hl (by decide) rfl (fun ls hl => ?_)
  refine lv_bipush (v := 20) hx hb dL_law_8 (by decide) ?_
  refine z_newa (atype := .int) (ty := .int) (a0 := (20, .inl (fun _ => 0))) (N' := 20) 0 hx hb hW wd_3 rfl rfl (fun _ h => h) hK hP hD hS hA (fun _ => rfl) (by decide) (by decide) (Nat.le_of_ble_eq_true rfl) (Nat.le_of_ble_eq_true rfl) (Nat.le_of_ble_eq_true rfl) dL_law_10 (fun q10 H hP hD hS => ?_)
  obtain ⟨a0, e10, hP, hD⟩ : ∃ a0 : Nat → Nat, a0 0 = q10 ∧ va_P D vwCl (wX6 G a5 0 (iX6 u.2) ++ wAR G a0 0 20 (fun _ => 0)) H ∧ va_D (fun q : Nat => s.heap.size ≤ q) (wX6 G a5 0 (iX6 u.2) ++ wAR G a0 0 20 (fun _ => 0)) := ⟨fun _ => q10, rfl, hP, hD⟩
  subst e10
  refine lv_astore_n (lv' := [(2, .ref (a0 0)), (1, .ref (a5 0)), (0, .ref b)]) hx hb dL_law_12 rfl hl (by decide) rfl (fun ls hl => ?_)
  refine lv_bipush (v := 8) hx hb dL_law_13 (by decide) ?_
  refine z_newa (atype := .int) (ty := .int) (a0 := (8, .inl (fun _ => 0))) (N' := 8) 0 hx hb hW wd_3 rfl rfl (fun _ h => h) hK hP hD hS hA (fun _ => rfl) (by decide) (by decide) (Nat.le_of_ble_eq_true rfl) (Nat.le_of_ble_eq_true rfl) (Nat.le_of_ble_eq_true rfl) dL_law_15 (fun q15 H hP hD hS => ?_)
  obtain ⟨a1, e15, hP, hD⟩ : ∃ a1 : Nat → Nat, a1 0 = q15 ∧ va_P D vwCl (wX6 G a5 0 (iX6 u.2) ++ wAR G a0 0 20 (fun _ => 0) ++ wAR G a1 0 8 (fun _ => 0)) H ∧ va_D (fun q : Nat => s.heap.size ≤ q) (wX6 G a5 0 (iX6 u.2) ++ wAR G a0 0 20 (fun _ => 0) ++ wAR G a1 0 8 (fun _ => 0)) := ⟨fun _ => q15, rfl, hP, hD⟩
  subst e15
  refine lv_astore_n (lv' := [(3, .ref (a1 0)), (2, .ref (a0 0)), (1, .ref (a5 0)), (0, .ref b)]) hx hb dL_law_17 rfl hl (by decide) rfl (fun ls hl => ?_)
  refine lv_bipush (v := 6) hx hb dL_law_18 (by decide) ?_
  refine z_newa (atype := .int) (ty := .int) (a0 := (6, .inl (fun _ => 0))) (N' := 6) 0 hx hb hW wd_3 rfl rfl (fun _ h => h) hK hP hD hS hA (fun _ => rfl) (by decide) (by decide) (Nat.le_of_ble_eq_true rfl) (Nat.le_of_ble_eq_true rfl) (Nat.le_of_ble_eq_true rfl) dL_law_20 (fun q20 H hP hD hS => ?_)
  obtain ⟨a2, e20, hP, hD⟩ : ∃ a2 : Nat → Nat, a2 0 = q20 ∧ va_P D vwCl (wX6 G a5 0 (iX6 u.2) ++ wAR G a0 0 20 (fun _ => 0) ++ wAR G a1 0 8 (fun _ => 0) ++ wAR G a2 0 6 (fun _ => 0)) H ∧ va_D (fun q : Nat => s.heap.size ≤ q) (wX6 G a5 0 (iX6 u.2) ++ wAR G a0 0 20 (fun _ => 0) ++ wAR G a1 0 8 (fun _ => 0) ++ wAR G a2 0 6 (fun _ => 0)) := ⟨fun _ => q20, rfl, hP, hD⟩
  subst e20
  refine lv_astore (lv' := [(4, .ref (a2 0)), (3, .ref (a1 0)), (2, .ref (a0 0)), (1, .ref (a5 0)), (0, .ref b)]) hx hb dL_law_22 hl (by decide) rfl (fun ls hl => ?_)
  refine lv_bipush (v := 20) hx hb dL_law_24 (by decide) ?_
  refine z_newa (atype := .int) (ty := .int) (a0 := (20, .inl (fun _ => 0))) (N' := 20) 0 hx hb hW wd_3 rfl rfl (fun _ h => h) hK hP hD hS hA (fun _ => rfl) (by decide) (by decide) (Nat.le_of_ble_eq_true rfl) (Nat.le_of_ble_eq_true rfl) (Nat.le_of_ble_eq_true rfl) dL_law_26 (fun q26 H hP hD hS => ?_)
  obtain ⟨a3, e26, hP, hD⟩ : ∃ a3 : Nat → Nat, a3 0 = q26 ∧ va_P D vwCl (wX6 G a5 0 (iX6 u.2) ++ wAR G a0 0 20 (fun _ => 0) ++ wAR G a1 0 8 (fun _ => 0) ++ wAR G a2 0 6 (fun _ => 0) ++ wAR G a3 0 20 (fun _ => 0)) H ∧ va_D (fun q : Nat => s.heap.size ≤ q) (wX6 G a5 0 (iX6 u.2) ++ wAR G a0 0 20 (fun _ => 0) ++ wAR G a1 0 8 (fun _ => 0) ++ wAR G a2 0 6 (fun _ => 0) ++ wAR G a3 0 20 (fun _ => 0)) := ⟨fun _ => q26, rfl, hP, hD⟩
  subst e26
  refine lv_astore (lv' := [(5, .ref (a3 0)), (4, .ref (a2 0)), (3, .ref (a1 0)), (2, .ref (a0 0)), (1, .ref (a5 0)), (0, .ref b)]) hx hb dL_law_28 hl (by decide) rfl (fun ls hl => ?_)
  refine lv_bipush (v := 30) hx hb dL_law_30 (by decide) ?_
  refine z_newa (atype := .int) (ty := .int) (a0 := (30, .inl (fun _ => 0))) (N' := 30) 0 hx hb hW wd_3 rfl rfl (fun _ h => h) hK hP hD hS hA (fun _ => rfl) (by decide) (by decide) (Nat.le_of_ble_eq_true rfl) (Nat.le_of_ble_eq_true rfl) (Nat.le_of_ble_eq_true rfl) dL_law_32 (fun q32 H hP hD hS => ?_)
  obtain ⟨a4, e32, hP, hD⟩ : ∃ a4 : Nat → Nat, a4 0 = q32 ∧ va_P D vwCl (wX6 G a5 0 (iX6 u.2) ++ wAR G a0 0 20 (fun _ => 0) ++ wAR G a1 0 8 (fun _ => 0) ++ wAR G a2 0 6 (fun _ => 0) ++ wAR G a3 0 20 (fun _ => 0) ++ wAR G a4 0 30 (fun _ => 0)) H ∧ va_D (fun q : Nat => s.heap.size ≤ q) (wX6 G a5 0 (iX6 u.2) ++ wAR G a0 0 20 (fun _ => 0) ++ wAR G a1 0 8 (fun _ => 0) ++ wAR G a2 0 6 (fun _ => 0) ++ wAR G a3 0 20 (fun _ => 0) ++ wAR G a4 0 30 (fun _ => 0)) := ⟨fun _ => q32, rfl, hP, hD⟩
  subst e32
  refine lv_astore (lv' := [(6, .ref (a4 0)), (5, .ref (a3 0)), (4, .ref (a2 0)), (3, .ref (a1 0)), (2, .ref (a0 0)), (1, .ref (a5 0)), (0, .ref b)]) hx hb dL_law_34 hl (by decide) rfl (fun ls hl => ?_)
  replace hP := zP_perm pz_6_5' hP
  replace hD := zD_perm pz_6_5' hD
  refine W.widen (k := 1000) (n := 10000) (Nat.le_of_ble_eq_true rfl) (Nat.le_of_ble_eq_true rfl) ?_
  obtain ⟨q9, hq9, hf⟩ := hpure L xs u.2 hL
  refine c_L_ini C0 ⟨Nat.le_of_ble_eq_true rfl, Nat.le_of_ble_eq_true rfl⟩ a0 0 a1 0 a2 0 a3 0 a4 0 a5 0 b (fun _ => 0) (fun _ => 0) (fun _ => 0) (fun _ => 0) (fun _ => 0) (iX6 u.2) q9 hq9 hP hD hS (lv_sub hl [6, 5, 4, 3, 2, 1, 0] rfl) (fun H locs ls hP hD hS hl => ?_)
  refine lv_iconst (v := nI 0) hx hb dL_law_80 (by decide) ?_
  refine lv_istore (lv' := [(7, .int (nI 0)), (0, .ref b), (1, .ref (a5 0)), (2, .ref (a0 0)), (3, .ref (a1 0)), (4, .ref (a2 0)), (5, .ref (a3 0)), (6, .ref (a4 0))]) hx hb dL_law_81 hl (by decide) rfl (fun ls hl => ?_)
  refine cL_loop C0 hX hbl hbA hL (fun H1 locs1 ls1 cells slots hc hs hS => ?_) 36 0 (by omega) (q9, fun _ => 0, fun _ => 0, fun _ => 0, fun _ => 0, iX6 u.2) hf H locs ls 1000 10000 (by omega) (by omega) hP hD hS (lv_sub hl [1, 2, 3, 4, 5, 6, 7, 0] rfl)
  refine W.widen (k := 600000) (n := 7302250) hc hs ?_
  refine lv_iconst (v := 1) hx hb dL_law_1146 (by decide) ?_
  refine va_forget (fun q hq => hS.2.2 q hq) ?_
  exact lw_ret hx hb hr hlocks dL_law_1147

