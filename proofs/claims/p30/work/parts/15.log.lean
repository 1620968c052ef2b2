noncomputable def q_X3_append_J14 (u : tX3) (p1 : Int32) (p2 : Int32) (p3 : Int32) (w14_0 : Int32) : Option (tX3) :=
  zs 10 u.1 w14_0 p1 fun s23 => zs 10 u.2.1 w14_0 p2 fun s33 => zs 10 u.2.2.1 w14_0 p3 fun s43 => zn (w14_0 + 1) fun k51 => (if 10 ≤ u.2.2.2.2 then some ((s23, s33, s43, k51, u.2.2.2.2)) else zn (u.2.2.2.2 + 1) fun k70 => some ((s23, s33, s43, k51, k70)))
noncomputable def q_X3_append (u : tX3) (p1 : Int32) (p2 : Int32) (p3 : Int32) : Option (tX3) :=
  (if u.2.2.2.1 < 10 then q_X3_append_J14 u p1 p2 p3 u.2.2.2.1 else q_X3_append_J14 u p1 p2 p3 0)
set_option maxRecDepth 100000 in
set_option maxHeartbeats 4000000 in
theorem c_X3_append (l : Launch) (D : va_G) (G : zG) (ad : Nat → Nat) (b : Nat) (u : tX3) (p1 : Int32) (p2 : Int32) (p3 : Int32) (res : tX3) (hf : q_X3_append u p1 p2 p3 = some res) : zMv l yX3_append cX3_append 4 none 0 0 D G (wX3 G ad b u) (wX3 G ad b res) [.ref (ad b), .int p1, .int p2, .int p3] := by
  refine zs_v (plainFor_of_name (by decide)) (Nat.le_of_ble_eq_true rfl) ?_
  intro p e s m args below meth c A Q H ls C0 hret hP hD hS hl
  obtain ⟨hx, hb, hml, hown, hW, hK, hlocks, hF, hr, hA⟩ := id C0
  replace hl : lv_has ls 4 [(0, .ref (ad b)), (1, .int p1), (2, .int p2), (3, .int p3)] := hl
  unfold q_X3_append at hf
  refine lv_aload_n hx hb dX3_append_0 rfl (lv_at hl 0 rfl) ?_
  refine va_get (D := D) (ci := 4) (v := .int u.2.2.2.1) (C := RX3) (T := TX3) (N := 5) hx hb hW inlX3 hown hK hP 0 rfl rfl 3 (by decide) (hW _ wd_78) (fun _ h9 => h9) rfl dX3_append_1 ?_
  refine lv_bipush (v := 10) hx hb dX3_append_4 (by decide) ?_
  have J14 : ∀ (w14_0 : Int32) (hf : q_X3_append_J14 u p1 p2 p3 w14_0 = some res) (H : Heap) (locs : List Loc) (hP : va_P D vwCl (wX3 G ad b (u.1, u.2.1, u.2.2.1, w14_0, u.2.2.2.2)) H) (hD : va_D A (wX3 G ad b (u.1, u.2.1, u.2.2.1, w14_0, u.2.2.2.2))) (hS : va_S A s.heap H locs) (ls : Array Slot) (hl : lv_has ls 4 [(0, .ref (ad b)), (1, .int p1), (2, .int p2), (3, .int p3)]), W p l e (zRm 0 0) s m args below meth c H locs 0 0 Q (F0 m 14 ls []) := by
    intro w14_0 hf H locs hP hD hS ls hl
    unfold q_X3_append_J14 at hf
    refine lv_aload_n hx hb dX3_append_14 rfl (lv_at hl 0 rfl) ?_
    refine va_get (D := D) (ci := 4) (v := .ref (ad (b + 1))) (C := RX3) (T := TX3) (N := 5) hx hb hW inlX3 hown hK hP 0 rfl rfl 0 (by decide) (hW _ wd_75) (fun _ h9 => h9) rfl dX3_append_15 ?_
    refine lv_aload_n hx hb dX3_append_18 rfl (lv_at hl 0 rfl) ?_
    refine va_get (D := D) (ci := 4) (v := .int w14_0) (C := RX3) (T := TX3) (N := 5) hx hb hW inlX3 hown hK hP 0 rfl rfl 3 (by decide) (hW _ wd_78) (fun _ h9 => h9) rfl dX3_append_19 ?_
    refine lv_iload_n hx hb dX3_append_22 rfl (lv_at hl 1 rfl) ?_
    replace hf := zs_s hf
    obtain ⟨hi23, s23, es23, hf⟩ := hf
    refine z_iast (ws' := wX3 G ad b (s23, u.2.1, u.2.2.1, w14_0, u.2.2.2.2)) hx hb hK hP hD hS 1 0 rfl rfl hi23 es23 rfl dX3_append_23 (fun H locs hP hD hS => ?_)
    refine lv_aload_n hx hb dX3_append_24 rfl (lv_at hl 0 rfl) ?_
    refine va_get (D := D) (ci := 4) (v := .ref (ad (b + 2))) (C := RX3) (T := TX3) (N := 5) hx hb hW inlX3 hown hK hP 0 rfl rfl 1 (by decide) (hW _ wd_76) (fun _ h9 => h9) rfl dX3_append_25 ?_
    refine lv_aload_n hx hb dX3_append_28 rfl (lv_at hl 0 rfl) ?_
    refine va_get (D := D) (ci := 4) (v := .int w14_0) (C := RX3) (T := TX3) (N := 5) hx hb hW inlX3 hown hK hP 0 rfl rfl 3 (by decide) (hW _ wd_78) (fun _ h9 => h9) rfl dX3_append_29 ?_
    refine lv_iload_n hx hb dX3_append_32 rfl (lv_at hl 2 rfl) ?_
    replace hf := zs_s hf
    obtain ⟨hi33, s33, es33, hf⟩ := hf
    refine z_iast (ws' := wX3 G ad b (s23, s33, u.2.2.1, w14_0, u.2.2.2.2)) hx hb hK hP hD hS 2 0 rfl rfl hi33 es33 rfl dX3_append_33 (fun H locs hP hD hS => ?_)
    refine lv_aload_n hx hb dX3_append_34 rfl (lv_at hl 0 rfl) ?_
    refine va_get (D := D) (ci := 4) (v := .ref (ad (b + 3))) (C := RX3) (T := TX3) (N := 5) hx hb hW inlX3 hown hK hP 0 rfl rfl 2 (by decide) (hW _ wd_77) (fun _ h9 => h9) rfl dX3_append_35 ?_
    refine lv_aload_n hx hb dX3_append_38 rfl (lv_at hl 0 rfl) ?_
    refine va_get (D := D) (ci := 4) (v := .int w14_0) (C := RX3) (T := TX3) (N := 5) hx hb hW inlX3 hown hK hP 0 rfl rfl 3 (by decide) (hW _ wd_78) (fun _ h9 => h9) rfl dX3_append_39 ?_
    refine lv_iload_n hx hb dX3_append_42 rfl (lv_at hl 3 rfl) ?_
    replace hf := zs_s hf
    obtain ⟨hi43, s43, es43, hf⟩ := hf
    refine z_iast (ws' := wX3 G ad b (s23, s33, s43, w14_0, u.2.2.2.2)) hx hb hK hP hD hS 3 0 rfl rfl hi43 es43 rfl dX3_append_43 (fun H locs hP hD hS => ?_)
    refine lv_aload_n hx hb dX3_append_44 rfl (lv_at hl 0 rfl) ?_
    refine lv_dup hx hb dX3_append_45 rfl ?_
    refine va_get (D := D) (ci := 4) (v := .int w14_0) (C := RX3) (T := TX3) (N := 5) hx hb hW inlX3 hown hK hP 0 rfl rfl 3 (by decide) (hW _ wd_78) (fun _ h9 => h9) rfl dX3_append_46 ?_
    refine lv_iconst (v := 1) hx hb dX3_append_49 (by decide) ?_
    refine lv_iadd hx hb dX3_append_50 ?_
    replace hf := zn_s hf
    obtain ⟨k51, ek51, hf⟩ := hf
    refine z_top ek51 ?_
    refine z_put (ws' := wX3 G ad b (s23, s33, s43, k51, u.2.2.2.2)) (ci := 4) (C := RX3) (T := TX3) (N := 5) hx hb hW inlX3 tyX3 tyX3_ok nmX3 hown hK hP hD hS 0 rfl rfl 3 (by decide) (hW _ wd_78) rfl rfl (Nat.le_of_ble_eq_true rfl) rfl dX3_append_51 (fun H locs hP hD hS => ?_)
    refine lv_aload_n hx hb dX3_append_54 rfl (lv_at hl 0 rfl) ?_
    refine va_get (D := D) (ci := 4) (v := .int u.2.2.2.2) (C := RX3) (T := TX3) (N := 5) hx hb hW inlX3 hown hK hP 0 rfl rfl 4 (by decide) (hW _ wd_79) (fun _ h9 => h9) rfl dX3_append_55 ?_
    refine lv_bipush (v := 10) hx hb dX3_append_58 (by decide) ?_
    refine lv_icmp_ge (tgt := 73) hx hb dX3_append_60 (by decide) (fun c60 => ?_) (fun c60 => ?_)
    · replace hf := zi_p hf c60
      obtain rfl := zo hf
      exact hret _ _ _ _ hP hD hS dX3_append_73
    · replace hf := zi_n hf c60
      refine lv_aload_n hx hb dX3_append_63 rfl (lv_at hl 0 rfl) ?_
      refine lv_dup hx hb dX3_append_64 rfl ?_
      refine va_get (D := D) (ci := 4) (v := .int u.2.2.2.2) (C := RX3) (T := TX3) (N := 5) hx hb hW inlX3 hown hK hP 0 rfl rfl 4 (by decide) (hW _ wd_79) (fun _ h9 => h9) rfl dX3_append_65 ?_
      refine lv_iconst (v := 1) hx hb dX3_append_68 (by decide) ?_
      refine lv_iadd hx hb dX3_append_69 ?_
      replace hf := zn_s hf
      obtain ⟨k70, ek70, hf⟩ := hf
      refine z_top ek70 ?_
      refine z_put (ws' := wX3 G ad b (s23, s33, s43, k51, k70)) (ci := 4) (C := RX3) (T := TX3) (N := 5) hx hb hW inlX3 tyX3 tyX3_ok nmX3 hown hK hP hD hS 0 rfl rfl 4 (by decide) (hW _ wd_79) rfl rfl (Nat.le_of_ble_eq_true rfl) rfl dX3_append_70 (fun H locs hP hD hS => ?_)
      obtain rfl := zo hf
      exact hret _ _ _ _ hP hD hS dX3_append_73
  refine lv_icmp_lt (tgt := 14) hx hb dX3_append_6 (by decide) (fun c6 => ?_) (fun c6 => ?_)
  · replace hf := zi_p hf c6
    exact J14 u.2.2.2.1 hf _ _ hP hD hS _ (lv_sub hl [0, 1, 2, 3] rfl)
  · replace hf := zi_n hf c6
    refine lv_aload_n hx hb dX3_append_9 rfl (lv_at hl 0 rfl) ?_
    refine lv_iconst (v := 0) hx hb dX3_append_10 (by decide) ?_
    refine z_put (ws' := wX3 G ad b (u.1, u.2.1, u.2.2.1, 0, u.2.2.2.2)) (ci := 4) (C := RX3) (T := TX3) (N := 5) hx hb hW inlX3 tyX3 tyX3_ok nmX3 hown hK hP hD hS 0 rfl rfl 3 (by decide) (hW _ wd_78) rfl rfl (Nat.le_of_ble_eq_true rfl) rfl dX3_append_11 (fun H locs hP hD hS => ?_)
    exact J14 0 hf _ _ hP hD hS _ (lv_sub hl [0, 1, 2, 3] rfl)
noncomputable def q_X3_has (u : tX3) (p1 : Int32) : Option (Int32) :=
  (if p1 < 0 then some (0) else (if u.2.2.2.2 ≤ p1 then some (0) else some (1)))
set_option maxRecDepth 100000 in
set_option maxHeartbeats 4000000 in
theorem c_X3_has (l : Launch) (D : va_G) (G : zG) (ad : Nat → Nat) (b : Nat) (u : tX3) (p1 : Int32) (res : Int32) (hf : q_X3_has u p1 = some res) : zMi l yX3_has cX3_has 2 (some .boolean) 0 0 D G (wX3 G ad b u) (wX3 G ad b u) [.ref (ad b), .int p1] res := by
  refine zs_z (plainFor_of_name (by decide)) (Nat.le_of_ble_eq_true rfl) ?_
  intro p e s m args below meth c A Q H ls C0 hret hP hD hS hl
  obtain ⟨hx, hb, hml, hown, hW, hK, hlocks, hF, hr, hA⟩ := id C0
  replace hl : lv_has ls 2 [(0, .ref (ad b)), (1, .int p1)] := hl
  unfold q_X3_has at hf
  refine lv_iload_n hx hb dX3_has_0 rfl (lv_at hl 1 rfl) ?_
  refine lv_if_lt (tgt := 16) hx hb dX3_has_1 (by decide) (fun c1 => ?_) (fun c1 => ?_)
  · replace hf := zi_p hf c1
    refine lv_iconst (v := 0) hx hb dX3_has_16 (by decide) ?_
    obtain rfl := zo hf
    exact hret _ _ _ _ _ hP hD hS rfl rfl dX3_has_17
  · replace hf := zi_n hf c1
    refine lv_iload_n hx hb dX3_has_4 rfl (lv_at hl 1 rfl) ?_
    refine lv_aload_n hx hb dX3_has_5 rfl (lv_at hl 0 rfl) ?_
    refine va_get (D := D) (ci := 4) (v := .int u.2.2.2.2) (C := RX3) (T := TX3) (N := 5) hx hb hW inlX3 hown hK hP 0 rfl rfl 4 (by decide) (hW _ wd_79) (fun _ h9 => h9) rfl dX3_has_6 ?_
    refine lv_icmp_ge (tgt := 16) hx hb dX3_has_9 (by decide) (fun c9 => ?_) (fun c9 => ?_)
    · replace hf := zi_p hf c9
      refine lv_iconst (v := 0) hx hb dX3_has_16 (by decide) ?_
      obtain rfl := zo hf
      exact hret _ _ _ _ _ hP hD hS rfl rfl dX3_has_17
    · replace hf := zi_n hf c9
      refine lv_iconst (v := 1) hx hb dX3_has_12 (by decide) ?_
      refine lv_goto (tgt := 17) hx hb dX3_has_13 (by decide) ?_
      obtain rfl := zo hf
      exact hret _ _ _ _ _ hP hD hS rfl rfl dX3_has_17
theorem kX3_38 : zLkS RX3 38 yJ9_floorMod_7cf53 cJ9_floorMod_7cf53 3 (some .int) 2 := ⟨⟨wd_418, wd_419, wd_420, wd_421⟩, by decide +kernel⟩
noncomputable def q_X3_placeOf (u : tX3) (p1 : Int32) : Option (Int32) :=
  zb (q_J9_floorMod_7cf53 ((u.2.2.2.1 - u.2.2.2.2) + p1) 10) fun r13 => some (r13)
set_option maxRecDepth 100000 in
set_option maxHeartbeats 4000000 in
theorem c_X3_placeOf (l : Launch) (D : va_G) (G : zG) (ad : Nat → Nat) (b : Nat) (u : tX3) (p1 : Int32) (res : Int32) (hf : q_X3_placeOf u p1 = some res) : zMi l yX3_placeOf cX3_placeOf 2 (some .int) 1 22 D G (wX3 G ad b u) (wX3 G ad b u) [.ref (ad b), .int p1] res := by
  refine zs_i (plainFor_of_name (by decide)) (Nat.le_of_ble_eq_true rfl) ?_
  intro p e s m args below meth c A Q H ls C0 hret hP hD hS hl
  obtain ⟨hx, hb, hml, hown, hW, hK, hlocks, hF, hr, hA⟩ := id C0
  replace hl : lv_has ls 2 [(0, .ref (ad b)), (1, .int p1)] := hl
  unfold q_X3_placeOf at hf
  refine lv_aload_n hx hb dX3_placeOf_0 rfl (lv_at hl 0 rfl) ?_
  refine va_get (D := D) (ci := 4) (v := .int u.2.2.2.1) (C := RX3) (T := TX3) (N := 5) hx hb hW inlX3 hown hK hP 0 rfl rfl 3 (by decide) (hW _ wd_78) (fun _ h9 => h9) rfl dX3_placeOf_1 ?_
  refine lv_aload_n hx hb dX3_placeOf_4 rfl (lv_at hl 0 rfl) ?_
  refine va_get (D := D) (ci := 4) (v := .int u.2.2.2.2) (C := RX3) (T := TX3) (N := 5) hx hb hW inlX3 hown hK hP 0 rfl rfl 4 (by decide) (hW _ wd_79) (fun _ h9 => h9) rfl dX3_placeOf_5 ?_
  refine lv_isub hx hb dX3_placeOf_8 ?_
  refine lv_iload_n hx hb dX3_placeOf_9 rfl (lv_at hl 1 rfl) ?_
  refine lv_iadd hx hb dX3_placeOf_10 ?_
  refine lv_bipush (v := 10) hx hb dX3_placeOf_11 (by decide) ?_
  replace hf := zb_s hf
  obtain ⟨r13, hr13, hf⟩ := hf
  refine z_Si (rest := []) C0 kX3_38 (c_J9_floorMod_7cf53 l D G ((u.2.2.2.1 - u.2.2.2.2) + p1) 10 r13 hr13) (List.Perm.refl _) (List.Perm.refl _) rfl ⟨Nat.le_of_ble_eq_true rfl, Nat.le_of_ble_eq_true rfl⟩ (Nat.le_of_ble_eq_true rfl) rfl hl.1 hP hD hS dX3_placeOf_13 (fun H locs hP hD hS => ?_)
  obtain rfl := zo hf
  exact hret _ _ _ _ _ hP hD hS rfl dX3_placeOf_16
theorem kX3_34 : zLkV RX3 34 yX3_placeOf cX3_placeOf 2 (some .int) 1 := ⟨⟨wd_414, wd_415, wd_416, wd_43, wd_417⟩, by decide +kernel⟩
noncomputable def q_X3_tickAt (u : tX3) (p1 : Int32) : Option (Int32) :=
  zb (q_X3_placeOf u p1) fun r6 => zg 10 u.1 r6 fun a9 => some (a9)
set_option maxRecDepth 100000 in
set_option maxHeartbeats 4000000 in
theorem c_X3_tickAt (l : Launch) (D : va_G) (G : zG) (ad : Nat → Nat) (b : Nat) (u : tX3) (p1 : Int32) (res : Int32) (hf : q_X3_tickAt u p1 = some res) : zMi l yX3_tickAt cX3_tickAt 2 (some .int) 2 43 D G (wX3 G ad b u) (wX3 G ad b u) [.ref (ad b), .int p1] res := by
  refine zs_i (plainFor_of_name (by decide)) (Nat.le_of_ble_eq_true rfl) ?_
  intro p e s m args below meth c A Q H ls C0 hret hP hD hS hl
  obtain ⟨hx, hb, hml, hown, hW, hK, hlocks, hF, hr, hA⟩ := id C0
  replace hl : lv_has ls 2 [(0, .ref (ad b)), (1, .int p1)] := hl
  unfold q_X3_tickAt at hf
  refine lv_aload_n hx hb dX3_tickAt_0 rfl (lv_at hl 0 rfl) ?_
  refine va_get (D := D) (ci := 4) (v := .ref (ad (b + 1))) (C := RX3) (T := TX3) (N := 5) hx hb hW inlX3 hown hK hP 0 rfl rfl 0 (by decide) (hW _ wd_75) (fun _ h9 => h9) rfl dX3_tickAt_1 ?_
  refine lv_aload_n hx hb dX3_tickAt_4 rfl (lv_at hl 0 rfl) ?_
  refine lv_iload_n hx hb dX3_tickAt_5 rfl (lv_at hl 1 rfl) ?_
  replace hf := zb_s hf
  obtain ⟨r6, hr6, hf⟩ := hf
  refine z_Vi (rest := [.ref (ad (b + 1))]) C0 kX3_34 (c_X3_placeOf l D G ad (b) u p1 r6 hr6) z_pall z_pall.symm (ci := 4) (T := TX3) (N := 5) rfl rfl rfl ⟨Nat.le_of_ble_eq_true rfl, Nat.le_of_ble_eq_true rfl⟩ (Nat.le_of_ble_eq_true rfl) rfl hl.1 hP hD hS dX3_tickAt_6 (fun H locs hP hD hS => ?_)
  replace hf := zg_s hf
  obtain ⟨hi9, a9, ea9, hf⟩ := hf
  refine z_iald hx hb hK hP 1 0 rfl rfl hi9 ea9 dX3_tickAt_9 ?_
  obtain rfl := zo hf
  exact hret _ _ _ _ _ hP hD hS rfl dX3_tickAt_10
noncomputable def q_X3_kindAt (u : tX3) (p1 : Int32) : Option (Int32) :=
  zb (q_X3_placeOf u p1) fun r6 => zg 10 u.2.1 r6 fun a9 => some (a9)
set_option maxRecDepth 100000 in
set_option maxHeartbeats 4000000 in
theorem c_X3_kindAt (l : Launch) (D : va_G) (G : zG) (ad : Nat → Nat) (b : Nat) (u : tX3) (p1 : Int32) (res : Int32) (hf : q_X3_kindAt u p1 = some res) : zMi l yX3_kindAt cX3_kindAt 2 (some .int) 2 43 D G (wX3 G ad b u) (wX3 G ad b u) [.ref (ad b), .int p1] res := by
  refine zs_i (plainFor_of_name (by decide)) (Nat.le_of_ble_eq_true rfl) ?_
  intro p e s m args below meth c A Q H ls C0 hret hP hD hS hl
  obtain ⟨hx, hb, hml, hown, hW, hK, hlocks, hF, hr, hA⟩ := id C0
  replace hl : lv_has ls 2 [(0, .ref (ad b)), (1, .int p1)] := hl
  unfold q_X3_kindAt at hf
  refine lv_aload_n hx hb dX3_kindAt_0 rfl (lv_at hl 0 rfl) ?_
  refine va_get (D := D) (ci := 4) (v := .ref (ad (b + 2))) (C := RX3) (T := TX3) (N := 5) hx hb hW inlX3 hown hK hP 0 rfl rfl 1 (by decide) (hW _ wd_76) (fun _ h9 => h9) rfl dX3_kindAt_1 ?_
  refine lv_aload_n hx hb dX3_kindAt_4 rfl (lv_at hl 0 rfl) ?_
  refine lv_iload_n hx hb dX3_kindAt_5 rfl (lv_at hl 1 rfl) ?_
  replace hf := zb_s hf
  obtain ⟨r6, hr6, hf⟩ := hf
  refine z_Vi (rest := [.ref (ad (b + 2))]) C0 kX3_34 (c_X3_placeOf l D G ad (b) u p1 r6 hr6) z_pall z_pall.symm (ci := 4) (T := TX3) (N := 5) rfl rfl rfl ⟨Nat.le_of_ble_eq_true rfl, Nat.le_of_ble_eq_true rfl⟩ (Nat.le_of_ble_eq_true rfl) rfl hl.1 hP hD hS dX3_kindAt_6 (fun H locs hP hD hS => ?_)
  replace hf := zg_s hf
  obtain ⟨hi9, a9, ea9, hf⟩ := hf
  refine z_iald hx hb hK hP 2 0 rfl rfl hi9 ea9 dX3_kindAt_9 ?_
  obtain rfl := zo hf
  exact hret _ _ _ _ _ hP hD hS rfl dX3_kindAt_10
noncomputable def q_X3_spanAt (u : tX3) (p1 : Int32) : Option (Int32) :=
  zb (q_X3_placeOf u p1) fun r6 => zg 10 u.2.2.1 r6 fun a9 => some (a9)
set_option maxRecDepth 100000 in
set_option maxHeartbeats 4000000 in
theorem c_X3_spanAt (l : Launch) (D : va_G) (G : zG) (ad : Nat → Nat) (b : Nat) (u : tX3) (p1 : Int32) (res : Int32) (hf : q_X3_spanAt u p1 = some res) : zMi l yX3_spanAt cX3_spanAt 2 (some .int) 2 43 D G (wX3 G ad b u) (wX3 G ad b u) [.ref (ad b), .int p1] res := by
  refine zs_i (plainFor_of_name (by decide)) (Nat.le_of_ble_eq_true rfl) ?_
  intro p e s m args below meth c A Q H ls C0 hret hP hD hS hl
  obtain ⟨hx, hb, hml, hown, hW, hK, hlocks, hF, hr, hA⟩ := id C0
  replace hl : lv_has ls 2 [(0, .ref (ad b)), (1, .int p1)] := hl
  unfold q_X3_spanAt at hf
  refine lv_aload_n hx hb dX3_spanAt_0 rfl (lv_at hl 0 rfl) ?_
  refine va_get (D := D) (ci := 4) (v := .ref (ad (b + 3))) (C := RX3) (T := TX3) (N := 5) hx hb hW inlX3 hown hK hP 0 rfl rfl 2 (by decide) (hW _ wd_77) (fun _ h9 => h9) rfl dX3_spanAt_1 ?_
  refine lv_aload_n hx hb dX3_spanAt_4 rfl (lv_at hl 0 rfl) ?_
  refine lv_iload_n hx hb dX3_spanAt_5 rfl (lv_at hl 1 rfl) ?_
  replace hf := zb_s hf
  obtain ⟨r6, hr6, hf⟩ := hf
  refine z_Vi (rest := [.ref (ad (b + 3))]) C0 kX3_34 (c_X3_placeOf l D G ad (b) u p1 r6 hr6) z_pall z_pall.symm (ci := 4) (T := TX3) (N := 5) rfl rfl rfl ⟨Nat.le_of_ble_eq_true rfl, Nat.le_of_ble_eq_true rfl⟩ (Nat.le_of_ble_eq_true rfl) rfl hl.1 hP hD hS dX3_spanAt_6 (fun H locs hP hD hS => ?_)
  replace hf := zg_s hf
  obtain ⟨hi9, a9, ea9, hf⟩ := hf
  refine z_iald hx hb hK hP 3 0 rfl rfl hi9 ea9 dX3_spanAt_9 ?_
  obtain rfl := zo hf
  exact hret _ _ _ _ _ hP hD hS rfl dX3_spanAt_10
