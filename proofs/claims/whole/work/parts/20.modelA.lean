noncomputable def q_X7_within (p0 : Int32) (p1 : Int32) (p2 : Int32) : Option (Int32) :=
  (if p0 < p1 then some (0) else (if p2 < p0 then some (0) else some (1)))
set_option maxRecDepth 100000 in
set_option maxHeartbeats 4000000 in
theorem c_X7_within (l : Launch) (D : va_G) (G : zG)  (p0 : Int32) (p1 : Int32) (p2 : Int32) (res : Int32) (hf : q_X7_within p0 p1 p2 = some res) : zMi l yX7_within cX7_within 3 (some .boolean) 0 0 D G (([] : va_W)) (([] : va_W)) [.int p0, .int p1, .int p2] res := by
  refine zs_z (plainFor_of_name (by decide)) (Nat.le_of_ble_eq_true rfl) ?_
  intro p e s m args below meth c A Q H ls C0 hret hP hD hS hl
  obtain ⟨hx, hb, hml, hown, hW, hK, hlocks, hF, hr, hA⟩ := id C0
  replace hl : lv_has ls 3 [(0, .int p0), (1, .int p1), (2, .int p2)] := hl
  unfold q_X7_within at hf
  refine lv_iload_n hx hb dX7_within_0 rfl (lv_at hl 0 rfl) ?_
  refine lv_iload_n hx hb dX7_within_1 rfl (lv_at hl 1 rfl) ?_
  refine lv_icmp_lt (tgt := 14) hx hb dX7_within_2 (by decide) (fun c2 => ?_) (fun c2 => ?_)
  · replace hf := zi_p hf c2
    refine lv_iconst (v := 0) hx hb dX7_within_14 (by decide) ?_
    obtain rfl := zo hf
    exact hret _ _ _ _ _ hP hD hS rfl rfl dX7_within_15
  · replace hf := zi_n hf c2
    refine lv_iload_n hx hb dX7_within_5 rfl (lv_at hl 0 rfl) ?_
    refine lv_iload_n hx hb dX7_within_6 rfl (lv_at hl 2 rfl) ?_
    refine lv_icmp_gt (tgt := 14) hx hb dX7_within_7 (by decide) (fun c7 => ?_) (fun c7 => ?_)
    · replace hf := zi_p hf c7
      refine lv_iconst (v := 0) hx hb dX7_within_14 (by decide) ?_
      obtain rfl := zo hf
      exact hret _ _ _ _ _ hP hD hS rfl rfl dX7_within_15
    · replace hf := zi_n hf c7
      refine lv_iconst (v := 1) hx hb dX7_within_10 (by decide) ?_
      refine lv_goto (tgt := 15) hx hb dX7_within_11 (by decide) ?_
      obtain rfl := zo hf
      exact hret _ _ _ _ _ hP hD hS rfl rfl dX7_within_15
theorem kX7_30 : zLkS RX7 30 yX7_within cX7_within 3 (some .boolean) 3 := ⟨⟨wd_183, wd_184, wd_5, wd_185⟩, by decide +kernel⟩
noncomputable def q_X7_isSpan (p0 : Int32) : Option (Int32) :=
  zb (q_X7_within p0 0 7) fun r4 => zq (r4 = 0 ∨ r4 = 1) (some (r4))
set_option maxRecDepth 100000 in
set_option maxHeartbeats 4000000 in
theorem c_X7_isSpan (l : Launch) (D : va_G) (G : zG)  (p0 : Int32) (res : Int32) (hf : q_X7_isSpan p0 = some res) : zMi l yX7_isSpan cX7_isSpan 1 (some .boolean) 1 22 D G (([] : va_W)) (([] : va_W)) [.int p0] res := by
  refine zs_z (plainFor_of_name (by decide)) (Nat.le_of_ble_eq_true rfl) ?_
  intro p e s m args below meth c A Q H ls C0 hret hP hD hS hl
  obtain ⟨hx, hb, hml, hown, hW, hK, hlocks, hF, hr, hA⟩ := id C0
  replace hl : lv_has ls 1 [(0, .int p0)] := hl
  unfold q_X7_isSpan at hf
  refine lv_iload_n hx hb dX7_isSpan_0 rfl (lv_at hl 0 rfl) ?_
  refine lv_iconst (v := 0) hx hb dX7_isSpan_1 (by decide) ?_
  refine lv_bipush (v := 7) hx hb dX7_isSpan_2 (by decide) ?_
  replace hf := zb_s hf
  obtain ⟨r4, hr4, hf⟩ := hf
  refine z_Si (rest := []) C0 kX7_30 (c_X7_within l D G p0 0 7 r4 hr4) (List.Perm.refl _) (List.Perm.refl _) rfl ⟨Nat.le_of_ble_eq_true rfl, Nat.le_of_ble_eq_true rfl⟩ (Nat.le_of_ble_eq_true rfl) rfl hl.1 hP hD hS dX7_isSpan_4 (fun H locs hP hD hS => ?_)
  replace hf := zq_s hf
  obtain ⟨hq, hf⟩ := hf
  obtain rfl := zo hf
  exact hret _ _ _ _ _ hP hD hS rfl (z_nb hq) dX7_isSpan_7
noncomputable def q_X7_logs (u : tX7) (p1 : Int32) (p2 : Int32) : Option ((Nat → Int32)) :=
  zs 104 u.1 (74 + (3 * ((u.1 14) - (u.1 14) / 10 * 10))) (u.1 0) fun s27 => zs 104 s27 ((74 + (3 * ((u.1 14) - (u.1 14) / 10 * 10))) + 1) p1 fun s36 => zs 104 s36 ((74 + (3 * ((u.1 14) - (u.1 14) / 10 * 10))) + 2) p2 fun s45 => zn (upd s45 14 ((s45 14) + 1)) fun s56 => some (s56)
set_option maxRecDepth 100000 in
set_option maxHeartbeats 4000000 in
theorem c_X7_logs (l : Launch) (D : va_G) (G : zG) (ad : Nat → Nat) (b : Nat) (u : tX7) (p1 : Int32) (p2 : Int32) (res : (Nat → Int32)) (hf : q_X7_logs u p1 p2 = some res) : zMv l yX7_logs cX7_logs 4 none 0 0 D G (wX7 G ad b u) (wX7 G ad b (res, u.2.1, u.2.2.1, u.2.2.2.1, u.2.2.2.2.1, u.2.2.2.2.2.1, u.2.2.2.2.2.2.1, u.2.2.2.2.2.2.2.1, u.2.2.2.2.2.2.2.2.1, u.2.2.2.2.2.2.2.2.2.1, u.2.2.2.2.2.2.2.2.2.2)) [.ref (ad b), .int p1, .int p2] := by
  refine zs_v (plainFor_of_name (by decide)) (Nat.le_of_ble_eq_true rfl) ?_
  intro p e s m args below meth c A Q H ls C0 hret hP hD hS hl
  obtain ⟨hx, hb, hml, hown, hW, hK, hlocks, hF, hr, hA⟩ := id C0
  replace hl : lv_has ls 4 [(0, .ref (ad b)), (1, .int p1), (2, .int p2)] := hl
  unfold q_X7_logs at hf
  refine lv_bipush (v := 74) hx hb dX7_logs_0 (by decide) ?_
  refine lv_iconst (v := 3) hx hb dX7_logs_2 (by decide) ?_
  refine lv_aload_n hx hb dX7_logs_3 rfl (lv_at hl 0 rfl) ?_
  refine va_get (D := D) (ci := 8) (v := .ref (ad (b + 1))) (C := RX7) (T := TX7) (N := 11) hx hb hW inlX7 hown hK hP 0 rfl rfl 0 (by decide) (hW _ wd_127) (fun _ h9 => h9) rfl dX7_logs_4 ?_
  refine lv_bipush (v := 14) hx hb dX7_logs_7 (by decide) ?_
  refine z_iald (v := (u.1 14)) hx hb hK hP 1 0 rfl rfl (z_in rfl) rfl dX7_logs_9 ?_
  refine lv_bipush (v := 10) hx hb dX7_logs_10 (by decide) ?_
  refine lv_irem hx hb dX7_logs_12 (by decide) ?_
  refine lv_imul hx hb dX7_logs_13 ?_
  refine lv_iadd hx hb dX7_logs_14 ?_
  refine lv_istore_n (lv' := [(3, .int (74 + (3 * ((u.1 14) - (u.1 14) / 10 * 10)))), (0, .ref (ad b)), (1, .int p1), (2, .int p2)]) hx hb dX7_logs_15 rfl hl (by decide) rfl (fun ls hl => ?_)
  refine lv_aload_n hx hb dX7_logs_16 rfl (lv_at hl 1 rfl) ?_
  refine va_get (D := D) (ci := 8) (v := .ref (ad (b + 1))) (C := RX7) (T := TX7) (N := 11) hx hb hW inlX7 hown hK hP 0 rfl rfl 0 (by decide) (hW _ wd_127) (fun _ h9 => h9) rfl dX7_logs_17 ?_
  refine lv_iload_n hx hb dX7_logs_20 rfl (lv_at hl 0 rfl) ?_
  refine lv_aload_n hx hb dX7_logs_21 rfl (lv_at hl 1 rfl) ?_
  refine va_get (D := D) (ci := 8) (v := .ref (ad (b + 1))) (C := RX7) (T := TX7) (N := 11) hx hb hW inlX7 hown hK hP 0 rfl rfl 0 (by decide) (hW _ wd_127) (fun _ h9 => h9) rfl dX7_logs_22 ?_
  refine lv_iconst (v := 0) hx hb dX7_logs_25 (by decide) ?_
  refine z_iald (v := (u.1 0)) hx hb hK hP 1 0 rfl rfl (z_in rfl) rfl dX7_logs_26 ?_
  replace hf := zs_s hf
  obtain ⟨hi27, s27, es27, hf⟩ := hf
  refine z_iast (ws' := wX7 G ad b (s27, u.2.1, u.2.2.1, u.2.2.2.1, u.2.2.2.2.1, u.2.2.2.2.2.1, u.2.2.2.2.2.2.1, u.2.2.2.2.2.2.2.1, u.2.2.2.2.2.2.2.2.1, u.2.2.2.2.2.2.2.2.2.1, u.2.2.2.2.2.2.2.2.2.2)) hx hb hK hP hD hS 1 0 rfl rfl hi27 es27 rfl dX7_logs_27 (fun H locs hP hD hS => ?_)
  refine lv_aload_n hx hb dX7_logs_28 rfl (lv_at hl 1 rfl) ?_
  refine va_get (D := D) (ci := 8) (v := .ref (ad (b + 1))) (C := RX7) (T := TX7) (N := 11) hx hb hW inlX7 hown hK hP 0 rfl rfl 0 (by decide) (hW _ wd_127) (fun _ h9 => h9) rfl dX7_logs_29 ?_
  refine lv_iload_n hx hb dX7_logs_32 rfl (lv_at hl 0 rfl) ?_
  refine lv_iconst (v := 1) hx hb dX7_logs_33 (by decide) ?_
  refine lv_iadd hx hb dX7_logs_34 ?_
  refine lv_iload_n hx hb dX7_logs_35 rfl (lv_at hl 2 rfl) ?_
  replace hf := zs_s hf
  obtain ⟨hi36, s36, es36, hf⟩ := hf
  refine z_iast (ws' := wX7 G ad b (s36, u.2.1, u.2.2.1, u.2.2.2.1, u.2.2.2.2.1, u.2.2.2.2.2.1, u.2.2.2.2.2.2.1, u.2.2.2.2.2.2.2.1, u.2.2.2.2.2.2.2.2.1, u.2.2.2.2.2.2.2.2.2.1, u.2.2.2.2.2.2.2.2.2.2)) hx hb hK hP hD hS 1 0 rfl rfl hi36 es36 rfl dX7_logs_36 (fun H locs hP hD hS => ?_)
  refine lv_aload_n hx hb dX7_logs_37 rfl (lv_at hl 1 rfl) ?_
  refine va_get (D := D) (ci := 8) (v := .ref (ad (b + 1))) (C := RX7) (T := TX7) (N := 11) hx hb hW inlX7 hown hK hP 0 rfl rfl 0 (by decide) (hW _ wd_127) (fun _ h9 => h9) rfl dX7_logs_38 ?_
  refine lv_iload_n hx hb dX7_logs_41 rfl (lv_at hl 0 rfl) ?_
  refine lv_iconst (v := 2) hx hb dX7_logs_42 (by decide) ?_
  refine lv_iadd hx hb dX7_logs_43 ?_
  refine lv_iload_n hx hb dX7_logs_44 rfl (lv_at hl 3 rfl) ?_
  replace hf := zs_s hf
  obtain ⟨hi45, s45, es45, hf⟩ := hf
  refine z_iast (ws' := wX7 G ad b (s45, u.2.1, u.2.2.1, u.2.2.2.1, u.2.2.2.2.1, u.2.2.2.2.2.1, u.2.2.2.2.2.2.1, u.2.2.2.2.2.2.2.1, u.2.2.2.2.2.2.2.2.1, u.2.2.2.2.2.2.2.2.2.1, u.2.2.2.2.2.2.2.2.2.2)) hx hb hK hP hD hS 1 0 rfl rfl hi45 es45 rfl dX7_logs_45 (fun H locs hP hD hS => ?_)
  refine lv_aload_n hx hb dX7_logs_46 rfl (lv_at hl 1 rfl) ?_
  refine va_get (D := D) (ci := 8) (v := .ref (ad (b + 1))) (C := RX7) (T := TX7) (N := 11) hx hb hW inlX7 hown hK hP 0 rfl rfl 0 (by decide) (hW _ wd_127) (fun _ h9 => h9) rfl dX7_logs_47 ?_
  refine lv_bipush (v := 14) hx hb dX7_logs_50 (by decide) ?_
  refine lv_dup2_11 hx hb dX7_logs_52 rfl rfl ?_
  refine z_iald (v := (s45 14)) hx hb hK hP 1 0 rfl rfl (z_in rfl) rfl dX7_logs_53 ?_
  refine lv_iconst (v := 1) hx hb dX7_logs_54 (by decide) ?_
  refine lv_iadd hx hb dX7_logs_55 ?_
  replace hf := zn_s hf
  obtain ⟨s56, es56, hf⟩ := hf
  refine z_iast (ws' := wX7 G ad b (s56, u.2.1, u.2.2.1, u.2.2.2.1, u.2.2.2.2.1, u.2.2.2.2.2.1, u.2.2.2.2.2.2.1, u.2.2.2.2.2.2.2.1, u.2.2.2.2.2.2.2.2.1, u.2.2.2.2.2.2.2.2.2.1, u.2.2.2.2.2.2.2.2.2.2)) hx hb hK hP hD hS 1 0 rfl rfl (z_in rfl) es56 rfl dX7_logs_56 (fun H locs hP hD hS => ?_)
  obtain rfl := zo hf
  exact hret _ _ _ _ hP hD hS dX7_logs_57
noncomputable def q_X7_entriesMany (u : tX7) : Option (Int32) :=
  (if 10 ≤ (u.1 14) then some (10) else some ((u.1 14)))
set_option maxRecDepth 100000 in
set_option maxHeartbeats 4000000 in
theorem c_X7_entriesMany (l : Launch) (D : va_G) (G : zG) (ad : Nat → Nat) (b : Nat) (u : tX7) (res : Int32) (hf : q_X7_entriesMany u = some res) : zMi l yX7_entriesMany cX7_entriesMany 1 (some .int) 0 0 D G (wX7 G ad b u) (wX7 G ad b u) [.ref (ad b)] res := by
  refine zs_i (plainFor_of_name (by decide)) (Nat.le_of_ble_eq_true rfl) ?_
  intro p e s m args below meth c A Q H ls C0 hret hP hD hS hl
  obtain ⟨hx, hb, hml, hown, hW, hK, hlocks, hF, hr, hA⟩ := id C0
  replace hl : lv_has ls 1 [(0, .ref (ad b))] := hl
  unfold q_X7_entriesMany at hf
  refine lv_aload_n hx hb dX7_entriesMany_0 rfl (lv_at hl 0 rfl) ?_
  refine va_get (D := D) (ci := 8) (v := .ref (ad (b + 1))) (C := RX7) (T := TX7) (N := 11) hx hb hW inlX7 hown hK hP 0 rfl rfl 0 (by decide) (hW _ wd_127) (fun _ h9 => h9) rfl dX7_entriesMany_1 ?_
  refine lv_bipush (v := 14) hx hb dX7_entriesMany_4 (by decide) ?_
  refine z_iald (v := (u.1 14)) hx hb hK hP 1 0 rfl rfl (z_in rfl) rfl dX7_entriesMany_6 ?_
  refine lv_bipush (v := 10) hx hb dX7_entriesMany_7 (by decide) ?_
  refine lv_icmp_ge (tgt := 22) hx hb dX7_entriesMany_9 (by decide) (fun c9 => ?_) (fun c9 => ?_)
  · replace hf := zi_p hf c9
    refine lv_bipush (v := 10) hx hb dX7_entriesMany_22 (by decide) ?_
    obtain rfl := zo hf
    exact hret _ _ _ _ _ hP hD hS rfl dX7_entriesMany_24
  · replace hf := zi_n hf c9
    refine lv_aload_n hx hb dX7_entriesMany_12 rfl (lv_at hl 0 rfl) ?_
    refine va_get (D := D) (ci := 8) (v := .ref (ad (b + 1))) (C := RX7) (T := TX7) (N := 11) hx hb hW inlX7 hown hK hP 0 rfl rfl 0 (by decide) (hW _ wd_127) (fun _ h9 => h9) rfl dX7_entriesMany_13 ?_
    refine lv_bipush (v := 14) hx hb dX7_entriesMany_16 (by decide) ?_
    refine z_iald (v := (u.1 14)) hx hb hK hP 1 0 rfl rfl (z_in rfl) rfl dX7_entriesMany_18 ?_
    refine lv_goto (tgt := 24) hx hb dX7_entriesMany_19 (by decide) ?_
    obtain rfl := zo hf
    exact hret _ _ _ _ _ hP hD hS rfl dX7_entriesMany_24
theorem kX7_34 : zLkV RX7 34 yX7_entriesMany cX7_entriesMany 1 (some .int) 0 := ⟨⟨wd_551, wd_552, wd_553, wd_5, wd_554⟩, by decide +kernel⟩
noncomputable def q_X7_entryPart (u : tX7) (p1 : Int32) (p2 : Int32) : Option (Int32) :=
  zb (q_X7_entriesMany u) fun r15 => zg 104 u.1 ((74 + (3 * ((((u.1 14) - r15) + p1) - (((u.1 14) - r15) + p1) / 10 * 10))) + p2) fun a28 => some (a28)
set_option maxRecDepth 100000 in
set_option maxHeartbeats 4000000 in
theorem c_X7_entryPart (l : Launch) (D : va_G) (G : zG) (ad : Nat → Nat) (b : Nat) (u : tX7) (p1 : Int32) (p2 : Int32) (res : Int32) (hf : q_X7_entryPart u p1 p2 = some res) : zMi l yX7_entryPart cX7_entryPart 3 (some .int) 1 20 D G (wX7 G ad b u) (wX7 G ad b u) [.ref (ad b), .int p1, .int p2] res := by
  refine zs_i (plainFor_of_name (by decide)) (Nat.le_of_ble_eq_true rfl) ?_
  intro p e s m args below meth c A Q H ls C0 hret hP hD hS hl
  obtain ⟨hx, hb, hml, hown, hW, hK, hlocks, hF, hr, hA⟩ := id C0
  replace hl : lv_has ls 3 [(0, .ref (ad b)), (1, .int p1), (2, .int p2)] := hl
  unfold q_X7_entryPart at hf
  refine lv_aload_n hx hb dX7_entryPart_0 rfl (lv_at hl 0 rfl) ?_
  refine va_get (D := D) (ci := 8) (v := .ref (ad (b + 1))) (C := RX7) (T := TX7) (N := 11) hx hb hW inlX7 hown hK hP 0 rfl rfl 0 (by decide) (hW _ wd_127) (fun _ h9 => h9) rfl dX7_entryPart_1 ?_
  refine lv_bipush (v := 74) hx hb dX7_entryPart_4 (by decide) ?_
  refine lv_iconst (v := 3) hx hb dX7_entryPart_6 (by decide) ?_
  refine lv_aload_n hx hb dX7_entryPart_7 rfl (lv_at hl 0 rfl) ?_
  refine va_get (D := D) (ci := 8) (v := .ref (ad (b + 1))) (C := RX7) (T := TX7) (N := 11) hx hb hW inlX7 hown hK hP 0 rfl rfl 0 (by decide) (hW _ wd_127) (fun _ h9 => h9) rfl dX7_entryPart_8 ?_
  refine lv_bipush (v := 14) hx hb dX7_entryPart_11 (by decide) ?_
  refine z_iald (v := (u.1 14)) hx hb hK hP 1 0 rfl rfl (z_in rfl) rfl dX7_entryPart_13 ?_
  refine lv_aload_n hx hb dX7_entryPart_14 rfl (lv_at hl 0 rfl) ?_
  replace hf := zb_s hf
  obtain ⟨r15, hr15, hf⟩ := hf
  refine z_Vi (rest := [.int (u.1 14), .int 3, .int 74, .ref (ad (b + 1))]) C0 kX7_34 (c_X7_entriesMany l D G ad (b) u r15 hr15) z_pall z_pall.symm (ci := 8) (T := TX7) (N := 11) rfl rfl rfl ⟨Nat.le_of_ble_eq_true rfl, Nat.le_of_ble_eq_true rfl⟩ (Nat.le_of_ble_eq_true rfl) rfl hl.1 hP hD hS dX7_entryPart_15 (fun H locs hP hD hS => ?_)
  refine lv_isub hx hb dX7_entryPart_18 ?_
  refine lv_iload_n hx hb dX7_entryPart_19 rfl (lv_at hl 1 rfl) ?_
  refine lv_iadd hx hb dX7_entryPart_20 ?_
  refine lv_bipush (v := 10) hx hb dX7_entryPart_21 (by decide) ?_
  refine lv_irem hx hb dX7_entryPart_23 (by decide) ?_
  refine lv_imul hx hb dX7_entryPart_24 ?_
  refine lv_iadd hx hb dX7_entryPart_25 ?_
  refine lv_iload_n hx hb dX7_entryPart_26 rfl (lv_at hl 2 rfl) ?_
  refine lv_iadd hx hb dX7_entryPart_27 ?_
  replace hf := zg_s hf
  obtain ⟨hi28, a28, ea28, hf⟩ := hf
  refine z_iald hx hb hK hP 1 0 rfl rfl hi28 ea28 dX7_entryPart_28 ?_
  obtain rfl := zo hf
  exact hret _ _ _ _ _ hP hD hS rfl dX7_entryPart_29
noncomputable def q_X7_word (p0 : Int32) : Option (Int64) :=
  (if p0 = 1 then some (126918051980642) else if p0 = 2 then some (126879565963632) else if p0 = 3 then some (1935961701) else if p0 = 4 then some (7234297646522852722) else if p0 = 5 then some (495957668979) else some (2003790963))
set_option maxRecDepth 100000 in
set_option maxHeartbeats 4000000 in
theorem c_X7_word (l : Launch) (D : va_G) (G : zG)  (p0 : Int32) (res : Int64) (hf : q_X7_word p0 = some res) : zMl l yX7_word cX7_word 1 (some .long) 0 0 D G (([] : va_W)) (([] : va_W)) [.int p0] res := by
  refine zs_l (plainFor_of_name (by decide)) (Nat.le_of_ble_eq_true rfl) ?_
  intro p e s m args below meth c A Q H ls C0 hret hP hD hS hl
  obtain ⟨hx, hb, hml, hown, hW, hK, hlocks, hF, hr, hA⟩ := id C0
  replace hl : lv_has ls 1 [(0, .int p0)] := hl
  unfold q_X7_word at hf
  refine lv_iload_n hx hb dX7_word_0 rfl (lv_at hl 0 rfl) ?_
  refine z_by (c := p0 = 1) (fun c1_0 => ?_) (fun n1_0 => ?_)
  · replace hf := zi_p hf c1_0
    refine lv_tableIn (off := 35) (tgt := 36) hx hb dX7_word_1 (by rw [c1_0]; decide) (by rw [c1_0]; decide) (by rw [c1_0]; decide) (by decide) ?_
    refine lv_ldc2 hx hb hown (hW _ wd_818) dX7_word_36 ?_
    obtain rfl := zo hf
    exact hret _ _ _ _ _ hP hD hS rfl dX7_word_39
  · replace hf := zi_n hf n1_0
    refine z_by (c := p0 = 2) (fun c1_1 => ?_) (fun n1_1 => ?_)
    · replace hf := zi_p hf c1_1
      refine lv_tableIn (off := 39) (tgt := 40) hx hb dX7_word_1 (by rw [c1_1]; decide) (by rw [c1_1]; decide) (by rw [c1_1]; decide) (by decide) ?_
      refine lv_ldc2 hx hb hown (hW _ wd_819) dX7_word_40 ?_
      obtain rfl := zo hf
      exact hret _ _ _ _ _ hP hD hS rfl dX7_word_43
    · replace hf := zi_n hf n1_1
      refine z_by (c := p0 = 3) (fun c1_2 => ?_) (fun n1_2 => ?_)
      · replace hf := zi_p hf c1_2
        refine lv_tableIn (off := 43) (tgt := 44) hx hb dX7_word_1 (by rw [c1_2]; decide) (by rw [c1_2]; decide) (by rw [c1_2]; decide) (by decide) ?_
        refine lv_ldc2 hx hb hown (hW _ wd_820) dX7_word_44 ?_
        obtain rfl := zo hf
        exact hret _ _ _ _ _ hP hD hS rfl dX7_word_47
      · replace hf := zi_n hf n1_2
        refine z_by (c := p0 = 4) (fun c1_3 => ?_) (fun n1_3 => ?_)
        · replace hf := zi_p hf c1_3
          refine lv_tableIn (off := 47) (tgt := 48) hx hb dX7_word_1 (by rw [c1_3]; decide) (by rw [c1_3]; decide) (by rw [c1_3]; decide) (by decide) ?_
          refine lv_ldc2 hx hb hown (hW _ wd_821) dX7_word_48 ?_
          obtain rfl := zo hf
          exact hret _ _ _ _ _ hP hD hS rfl dX7_word_51
        · replace hf := zi_n hf n1_3
          refine z_by (c := p0 = 5) (fun c1_4 => ?_) (fun n1_4 => ?_)
          · replace hf := zi_p hf c1_4
            refine lv_tableIn (off := 51) (tgt := 52) hx hb dX7_word_1 (by rw [c1_4]; decide) (by rw [c1_4]; decide) (by rw [c1_4]; decide) (by decide) ?_
            refine lv_ldc2 hx hb hown (hW _ wd_822) dX7_word_52 ?_
            obtain rfl := zo hf
            exact hret _ _ _ _ _ hP hD hS rfl dX7_word_55
          · replace hf := zi_n hf n1_4
            refine lv_tableOut (tgt := 56) hx hb dX7_word_1 (by have h0 := lv_neT (a := 1) n1_0 (by decide); have h1 := lv_neT (a := 2) n1_1 (by decide); have h2 := lv_neT (a := 3) n1_2 (by decide); have h3 := lv_neT (a := 4) n1_3 (by decide); have h4 := lv_neT (a := 5) n1_4 (by decide); omega) (by decide) ?_
            refine lv_ldc2 hx hb hown (hW _ wd_823) dX7_word_56 ?_
            obtain rfl := zo hf
            exact hret _ _ _ _ _ hP hD hS rfl dX7_word_59
noncomputable def q_X7_digits_L7  (v7 : Int32 × Int32) : Option ((Int32 × Int32) ⊕ (Int32)) :=
  (if v7.2 ≤ 0 then some (Sum.inr (v7.1)) else some (Sum.inl ((v7.1 + 1), (v7.2 / 10))))
noncomputable def q_X7_digits (p0 : Int32) : Option (Int32) :=
  zb (zl 1000000 q_X7_digits_L7 (1, (p0 / 10))) (fun b7 => some (b7))
set_option maxRecDepth 100000 in
set_option maxHeartbeats 4000000 in
theorem c_X7_digits (l : Launch) (D : va_G) (G : zG)  (p0 : Int32) (res : Int32) (hf : q_X7_digits p0 = some res) : zMi l yX7_digits cX7_digits 3 (some .int) 0 0 D G (([] : va_W)) (([] : va_W)) [.int p0] res := by
  refine zs_i (plainFor_of_name (by decide)) (Nat.le_of_ble_eq_true rfl) ?_
  intro p e s m args below meth c A Q H ls C0 hret hP hD hS hl
  obtain ⟨hx, hb, hml, hown, hW, hK, hlocks, hF, hr, hA⟩ := id C0
  replace hl : lv_has ls 3 [(0, .int p0)] := hl
  unfold q_X7_digits at hf
  refine lv_iconst (v := 1) hx hb dX7_digits_0 (by decide) ?_
  refine lv_istore_n (lv' := [(1, .int 1), (0, .int p0)]) hx hb dX7_digits_1 rfl hl (by decide) rfl (fun ls hl => ?_)
  refine lv_iload_n hx hb dX7_digits_2 rfl (lv_at hl 1 rfl) ?_
  refine lv_bipush (v := 10) hx hb dX7_digits_3 (by decide) ?_
  refine lv_idiv hx hb dX7_digits_5 (by decide) ?_
  refine lv_istore_n (lv' := [(2, .int (p0 / 10)), (1, .int 1), (0, .int p0)]) hx hb dX7_digits_6 rfl hl (by decide) rfl (fun ls hl => ?_)
  replace hf := zb_s hf
  obtain ⟨b7, hz7, hk7⟩ := hf
  have L7 : ∀ (n7 : Nat) (v7 : Int32 × Int32) (hz7 : zl n7 q_X7_digits_L7 v7 = some b7) (H : Heap) (locs : List Loc) (hP : va_P D vwCl (([] : va_W)) H) (hD : va_D A (([] : va_W))) (hS : va_S A s.heap H locs) (ls : Array Slot) (hl : lv_has ls 3 [(1, .int v7.1), (2, .int v7.2)]), W p l e (zRm 0 0) s m args below meth c H locs 0 0 Q (F0 m 7 ls []) := by
    intro n7
    induction n7 with
    | zero => intro v7 hz7; exact (zl_0 hz7).elim
    | succ n7 ih7 =>
      intro v7 hz7 H locs hP hD hS ls hl
      obtain ⟨o7, hf, hz7⟩ := zl_s hz7
      unfold q_X7_digits_L7 at hf
      refine lv_iload_n hx hb dX7_digits_7 rfl (lv_at hl 1 rfl) ?_
      refine lv_if_le (tgt := 22) hx hb dX7_digits_8 (by decide) (fun c8 => ?_) (fun c8 => ?_)
      · replace hf := zi_p hf c8
        have hb7 := zk_r hf hz7
        subst hb7
        replace hf := hk7
        refine lv_iload_n hx hb dX7_digits_22 rfl (lv_at hl 0 rfl) ?_
        obtain rfl := zo hf
        exact hret _ _ _ _ _ hP hD hS rfl dX7_digits_23
      · replace hf := zi_n hf c8
        refine lv_iinc (v := (v7.1 + 1)) (lv' := [(1, .int (v7.1 + 1)), (2, .int v7.2)]) hx hb dX7_digits_11 hl (k := 0) rfl rfl (by decide) rfl (fun ls hl => ?_)
        refine lv_iload_n hx hb dX7_digits_14 rfl (lv_at hl 1 rfl) ?_
        refine lv_bipush (v := 10) hx hb dX7_digits_15 (by decide) ?_
        refine lv_idiv hx hb dX7_digits_17 (by decide) ?_
        refine lv_istore_n (lv' := [(2, .int (v7.2 / 10)), (1, .int (v7.1 + 1))]) hx hb dX7_digits_18 rfl hl (by decide) rfl (fun ls hl => ?_)
        refine lv_goto (tgt := 7) hx hb dX7_digits_19 (by decide) ?_
        exact ih7 _ (zk_l hf hz7) _ _ hP hD hS _ (lv_sub hl [1, 0] rfl)
  exact L7 _ _ hz7 _ _ hP hD hS _ (lv_sub hl [1, 0] rfl)
theorem kX7_50 : zLkS RX7 50 yX7_word cX7_word 1 (some .long) 1 := ⟨⟨wd_815, wd_816, wd_5, wd_817⟩, by decide +kernel⟩
noncomputable def q_X7_letters_L7  (v7 : Int32 × Int64) : Option ((Int32 × Int64) ⊕ (Int32)) :=
  (if (lg_cmp v7.2 0) ≤ 0 then some (Sum.inr (v7.1)) else some (Sum.inl ((v7.1 + 1), (v7.2 >>> (Int32.toInt64 8 &&& 63)))))
noncomputable def q_X7_letters (p0 : Int32) : Option (Int32) :=
  zb (q_X7_word p0) fun r3 => zb (zl 1000000 q_X7_letters_L7 (0, r3)) (fun b7 => some (b7))
set_option maxRecDepth 100000 in
set_option maxHeartbeats 4000000 in
theorem c_X7_letters (l : Launch) (D : va_G) (G : zG)  (p0 : Int32) (res : Int32) (hf : q_X7_letters p0 = some res) : zMi l yX7_letters cX7_letters 4 (some .int) 1 20 D G (([] : va_W)) (([] : va_W)) [.int p0] res := by
  refine zs_i (plainFor_of_name (by decide)) (Nat.le_of_ble_eq_true rfl) ?_
  intro p e s m args below meth c A Q H ls C0 hret hP hD hS hl
  obtain ⟨hx, hb, hml, hown, hW, hK, hlocks, hF, hr, hA⟩ := id C0
  replace hl : lv_has ls 4 [(0, .int p0)] := hl
  unfold q_X7_letters at hf
  refine lv_iconst (v := 0) hx hb dX7_letters_0 (by decide) ?_
  refine lv_istore_n (lv' := [(1, .int 0), (0, .int p0)]) hx hb dX7_letters_1 rfl hl (by decide) rfl (fun ls hl => ?_)
  refine lv_iload_n hx hb dX7_letters_2 rfl (lv_at hl 1 rfl) ?_
  replace hf := zb_s hf
  obtain ⟨r3, hr3, hf⟩ := hf
  refine z_Sl (rest := []) C0 kX7_50 (c_X7_word l D G p0 r3 hr3) (List.Perm.refl _) (List.Perm.refl _) rfl ⟨Nat.le_of_ble_eq_true rfl, Nat.le_of_ble_eq_true rfl⟩ (Nat.le_of_ble_eq_true rfl) rfl hl.1 hP hD hS dX7_letters_3 (fun H locs hP hD hS => ?_)
  refine lv_lstore_n (lv' := [(2, .long r3), (1, .int 0), (0, .int p0)]) hx hb dX7_letters_6 rfl hl (by decide) rfl (fun ls hl => ?_)
  replace hf := zb_s hf
  obtain ⟨b7, hz7, hk7⟩ := hf
  have L7 : ∀ (n7 : Nat) (v7 : Int32 × Int64) (hz7 : zl n7 q_X7_letters_L7 v7 = some b7) (H : Heap) (locs : List Loc) (hP : va_P D vwCl (([] : va_W)) H) (hD : va_D A (([] : va_W))) (hS : va_S A s.heap H locs) (ls : Array Slot) (hl : lv_has ls 4 [(1, .int v7.1), (2, .long v7.2)]), W p l e (zRm 1 20) s m args below meth c H locs 0 0 Q (F0 m 7 ls []) := by
    intro n7
    induction n7 with
    | zero => intro v7 hz7; exact (zl_0 hz7).elim
    | succ n7 ih7 =>
      intro v7 hz7 H locs hP hD hS ls hl
      obtain ⟨o7, hf, hz7⟩ := zl_s hz7
      unfold q_X7_letters_L7 at hf
      refine lv_lload_n hx hb dX7_letters_7 rfl (lv_at hl 1 rfl) ?_
      refine lv_lconst (v := 0) hx hb dX7_letters_8 (by decide) ?_
      refine W.lcmp hx hb dX7_letters_9 ?_
      refine lv_if_le (tgt := 24) hx hb dX7_letters_10 (by decide) (fun c10 => ?_) (fun c10 => ?_)
      · replace hf := zi_p hf c10
        have hb7 := zk_r hf hz7
        subst hb7
        replace hf := hk7
        refine lv_iload_n hx hb dX7_letters_24 rfl (lv_at hl 0 rfl) ?_
        obtain rfl := zo hf
        exact hret _ _ _ _ _ hP hD hS rfl dX7_letters_25
      · replace hf := zi_n hf c10
        refine lv_iinc (v := (v7.1 + 1)) (lv' := [(1, .int (v7.1 + 1)), (2, .long v7.2)]) hx hb dX7_letters_13 hl (k := 0) rfl rfl (by decide) rfl (fun ls hl => ?_)
        refine lv_lload_n hx hb dX7_letters_16 rfl (lv_at hl 1 rfl) ?_
        refine lv_bipush (v := 8) hx hb dX7_letters_17 (by decide) ?_
        refine lv_lshr (v := (v7.2 >>> (Int32.toInt64 8 &&& 63))) hx hb dX7_letters_19 rfl ?_
        refine lv_lstore_n (lv' := [(2, .long (v7.2 >>> (Int32.toInt64 8 &&& 63))), (1, .int (v7.1 + 1))]) hx hb dX7_letters_20 rfl hl (by decide) rfl (fun ls hl => ?_)
        refine lv_goto (tgt := 7) hx hb dX7_letters_21 (by decide) ?_
        exact ih7 _ (zk_l hf hz7) _ _ hP hD hS _ (lv_sub hl [1, 0] rfl)
  exact L7 _ _ hz7 _ _ hP hD hS _ (lv_sub hl [1, 0] rfl)
theorem kX7_54 : zLkV RX7 54 yX7_entryPart cX7_entryPart 3 (some .int) 2 := ⟨⟨wd_805, wd_806, wd_807, wd_5, wd_808⟩, by decide +kernel⟩
theorem kX7_58 : zLkS RX7 58 yX7_digits cX7_digits 3 (some .int) 1 := ⟨⟨wd_809, wd_810, wd_5, wd_811⟩, by decide +kernel⟩
theorem kX7_62 : zLkS RX7 62 yX7_letters cX7_letters 4 (some .int) 1 := ⟨⟨wd_812, wd_813, wd_5, wd_814⟩, by decide +kernel⟩
noncomputable def q_X7_lineLength (u : tX7) (p1 : Int32) : Option (Int32) :=
  zb (q_X7_entryPart u p1 0) fun r3 => zb (q_X7_digits r3) fun r6 => zb (q_X7_entryPart u p1 1) fun r12 => zb (q_X7_letters r12) fun r15 => some (((r6 + r15) + 3))
set_option maxRecDepth 100000 in
set_option maxHeartbeats 4000000 in
theorem c_X7_lineLength (l : Launch) (D : va_G) (G : zG) (ad : Nat → Nat) (b : Nat) (u : tX7) (p1 : Int32) (res : Int32) (hf : q_X7_lineLength u p1 = some res) : zMi l yX7_lineLength cX7_lineLength 2 (some .int) 2 43 D G (wX7 G ad b u) (wX7 G ad b u) [.ref (ad b), .int p1] res := by
  refine zs_i (plainFor_of_name (by decide)) (Nat.le_of_ble_eq_true rfl) ?_
  intro p e s m args below meth c A Q H ls C0 hret hP hD hS hl
  obtain ⟨hx, hb, hml, hown, hW, hK, hlocks, hF, hr, hA⟩ := id C0
  replace hl : lv_has ls 2 [(0, .ref (ad b)), (1, .int p1)] := hl
  unfold q_X7_lineLength at hf
  refine lv_aload_n hx hb dX7_lineLength_0 rfl (lv_at hl 0 rfl) ?_
  refine lv_iload_n hx hb dX7_lineLength_1 rfl (lv_at hl 1 rfl) ?_
  refine lv_iconst (v := 0) hx hb dX7_lineLength_2 (by decide) ?_
  replace hf := zb_s hf
  obtain ⟨r3, hr3, hf⟩ := hf
  refine z_Vi (rest := []) C0 kX7_54 (c_X7_entryPart l D G ad (b) u p1 0 r3 hr3) z_pall z_pall.symm (ci := 8) (T := TX7) (N := 11) rfl rfl rfl ⟨Nat.le_of_ble_eq_true rfl, Nat.le_of_ble_eq_true rfl⟩ (Nat.le_of_ble_eq_true rfl) rfl hl.1 hP hD hS dX7_lineLength_3 (fun H locs hP hD hS => ?_)
  replace hf := zb_s hf
  obtain ⟨r6, hr6, hf⟩ := hf
  refine z_Si (rest := []) C0 kX7_58 (c_X7_digits l D G r3 r6 hr6) (List.Perm.refl _) (List.Perm.refl _) rfl ⟨Nat.le_of_ble_eq_true rfl, Nat.le_of_ble_eq_true rfl⟩ (Nat.le_of_ble_eq_true rfl) rfl hl.1 hP hD hS dX7_lineLength_6 (fun H locs hP hD hS => ?_)
  refine lv_aload_n hx hb dX7_lineLength_9 rfl (lv_at hl 0 rfl) ?_
  refine lv_iload_n hx hb dX7_lineLength_10 rfl (lv_at hl 1 rfl) ?_
  refine lv_iconst (v := 1) hx hb dX7_lineLength_11 (by decide) ?_
  replace hf := zb_s hf
  obtain ⟨r12, hr12, hf⟩ := hf
  refine z_Vi (rest := [.int r6]) C0 kX7_54 (c_X7_entryPart l D G ad (b) u p1 1 r12 hr12) z_pall z_pall.symm (ci := 8) (T := TX7) (N := 11) rfl rfl rfl ⟨Nat.le_of_ble_eq_true rfl, Nat.le_of_ble_eq_true rfl⟩ (Nat.le_of_ble_eq_true rfl) rfl hl.1 hP hD hS dX7_lineLength_12 (fun H locs hP hD hS => ?_)
  replace hf := zb_s hf
  obtain ⟨r15, hr15, hf⟩ := hf
  refine z_Si (rest := [.int r6]) C0 kX7_62 (c_X7_letters l D G r12 r15 hr15) (List.Perm.refl _) (List.Perm.refl _) rfl ⟨Nat.le_of_ble_eq_true rfl, Nat.le_of_ble_eq_true rfl⟩ (Nat.le_of_ble_eq_true rfl) rfl hl.1 hP hD hS dX7_lineLength_15 (fun H locs hP hD hS => ?_)
  refine lv_iadd hx hb dX7_lineLength_18 ?_
  refine lv_iconst (v := 3) hx hb dX7_lineLength_19 (by decide) ?_
  refine lv_iadd hx hb dX7_lineLength_20 ?_
  obtain rfl := zo hf
  exact hret _ _ _ _ _ hP hD hS rfl dX7_lineLength_21
noncomputable def q_X7_lineCharacter_L25 (p2 : Int32) (v25 : Int32 × Int32) : Option ((Int32 × Int32) ⊕ (Int32)) :=
  (if v25.2 ≤ p2 then some (Sum.inr (v25.1)) else some (Sum.inl ((v25.1 / 10), (v25.2 + (-1)))))
noncomputable def q_X7_lineCharacter (u : tX7) (p1 : Int32) (p2 : Int32) : Option (Int32) :=
  zb (q_X7_entryPart u p1 0) fun r3 => zb (q_X7_digits r3) fun r8 => (if r8 ≤ p2 then zb (q_X7_entryPart u p1 1) fun r61 => zb (q_X7_letters r61) fun r64 => (if ((p2 - r8) - 1) = (-1) then some (32) else (if ((p2 - r8) - 1) = r64 then some (32) else (if r64 ≤ ((p2 - r8) - 1) then zb (q_X7_entryPart u p1 2) fun r120 => some ((48 + r120)) else zb (q_X7_entryPart u p1 1) fun r95 => zb (q_X7_word r95) fun r98 => some ((Int64.toInt32 ((r98 >>> (Int32.toInt64 (8 * ((p2 - r8) - 1)) &&& 63)) &&& 255)))))) else zb (zl 1000000 (q_X7_lineCharacter_L25 p2) (r3, (r8 - 1))) (fun b25 => some ((48 + (b25 - b25 / 10 * 10)))))
set_option maxRecDepth 100000 in
set_option maxHeartbeats 4000000 in
theorem c_X7_lineCharacter (l : Launch) (D : va_G) (G : zG) (ad : Nat → Nat) (b : Nat) (u : tX7) (p1 : Int32) (p2 : Int32) (res : Int32) (hf : q_X7_lineCharacter u p1 p2 = some res) : zMi l yX7_lineCharacter cX7_lineCharacter 7 (some .int) 2 43 D G (wX7 G ad b u) (wX7 G ad b u) [.ref (ad b), .int p1, .int p2] res := by
  refine zs_i (plainFor_of_name (by decide)) (Nat.le_of_ble_eq_true rfl) ?_
  intro p e s m args below meth c A Q H ls C0 hret hP hD hS hl
  obtain ⟨hx, hb, hml, hown, hW, hK, hlocks, hF, hr, hA⟩ := id C0
  replace hl : lv_has ls 7 [(0, .ref (ad b)), (1, .int p1), (2, .int p2)] := hl
  unfold q_X7_lineCharacter at hf
  refine lv_aload_n hx hb dX7_lineCharacter_0 rfl (lv_at hl 0 rfl) ?_
  refine lv_iload_n hx hb dX7_lineCharacter_1 rfl (lv_at hl 1 rfl) ?_
  refine lv_iconst (v := 0) hx hb dX7_lineCharacter_2 (by decide) ?_
  replace hf := zb_s hf
  obtain ⟨r3, hr3, hf⟩ := hf
  refine z_Vi (rest := []) C0 kX7_54 (c_X7_entryPart l D G ad (b) u p1 0 r3 hr3) z_pall z_pall.symm (ci := 8) (T := TX7) (N := 11) rfl rfl rfl ⟨Nat.le_of_ble_eq_true rfl, Nat.le_of_ble_eq_true rfl⟩ (Nat.le_of_ble_eq_true rfl) rfl hl.1 hP hD hS dX7_lineCharacter_3 (fun H locs hP hD hS => ?_)
  refine lv_istore_n (lv' := [(3, .int r3), (0, .ref (ad b)), (1, .int p1), (2, .int p2)]) hx hb dX7_lineCharacter_6 rfl hl (by decide) rfl (fun ls hl => ?_)
  refine lv_iload_n hx hb dX7_lineCharacter_7 rfl (lv_at hl 0 rfl) ?_
  replace hf := zb_s hf
  obtain ⟨r8, hr8, hf⟩ := hf
  refine z_Si (rest := []) C0 kX7_58 (c_X7_digits l D G r3 r8 hr8) (List.Perm.refl _) (List.Perm.refl _) rfl ⟨Nat.le_of_ble_eq_true rfl, Nat.le_of_ble_eq_true rfl⟩ (Nat.le_of_ble_eq_true rfl) rfl hl.1 hP hD hS dX7_lineCharacter_8 (fun H locs hP hD hS => ?_)
  refine lv_istore (lv' := [(4, .int r8), (3, .int r3), (0, .ref (ad b)), (1, .int p1), (2, .int p2)]) hx hb dX7_lineCharacter_11 hl (by decide) rfl (fun ls hl => ?_)
  refine lv_iload_n hx hb dX7_lineCharacter_13 rfl (lv_at hl 4 rfl) ?_
  refine lv_iload hx hb dX7_lineCharacter_14 (lv_at hl 0 rfl) ?_
  refine lv_icmp_ge (tgt := 50) hx hb dX7_lineCharacter_16 (by decide) (fun c16 => ?_) (fun c16 => ?_)
  · replace hf := zi_p hf c16
    refine lv_iload_n hx hb dX7_lineCharacter_50 rfl (lv_at hl 4 rfl) ?_
    refine lv_iload hx hb dX7_lineCharacter_51 (lv_at hl 0 rfl) ?_
    refine lv_isub hx hb dX7_lineCharacter_53 ?_
    refine lv_iconst (v := 1) hx hb dX7_lineCharacter_54 (by decide) ?_
    refine lv_isub hx hb dX7_lineCharacter_55 ?_
    refine lv_istore (lv' := [(5, .int ((p2 - r8) - 1)), (4, .int r8), (3, .int r3), (0, .ref (ad b)), (1, .int p1), (2, .int p2)]) hx hb dX7_lineCharacter_56 hl (by decide) rfl (fun ls hl => ?_)
    refine lv_aload_n hx hb dX7_lineCharacter_58 rfl (lv_at hl 3 rfl) ?_
    refine lv_iload_n hx hb dX7_lineCharacter_59 rfl (lv_at hl 4 rfl) ?_
    refine lv_iconst (v := 1) hx hb dX7_lineCharacter_60 (by decide) ?_
    replace hf := zb_s hf
    obtain ⟨r61, hr61, hf⟩ := hf
    refine z_Vi (rest := []) C0 kX7_54 (c_X7_entryPart l D G ad (b) u p1 1 r61 hr61) z_pall z_pall.symm (ci := 8) (T := TX7) (N := 11) rfl rfl rfl ⟨Nat.le_of_ble_eq_true rfl, Nat.le_of_ble_eq_true rfl⟩ (Nat.le_of_ble_eq_true rfl) rfl hl.1 hP hD hS dX7_lineCharacter_61 (fun H locs hP hD hS => ?_)
    replace hf := zb_s hf
    obtain ⟨r64, hr64, hf⟩ := hf
    refine z_Si (rest := []) C0 kX7_62 (c_X7_letters l D G r61 r64 hr64) (List.Perm.refl _) (List.Perm.refl _) rfl ⟨Nat.le_of_ble_eq_true rfl, Nat.le_of_ble_eq_true rfl⟩ (Nat.le_of_ble_eq_true rfl) rfl hl.1 hP hD hS dX7_lineCharacter_64 (fun H locs hP hD hS => ?_)
    refine lv_istore (lv' := [(6, .int r64), (5, .int ((p2 - r8) - 1)), (4, .int r8), (3, .int r3), (0, .ref (ad b)), (1, .int p1), (2, .int p2)]) hx hb dX7_lineCharacter_67 hl (by decide) rfl (fun ls hl => ?_)
    refine lv_iload hx hb dX7_lineCharacter_69 (lv_at hl 1 rfl) ?_
    refine lv_iconst (v := (-1)) hx hb dX7_lineCharacter_71 (by decide) ?_
    refine lv_icmp_eq (tgt := 82) hx hb dX7_lineCharacter_72 (by decide) (fun c72 => ?_) (fun c72 => ?_)
    · replace hf := zi_p hf c72
      refine lv_bipush (v := 32) hx hb dX7_lineCharacter_82 (by decide) ?_
      obtain rfl := zo hf
      exact hret _ _ _ _ _ hP hD hS rfl dX7_lineCharacter_84
    · replace hf := zi_n hf c72
      refine lv_iload hx hb dX7_lineCharacter_75 (lv_at hl 1 rfl) ?_
      refine lv_iload hx hb dX7_lineCharacter_77 (lv_at hl 0 rfl) ?_
      refine lv_icmp_ne (tgt := 85) hx hb dX7_lineCharacter_79 (by decide) (fun c79 => ?_) (fun c79 => ?_)
      · replace hf := zi_n hf c79
        refine lv_iload hx hb dX7_lineCharacter_85 (lv_at hl 1 rfl) ?_
        refine lv_iload hx hb dX7_lineCharacter_87 (lv_at hl 0 rfl) ?_
        refine lv_icmp_ge (tgt := 115) hx hb dX7_lineCharacter_89 (by decide) (fun c89 => ?_) (fun c89 => ?_)
        · replace hf := zi_p hf c89
          refine lv_bipush (v := 48) hx hb dX7_lineCharacter_115 (by decide) ?_
          refine lv_aload_n hx hb dX7_lineCharacter_117 rfl (lv_at hl 4 rfl) ?_
          refine lv_iload_n hx hb dX7_lineCharacter_118 rfl (lv_at hl 5 rfl) ?_
          refine lv_iconst (v := 2) hx hb dX7_lineCharacter_119 (by decide) ?_
          replace hf := zb_s hf
          obtain ⟨r120, hr120, hf⟩ := hf
          refine z_Vi (rest := [.int 48]) C0 kX7_54 (c_X7_entryPart l D G ad (b) u p1 2 r120 hr120) z_pall z_pall.symm (ci := 8) (T := TX7) (N := 11) rfl rfl rfl ⟨Nat.le_of_ble_eq_true rfl, Nat.le_of_ble_eq_true rfl⟩ (Nat.le_of_ble_eq_true rfl) rfl hl.1 hP hD hS dX7_lineCharacter_120 (fun H locs hP hD hS => ?_)
          refine lv_iadd hx hb dX7_lineCharacter_123 ?_
          obtain rfl := zo hf
          exact hret _ _ _ _ _ hP hD hS rfl dX7_lineCharacter_124
        · replace hf := zi_n hf c89
          refine lv_aload_n hx hb dX7_lineCharacter_92 rfl (lv_at hl 4 rfl) ?_
          refine lv_iload_n hx hb dX7_lineCharacter_93 rfl (lv_at hl 5 rfl) ?_
          refine lv_iconst (v := 1) hx hb dX7_lineCharacter_94 (by decide) ?_
          replace hf := zb_s hf
          obtain ⟨r95, hr95, hf⟩ := hf
          refine z_Vi (rest := []) C0 kX7_54 (c_X7_entryPart l D G ad (b) u p1 1 r95 hr95) z_pall z_pall.symm (ci := 8) (T := TX7) (N := 11) rfl rfl rfl ⟨Nat.le_of_ble_eq_true rfl, Nat.le_of_ble_eq_true rfl⟩ (Nat.le_of_ble_eq_true rfl) rfl hl.1 hP hD hS dX7_lineCharacter_95 (fun H locs hP hD hS => ?_)
          replace hf := zb_s hf
          obtain ⟨r98, hr98, hf⟩ := hf
          refine z_Sl (rest := []) C0 kX7_50 (c_X7_word l D G r95 r98 hr98) (List.Perm.refl _) (List.Perm.refl _) rfl ⟨Nat.le_of_ble_eq_true rfl, Nat.le_of_ble_eq_true rfl⟩ (Nat.le_of_ble_eq_true rfl) rfl hl.1 hP hD hS dX7_lineCharacter_98 (fun H locs hP hD hS => ?_)
          refine lv_bipush (v := 8) hx hb dX7_lineCharacter_101 (by decide) ?_
          refine lv_iload hx hb dX7_lineCharacter_103 (lv_at hl 1 rfl) ?_
          refine lv_imul hx hb dX7_lineCharacter_105 ?_
          refine lv_lshr (v := (r98 >>> (Int32.toInt64 (8 * ((p2 - r8) - 1)) &&& 63))) hx hb dX7_lineCharacter_106 rfl ?_
          refine lv_ldc2 hx hb hown (hW _ wd_849) dX7_lineCharacter_107 ?_
          refine lv_land hx hb dX7_lineCharacter_110 ?_
          refine lv_l2i (v := (Int64.toInt32 ((r98 >>> (Int32.toInt64 (8 * ((p2 - r8) - 1)) &&& 63)) &&& 255))) hx hb dX7_lineCharacter_111 rfl ?_
          refine lv_goto (tgt := 124) hx hb dX7_lineCharacter_112 (by decide) ?_
          obtain rfl := zo hf
          exact hret _ _ _ _ _ hP hD hS rfl dX7_lineCharacter_124
      · replace hf := zi_p hf c79
        refine lv_bipush (v := 32) hx hb dX7_lineCharacter_82 (by decide) ?_
        obtain rfl := zo hf
        exact hret _ _ _ _ _ hP hD hS rfl dX7_lineCharacter_84
  · replace hf := zi_n hf c16
    refine lv_iload hx hb dX7_lineCharacter_19 (lv_at hl 0 rfl) ?_
    refine lv_iconst (v := 1) hx hb dX7_lineCharacter_21 (by decide) ?_
    refine lv_isub hx hb dX7_lineCharacter_22 ?_
    refine lv_istore (lv' := [(5, .int (r8 - 1)), (4, .int r8), (3, .int r3), (0, .ref (ad b)), (1, .int p1), (2, .int p2)]) hx hb dX7_lineCharacter_23 hl (by decide) rfl (fun ls hl => ?_)
    replace hf := zb_s hf
    obtain ⟨b25, hz25, hk25⟩ := hf
    have L25 : ∀ (n25 : Nat) (v25 : Int32 × Int32) (hz25 : zl n25 (q_X7_lineCharacter_L25 p2) v25 = some b25) (H : Heap) (locs : List Loc) (hP : va_P D vwCl (wX7 G ad b u) H) (hD : va_D A (wX7 G ad b u)) (hS : va_S A s.heap H locs) (ls : Array Slot) (hl : lv_has ls 7 [(2, .int p2), (3, .int v25.1), (5, .int v25.2)]), W p l e (zRm 2 43) s m args below meth c H locs 0 0 Q (F0 m 25 ls []) := by
      intro n25
      induction n25 with
      | zero => intro v25 hz25; exact (zl_0 hz25).elim
      | succ n25 ih25 =>
        intro v25 hz25 H locs hP hD hS ls hl
        obtain ⟨o25, hf, hz25⟩ := zl_s hz25
        unfold q_X7_lineCharacter_L25 at hf
        refine lv_iload hx hb dX7_lineCharacter_25 (lv_at hl 2 rfl) ?_
        refine lv_iload_n hx hb dX7_lineCharacter_27 rfl (lv_at hl 0 rfl) ?_
        refine lv_icmp_le (tgt := 42) hx hb dX7_lineCharacter_28 (by decide) (fun c28 => ?_) (fun c28 => ?_)
        · replace hf := zi_p hf c28
          have hb25 := zk_r hf hz25
          subst hb25
          replace hf := hk25
          refine lv_bipush (v := 48) hx hb dX7_lineCharacter_42 (by decide) ?_
          refine lv_iload_n hx hb dX7_lineCharacter_44 rfl (lv_at hl 1 rfl) ?_
          refine lv_bipush (v := 10) hx hb dX7_lineCharacter_45 (by decide) ?_
          refine lv_irem hx hb dX7_lineCharacter_47 (by decide) ?_
          refine lv_iadd hx hb dX7_lineCharacter_48 ?_
          obtain rfl := zo hf
          exact hret _ _ _ _ _ hP hD hS rfl dX7_lineCharacter_49
        · replace hf := zi_n hf c28
          refine lv_iload_n hx hb dX7_lineCharacter_31 rfl (lv_at hl 1 rfl) ?_
          refine lv_bipush (v := 10) hx hb dX7_lineCharacter_32 (by decide) ?_
          refine lv_idiv hx hb dX7_lineCharacter_34 (by decide) ?_
          refine lv_istore_n (lv' := [(3, .int (v25.1 / 10)), (2, .int p2), (5, .int v25.2)]) hx hb dX7_lineCharacter_35 rfl hl (by decide) rfl (fun ls hl => ?_)
          refine lv_iinc (v := (v25.2 + (-1))) (lv' := [(5, .int (v25.2 + (-1))), (3, .int (v25.1 / 10)), (2, .int p2)]) hx hb dX7_lineCharacter_36 hl (k := 2) rfl rfl (by decide) rfl (fun ls hl => ?_)
          refine lv_goto (tgt := 25) hx hb dX7_lineCharacter_39 (by decide) ?_
          exact ih25 _ (zk_l hf hz25) _ _ hP hD hS _ (lv_sub hl [2, 1, 0] rfl)
    exact L25 _ _ hz25 _ _ hP hD hS _ (lv_sub hl [5, 2, 0] rfl)
noncomputable def q_X7_spotSpan (u : tX7) (p1 : Int32) : Option (Int32) :=
  zg 104 u.1 (34 + (2 * p1)) fun a10 => some (a10)
set_option maxRecDepth 100000 in
set_option maxHeartbeats 4000000 in
theorem c_X7_spotSpan (l : Launch) (D : va_G) (G : zG) (ad : Nat → Nat) (b : Nat) (u : tX7) (p1 : Int32) (res : Int32) (hf : q_X7_spotSpan u p1 = some res) : zMi l yX7_spotSpan cX7_spotSpan 2 (some .int) 0 0 D G (wX7 G ad b u) (wX7 G ad b u) [.ref (ad b), .int p1] res := by
  refine zs_i (plainFor_of_name (by decide)) (Nat.le_of_ble_eq_true rfl) ?_
  intro p e s m args below meth c A Q H ls C0 hret hP hD hS hl
  obtain ⟨hx, hb, hml, hown, hW, hK, hlocks, hF, hr, hA⟩ := id C0
  replace hl : lv_has ls 2 [(0, .ref (ad b)), (1, .int p1)] := hl
  unfold q_X7_spotSpan at hf
  refine lv_aload_n hx hb dX7_spotSpan_0 rfl (lv_at hl 0 rfl) ?_
  refine va_get (D := D) (ci := 8) (v := .ref (ad (b + 1))) (C := RX7) (T := TX7) (N := 11) hx hb hW inlX7 hown hK hP 0 rfl rfl 0 (by decide) (hW _ wd_127) (fun _ h9 => h9) rfl dX7_spotSpan_1 ?_
  refine lv_bipush (v := 34) hx hb dX7_spotSpan_4 (by decide) ?_
  refine lv_iconst (v := 2) hx hb dX7_spotSpan_6 (by decide) ?_
  refine lv_iload_n hx hb dX7_spotSpan_7 rfl (lv_at hl 1 rfl) ?_
  refine lv_imul hx hb dX7_spotSpan_8 ?_
  refine lv_iadd hx hb dX7_spotSpan_9 ?_
  replace hf := zg_s hf
  obtain ⟨hi10, a10, ea10, hf⟩ := hf
  refine z_iald hx hb hK hP 1 0 rfl rfl hi10 ea10 dX7_spotSpan_10 ?_
  obtain rfl := zo hf
  exact hret _ _ _ _ _ hP hD hS rfl dX7_spotSpan_11
noncomputable def q_X7_spotTries (u : tX7) (p1 : Int32) : Option (Int32) :=
  zg 104 u.1 ((34 + (2 * p1)) + 1) fun a12 => some (a12)
set_option maxRecDepth 100000 in
set_option maxHeartbeats 4000000 in
theorem c_X7_spotTries (l : Launch) (D : va_G) (G : zG) (ad : Nat → Nat) (b : Nat) (u : tX7) (p1 : Int32) (res : Int32) (hf : q_X7_spotTries u p1 = some res) : zMi l yX7_spotTries cX7_spotTries 2 (some .int) 0 0 D G (wX7 G ad b u) (wX7 G ad b u) [.ref (ad b), .int p1] res := by
  refine zs_i (plainFor_of_name (by decide)) (Nat.le_of_ble_eq_true rfl) ?_
  intro p e s m args below meth c A Q H ls C0 hret hP hD hS hl
  obtain ⟨hx, hb, hml, hown, hW, hK, hlocks, hF, hr, hA⟩ := id C0
  replace hl : lv_has ls 2 [(0, .ref (ad b)), (1, .int p1)] := hl
  unfold q_X7_spotTries at hf
  refine lv_aload_n hx hb dX7_spotTries_0 rfl (lv_at hl 0 rfl) ?_
  refine va_get (D := D) (ci := 8) (v := .ref (ad (b + 1))) (C := RX7) (T := TX7) (N := 11) hx hb hW inlX7 hown hK hP 0 rfl rfl 0 (by decide) (hW _ wd_127) (fun _ h9 => h9) rfl dX7_spotTries_1 ?_
  refine lv_bipush (v := 34) hx hb dX7_spotTries_4 (by decide) ?_
  refine lv_iconst (v := 2) hx hb dX7_spotTries_6 (by decide) ?_
  refine lv_iload_n hx hb dX7_spotTries_7 rfl (lv_at hl 1 rfl) ?_
  refine lv_imul hx hb dX7_spotTries_8 ?_
  refine lv_iadd hx hb dX7_spotTries_9 ?_
  refine lv_iconst (v := 1) hx hb dX7_spotTries_10 (by decide) ?_
  refine lv_iadd hx hb dX7_spotTries_11 ?_
  replace hf := zg_s hf
  obtain ⟨hi12, a12, ea12, hf⟩ := hf
  refine z_iald hx hb hK hP 1 0 rfl rfl hi12 ea12 dX7_spotTries_12 ?_
  obtain rfl := zo hf
  exact hret _ _ _ _ _ hP hD hS rfl dX7_spotTries_13
noncomputable def q_X7_age (u : tX7) (p1 : Int32) : Option (Int32) :=
  zg 104 u.1 (20 + p1) fun a14 => some (((u.1 0) - a14))
set_option maxRecDepth 100000 in
set_option maxHeartbeats 4000000 in
theorem c_X7_age (l : Launch) (D : va_G) (G : zG) (ad : Nat → Nat) (b : Nat) (u : tX7) (p1 : Int32) (res : Int32) (hf : q_X7_age u p1 = some res) : zMi l yX7_age cX7_age 2 (some .int) 0 0 D G (wX7 G ad b u) (wX7 G ad b u) [.ref (ad b), .int p1] res := by
  refine zs_i (plainFor_of_name (by decide)) (Nat.le_of_ble_eq_true rfl) ?_
  intro p e s m args below meth c A Q H ls C0 hret hP hD hS hl
  obtain ⟨hx, hb, hml, hown, hW, hK, hlocks, hF, hr, hA⟩ := id C0
  replace hl : lv_has ls 2 [(0, .ref (ad b)), (1, .int p1)] := hl
  unfold q_X7_age at hf
  refine lv_aload_n hx hb dX7_age_0 rfl (lv_at hl 0 rfl) ?_
  refine va_get (D := D) (ci := 8) (v := .ref (ad (b + 1))) (C := RX7) (T := TX7) (N := 11) hx hb hW inlX7 hown hK hP 0 rfl rfl 0 (by decide) (hW _ wd_127) (fun _ h9 => h9) rfl dX7_age_1 ?_
  refine lv_iconst (v := 0) hx hb dX7_age_4 (by decide) ?_
  refine z_iald (v := (u.1 0)) hx hb hK hP 1 0 rfl rfl (z_in rfl) rfl dX7_age_5 ?_
  refine lv_aload_n hx hb dX7_age_6 rfl (lv_at hl 0 rfl) ?_
  refine va_get (D := D) (ci := 8) (v := .ref (ad (b + 1))) (C := RX7) (T := TX7) (N := 11) hx hb hW inlX7 hown hK hP 0 rfl rfl 0 (by decide) (hW _ wd_127) (fun _ h9 => h9) rfl dX7_age_7 ?_
  refine lv_bipush (v := 20) hx hb dX7_age_10 (by decide) ?_
  refine lv_iload_n hx hb dX7_age_12 rfl (lv_at hl 1 rfl) ?_
  refine lv_iadd hx hb dX7_age_13 ?_
  replace hf := zg_s hf
  obtain ⟨hi14, a14, ea14, hf⟩ := hf
  refine z_iald hx hb hK hP 1 0 rfl rfl hi14 ea14 dX7_age_14 ?_
  refine lv_isub hx hb dX7_age_15 ?_
  obtain rfl := zo hf
  exact hret _ _ _ _ _ hP hD hS rfl dX7_age_16
theorem kX7_67 : zLkV RX7 67 yX7_age cX7_age 2 (some .int) 1 := ⟨⟨wd_453, wd_454, wd_455, wd_5, wd_456⟩, by decide +kernel⟩
noncomputable def q_X7_isDue (u : tX7) (p1 : Int32) : Option (Int32) :=
  zb (q_X7_age u p1) fun r2 => (if r2 < ((u.1 19) / 2) then some (0) else some (1))
set_option maxRecDepth 100000 in
set_option maxHeartbeats 4000000 in
theorem c_X7_isDue (l : Launch) (D : va_G) (G : zG) (ad : Nat → Nat) (b : Nat) (u : tX7) (p1 : Int32) (res : Int32) (hf : q_X7_isDue u p1 = some res) : zMi l yX7_isDue cX7_isDue 2 (some .boolean) 1 21 D G (wX7 G ad b u) (wX7 G ad b u) [.ref (ad b), .int p1] res := by
  refine zs_z (plainFor_of_name (by decide)) (Nat.le_of_ble_eq_true rfl) ?_
  intro p e s m args below meth c A Q H ls C0 hret hP hD hS hl
  obtain ⟨hx, hb, hml, hown, hW, hK, hlocks, hF, hr, hA⟩ := id C0
  replace hl : lv_has ls 2 [(0, .ref (ad b)), (1, .int p1)] := hl
  unfold q_X7_isDue at hf
  refine lv_aload_n hx hb dX7_isDue_0 rfl (lv_at hl 0 rfl) ?_
  refine lv_iload_n hx hb dX7_isDue_1 rfl (lv_at hl 1 rfl) ?_
  replace hf := zb_s hf
  obtain ⟨r2, hr2, hf⟩ := hf
  refine z_Vi (rest := []) C0 kX7_67 (c_X7_age l D G ad (b) u p1 r2 hr2) z_pall z_pall.symm (ci := 8) (T := TX7) (N := 11) rfl rfl rfl ⟨Nat.le_of_ble_eq_true rfl, Nat.le_of_ble_eq_true rfl⟩ (Nat.le_of_ble_eq_true rfl) rfl hl.1 hP hD hS dX7_isDue_2 (fun H locs hP hD hS => ?_)
  refine lv_aload_n hx hb dX7_isDue_5 rfl (lv_at hl 0 rfl) ?_
  refine va_get (D := D) (ci := 8) (v := .ref (ad (b + 1))) (C := RX7) (T := TX7) (N := 11) hx hb hW inlX7 hown hK hP 0 rfl rfl 0 (by decide) (hW _ wd_127) (fun _ h9 => h9) rfl dX7_isDue_6 ?_
  refine lv_bipush (v := 19) hx hb dX7_isDue_9 (by decide) ?_
  refine z_iald (v := (u.1 19)) hx hb hK hP 1 0 rfl rfl (z_in rfl) rfl dX7_isDue_11 ?_
  refine lv_iconst (v := 2) hx hb dX7_isDue_12 (by decide) ?_
  refine lv_idiv hx hb dX7_isDue_13 (by decide) ?_
  refine lv_icmp_lt (tgt := 21) hx hb dX7_isDue_14 (by decide) (fun c14 => ?_) (fun c14 => ?_)
  · replace hf := zi_p hf c14
    refine lv_iconst (v := 0) hx hb dX7_isDue_21 (by decide) ?_
    obtain rfl := zo hf
    exact hret _ _ _ _ _ hP hD hS rfl rfl dX7_isDue_22
  · replace hf := zi_n hf c14
    refine lv_iconst (v := 1) hx hb dX7_isDue_17 (by decide) ?_
    refine lv_goto (tgt := 22) hx hb dX7_isDue_18 (by decide) ?_
    obtain rfl := zo hf
    exact hret _ _ _ _ _ hP hD hS rfl rfl dX7_isDue_22
theorem kX7_70 : zLkV RX7 70 yX7_spotTries cX7_spotTries 2 (some .int) 1 := ⟨⟨wd_366, wd_367, wd_368, wd_5, wd_369⟩, by decide +kernel⟩
theorem kX7_73 : zLkV RX7 73 yX7_spotSpan cX7_spotSpan 2 (some .int) 1 := ⟨⟨wd_262, wd_263, wd_264, wd_5, wd_265⟩, by decide +kernel⟩
noncomputable def q_X7_sumOf_J36 (u : tX7) (p1 : Int32) (v5 : Int32 × Int32) (y36_0 : Int32) : Option ((Int32 × Int32) ⊕ (Int32)) :=
  zb (q_X7_spotSpan u v5.2) fun r42 => (if r42 = p1 then some (Sum.inl ((v5.1 + y36_0), (v5.2 + 1))) else some (Sum.inl ((v5.1 + 0), (v5.2 + 1))))
noncomputable def q_X7_sumOf_L5 (u : tX7) (p1 : Int32) (p2 : Int32) (v5 : Int32 × Int32) : Option ((Int32 × Int32) ⊕ (Int32)) :=
  (if (u.1 2) ≤ v5.2 then some (Sum.inr (v5.1)) else zb (q_X7_spotTries u v5.2) fun r19 => (if p2 ≤ r19 then q_X7_sumOf_J36 u p1 v5 p2 else zb (q_X7_spotTries u v5.2) fun r29 => q_X7_sumOf_J36 u p1 v5 r29))
noncomputable def q_X7_sumOf (u : tX7) (p1 : Int32) (p2 : Int32) : Option (Int32) :=
  zb (zl 1000000 (q_X7_sumOf_L5 u p1 p2) (0, 0)) (fun b5 => some (b5))
set_option maxRecDepth 100000 in
set_option maxHeartbeats 4000000 in
theorem c_X7_sumOf (l : Launch) (D : va_G) (G : zG) (ad : Nat → Nat) (b : Nat) (u : tX7) (p1 : Int32) (p2 : Int32) (res : Int32) (hf : q_X7_sumOf u p1 p2 = some res) : zMi l yX7_sumOf cX7_sumOf 6 (some .int) 1 21 D G (wX7 G ad b u) (wX7 G ad b u) [.ref (ad b), .int p1, .int p2] res := by
  refine zs_i (plainFor_of_name (by decide)) (Nat.le_of_ble_eq_true rfl) ?_
  intro p e s m args below meth c A Q H ls C0 hret hP hD hS hl
  obtain ⟨hx, hb, hml, hown, hW, hK, hlocks, hF, hr, hA⟩ := id C0
  replace hl : lv_has ls 6 [(0, .ref (ad b)), (1, .int p1), (2, .int p2)] := hl
  unfold q_X7_sumOf at hf
  refine lv_iconst (v := 0) hx hb dX7_sumOf_0 (by decide) ?_
  refine lv_istore_n (lv' := [(3, .int 0), (0, .ref (ad b)), (1, .int p1), (2, .int p2)]) hx hb dX7_sumOf_1 rfl hl (by decide) rfl (fun ls hl => ?_)
  refine lv_iconst (v := 0) hx hb dX7_sumOf_2 (by decide) ?_
  refine lv_istore (lv' := [(4, .int 0), (3, .int 0), (0, .ref (ad b)), (1, .int p1), (2, .int p2)]) hx hb dX7_sumOf_3 hl (by decide) rfl (fun ls hl => ?_)
  replace hf := zb_s hf
  obtain ⟨b5, hz5, hk5⟩ := hf
  have L5 : ∀ (n5 : Nat) (v5 : Int32 × Int32) (hz5 : zl n5 (q_X7_sumOf_L5 u p1 p2) v5 = some b5) (H : Heap) (locs : List Loc) (hP : va_P D vwCl (wX7 G ad b u) H) (hD : va_D A (wX7 G ad b u)) (hS : va_S A s.heap H locs) (ls : Array Slot) (hl : lv_has ls 6 [(0, .ref (ad b)), (1, .int p1), (2, .int p2), (3, .int v5.1), (4, .int v5.2)]), W p l e (zRm 1 21) s m args below meth c H locs 0 0 Q (F0 m 5 ls []) := by
    intro n5
    induction n5 with
    | zero => intro v5 hz5; exact (zl_0 hz5).elim
    | succ n5 ih5 =>
      intro v5 hz5 H locs hP hD hS ls hl
      obtain ⟨o5, hf, hz5⟩ := zl_s hz5
      unfold q_X7_sumOf_L5 at hf
      refine lv_iload hx hb dX7_sumOf_5 (lv_at hl 4 rfl) ?_
      refine lv_aload_n hx hb dX7_sumOf_7 rfl (lv_at hl 0 rfl) ?_
      refine va_get (D := D) (ci := 8) (v := .ref (ad (b + 1))) (C := RX7) (T := TX7) (N := 11) hx hb hW inlX7 hown hK hP 0 rfl rfl 0 (by decide) (hW _ wd_127) (fun _ h9 => h9) rfl dX7_sumOf_8 ?_
      refine lv_iconst (v := 2) hx hb dX7_sumOf_11 (by decide) ?_
      refine z_iald (v := (u.1 2)) hx hb hK hP 1 0 rfl rfl (z_in rfl) rfl dX7_sumOf_12 ?_
      refine lv_icmp_ge (tgt := 63) hx hb dX7_sumOf_13 (by decide) (fun c13 => ?_) (fun c13 => ?_)
      · replace hf := zi_p hf c13
        have hb5 := zk_r hf hz5
        subst hb5
        replace hf := hk5
        refine lv_iload_n hx hb dX7_sumOf_63 rfl (lv_at hl 3 rfl) ?_
        obtain rfl := zo hf
        exact hret _ _ _ _ _ hP hD hS rfl dX7_sumOf_64
      · replace hf := zi_n hf c13
        refine lv_aload_n hx hb dX7_sumOf_16 rfl (lv_at hl 0 rfl) ?_
        refine lv_iload hx hb dX7_sumOf_17 (lv_at hl 4 rfl) ?_
        replace hf := zb_s hf
        obtain ⟨r19, hr19, hf⟩ := hf
        refine z_Vi (rest := []) C0 kX7_70 (c_X7_spotTries l D G ad (b) u v5.2 r19 hr19) z_pall z_pall.symm (ci := 8) (T := TX7) (N := 11) rfl rfl rfl ⟨Nat.le_of_ble_eq_true rfl, Nat.le_of_ble_eq_true rfl⟩ (Nat.le_of_ble_eq_true rfl) rfl hl.1 hP hD hS dX7_sumOf_19 (fun H locs hP hD hS => ?_)
        refine lv_iload_n hx hb dX7_sumOf_22 rfl (lv_at hl 2 rfl) ?_
        have J36 : ∀ (y36_0 : Int32) (hf : q_X7_sumOf_J36 u p1 v5 y36_0 = some o5) (H : Heap) (locs : List Loc) (hP : va_P D vwCl (wX7 G ad b u) H) (hD : va_D A (wX7 G ad b u)) (hS : va_S A s.heap H locs) (ls : Array Slot) (hl : lv_has ls 6 [(0, .ref (ad b)), (1, .int p1), (2, .int p2), (3, .int v5.1), (4, .int v5.2)]), W p l e (zRm 1 21) s m args below meth c H locs 0 0 Q (F0 m 36 ls [.int y36_0]) := by
          intro y36_0 hf H locs hP hD hS ls hl
          unfold q_X7_sumOf_J36 at hf
          refine lv_istore (lv' := [(5, .int y36_0), (0, .ref (ad b)), (1, .int p1), (2, .int p2), (3, .int v5.1), (4, .int v5.2)]) hx hb dX7_sumOf_36 hl (by decide) rfl (fun ls hl => ?_)
          refine lv_iload_n hx hb dX7_sumOf_38 rfl (lv_at hl 4 rfl) ?_
          refine lv_aload_n hx hb dX7_sumOf_39 rfl (lv_at hl 1 rfl) ?_
          refine lv_iload hx hb dX7_sumOf_40 (lv_at hl 5 rfl) ?_
          replace hf := zb_s hf
          obtain ⟨r42, hr42, hf⟩ := hf
          refine z_Vi (rest := [.int v5.1]) C0 kX7_73 (c_X7_spotSpan l D G ad (b) u v5.2 r42 hr42) z_pall z_pall.symm (ci := 8) (T := TX7) (N := 11) rfl rfl rfl ⟨Nat.le_of_ble_eq_true rfl, Nat.le_of_ble_eq_true rfl⟩ (Nat.le_of_ble_eq_true rfl) rfl hl.1 hP hD hS dX7_sumOf_42 (fun H locs hP hD hS => ?_)
          refine lv_iload_n hx hb dX7_sumOf_45 rfl (lv_at hl 2 rfl) ?_
          refine lv_icmp_ne (tgt := 54) hx hb dX7_sumOf_46 (by decide) (fun c46 => ?_) (fun c46 => ?_)
          · replace hf := zi_n hf c46
            refine lv_iconst (v := 0) hx hb dX7_sumOf_54 (by decide) ?_
            refine lv_iadd hx hb dX7_sumOf_55 ?_
            refine lv_istore_n (lv' := [(3, .int (v5.1 + 0)), (5, .int y36_0), (0, .ref (ad b)), (1, .int p1), (2, .int p2), (4, .int v5.2)]) hx hb dX7_sumOf_56 rfl hl (by decide) rfl (fun ls hl => ?_)
            refine lv_iinc (v := (v5.2 + 1)) (lv' := [(4, .int (v5.2 + 1)), (3, .int (v5.1 + 0)), (5, .int y36_0), (0, .ref (ad b)), (1, .int p1), (2, .int p2)]) hx hb dX7_sumOf_57 hl (k := 5) rfl rfl (by decide) rfl (fun ls hl => ?_)
            refine lv_goto (tgt := 5) hx hb dX7_sumOf_60 (by decide) ?_
            exact ih5 _ (zk_l hf hz5) _ _ hP hD hS _ (lv_sub hl [3, 4, 5, 1, 0] rfl)
          · replace hf := zi_p hf c46
            refine lv_iload hx hb dX7_sumOf_49 (lv_at hl 0 rfl) ?_
            refine lv_goto (tgt := 55) hx hb dX7_sumOf_51 (by decide) ?_
            refine lv_iadd hx hb dX7_sumOf_55 ?_
            refine lv_istore_n (lv' := [(3, .int (v5.1 + y36_0)), (5, .int y36_0), (0, .ref (ad b)), (1, .int p1), (2, .int p2), (4, .int v5.2)]) hx hb dX7_sumOf_56 rfl hl (by decide) rfl (fun ls hl => ?_)
            refine lv_iinc (v := (v5.2 + 1)) (lv' := [(4, .int (v5.2 + 1)), (3, .int (v5.1 + y36_0)), (5, .int y36_0), (0, .ref (ad b)), (1, .int p1), (2, .int p2)]) hx hb dX7_sumOf_57 hl (k := 5) rfl rfl (by decide) rfl (fun ls hl => ?_)
            refine lv_goto (tgt := 5) hx hb dX7_sumOf_60 (by decide) ?_
            exact ih5 _ (zk_l hf hz5) _ _ hP hD hS _ (lv_sub hl [3, 4, 5, 1, 0] rfl)
        refine lv_icmp_ge (tgt := 35) hx hb dX7_sumOf_23 (by decide) (fun c23 => ?_) (fun c23 => ?_)
        · replace hf := zi_p hf c23
          refine lv_iload_n hx hb dX7_sumOf_35 rfl (lv_at hl 2 rfl) ?_
          exact J36 p2 hf _ _ hP hD hS _ (lv_sub hl [0, 1, 2, 3, 4] rfl)
        · replace hf := zi_n hf c23
          refine lv_aload_n hx hb dX7_sumOf_26 rfl (lv_at hl 0 rfl) ?_
          refine lv_iload hx hb dX7_sumOf_27 (lv_at hl 4 rfl) ?_
          replace hf := zb_s hf
          obtain ⟨r29, hr29, hf⟩ := hf
          refine z_Vi (rest := []) C0 kX7_70 (c_X7_spotTries l D G ad (b) u v5.2 r29 hr29) z_pall z_pall.symm (ci := 8) (T := TX7) (N := 11) rfl rfl rfl ⟨Nat.le_of_ble_eq_true rfl, Nat.le_of_ble_eq_true rfl⟩ (Nat.le_of_ble_eq_true rfl) rfl hl.1 hP hD hS dX7_sumOf_29 (fun H locs hP hD hS => ?_)
          refine lv_goto (tgt := 36) hx hb dX7_sumOf_32 (by decide) ?_
          exact J36 r29 hf _ _ hP hD hS _ (lv_sub hl [0, 1, 2, 3, 4] rfl)
  exact L5 _ _ hz5 _ _ hP hD hS _ (lv_sub hl [2, 3, 4, 1, 0] rfl)
theorem kX7_76 : zLkV RX7 76 yX7_sumOf cX7_sumOf 6 (some .int) 2 := ⟨⟨wd_457, wd_458, wd_459, wd_5, wd_460⟩, by decide +kernel⟩
noncomputable def q_X7_takes (u : tX7) (p1 : Int32) : Option (Int32) :=
  zb (q_X7_sumOf u p1 (u.1 18)) fun r23 => some (((u.1 16) + ((u.1 17) * r23)))
set_option maxRecDepth 100000 in
set_option maxHeartbeats 4000000 in
theorem c_X7_takes (l : Launch) (D : va_G) (G : zG) (ad : Nat → Nat) (b : Nat) (u : tX7) (p1 : Int32) (res : Int32) (hf : q_X7_takes u p1 = some res) : zMi l yX7_takes cX7_takes 2 (some .int) 2 46 D G (wX7 G ad b u) (wX7 G ad b u) [.ref (ad b), .int p1] res := by
  refine zs_i (plainFor_of_name (by decide)) (Nat.le_of_ble_eq_true rfl) ?_
  intro p e s m args below meth c A Q H ls C0 hret hP hD hS hl
  obtain ⟨hx, hb, hml, hown, hW, hK, hlocks, hF, hr, hA⟩ := id C0
  replace hl : lv_has ls 2 [(0, .ref (ad b)), (1, .int p1)] := hl
  unfold q_X7_takes at hf
  refine lv_aload_n hx hb dX7_takes_0 rfl (lv_at hl 0 rfl) ?_
  refine va_get (D := D) (ci := 8) (v := .ref (ad (b + 1))) (C := RX7) (T := TX7) (N := 11) hx hb hW inlX7 hown hK hP 0 rfl rfl 0 (by decide) (hW _ wd_127) (fun _ h9 => h9) rfl dX7_takes_1 ?_
  refine lv_bipush (v := 16) hx hb dX7_takes_4 (by decide) ?_
  refine z_iald (v := (u.1 16)) hx hb hK hP 1 0 rfl rfl (z_in rfl) rfl dX7_takes_6 ?_
  refine lv_aload_n hx hb dX7_takes_7 rfl (lv_at hl 0 rfl) ?_
  refine va_get (D := D) (ci := 8) (v := .ref (ad (b + 1))) (C := RX7) (T := TX7) (N := 11) hx hb hW inlX7 hown hK hP 0 rfl rfl 0 (by decide) (hW _ wd_127) (fun _ h9 => h9) rfl dX7_takes_8 ?_
  refine lv_bipush (v := 17) hx hb dX7_takes_11 (by decide) ?_
  refine z_iald (v := (u.1 17)) hx hb hK hP 1 0 rfl rfl (z_in rfl) rfl dX7_takes_13 ?_
  refine lv_aload_n hx hb dX7_takes_14 rfl (lv_at hl 0 rfl) ?_
  refine lv_iload_n hx hb dX7_takes_15 rfl (lv_at hl 1 rfl) ?_
  refine lv_aload_n hx hb dX7_takes_16 rfl (lv_at hl 0 rfl) ?_
  refine va_get (D := D) (ci := 8) (v := .ref (ad (b + 1))) (C := RX7) (T := TX7) (N := 11) hx hb hW inlX7 hown hK hP 0 rfl rfl 0 (by decide) (hW _ wd_127) (fun _ h9 => h9) rfl dX7_takes_17 ?_
  refine lv_bipush (v := 18) hx hb dX7_takes_20 (by decide) ?_
  refine z_iald (v := (u.1 18)) hx hb hK hP 1 0 rfl rfl (z_in rfl) rfl dX7_takes_22 ?_
  replace hf := zb_s hf
  obtain ⟨r23, hr23, hf⟩ := hf
  refine z_Vi (rest := [.int (u.1 17), .int (u.1 16)]) C0 kX7_76 (c_X7_sumOf l D G ad (b) u p1 (u.1 18) r23 hr23) z_pall z_pall.symm (ci := 8) (T := TX7) (N := 11) rfl rfl rfl ⟨Nat.le_of_ble_eq_true rfl, Nat.le_of_ble_eq_true rfl⟩ (Nat.le_of_ble_eq_true rfl) rfl hl.1 hP hD hS dX7_takes_23 (fun H locs hP hD hS => ?_)
  refine lv_imul hx hb dX7_takes_26 ?_
  refine lv_iadd hx hb dX7_takes_27 ?_
  obtain rfl := zo hf
  exact hret _ _ _ _ _ hP hD hS rfl dX7_takes_28
noncomputable def q_X7_placeOf_L5 (u : tX7) (p1 : Int32) (v5 : Int32 × Int32) : Option ((Int32 × Int32) ⊕ (Int32)) :=
  (if (u.1 8) ≤ v5.2 then some (Sum.inr (v5.1)) else zg 104 u.1 (28 + v5.2) fun a24 => (if a24 = p1 then some (Sum.inl (v5.2, (v5.2 + 1))) else some (Sum.inl (v5.1, (v5.2 + 1)))))
noncomputable def q_X7_placeOf (u : tX7) (p1 : Int32) : Option (Int32) :=
  zb (zl 1000000 (q_X7_placeOf_L5 u p1) ((-6), 0)) (fun b5 => some (b5))
set_option maxRecDepth 100000 in
set_option maxHeartbeats 4000000 in
theorem c_X7_placeOf (l : Launch) (D : va_G) (G : zG) (ad : Nat → Nat) (b : Nat) (u : tX7) (p1 : Int32) (res : Int32) (hf : q_X7_placeOf u p1 = some res) : zMi l yX7_placeOf cX7_placeOf 4 (some .int) 0 0 D G (wX7 G ad b u) (wX7 G ad b u) [.ref (ad b), .int p1] res := by
  refine zs_i (plainFor_of_name (by decide)) (Nat.le_of_ble_eq_true rfl) ?_
  intro p e s m args below meth c A Q H ls C0 hret hP hD hS hl
  obtain ⟨hx, hb, hml, hown, hW, hK, hlocks, hF, hr, hA⟩ := id C0
  replace hl : lv_has ls 4 [(0, .ref (ad b)), (1, .int p1)] := hl
  unfold q_X7_placeOf at hf
  refine lv_bipush (v := (-6)) hx hb dX7_placeOf_0 (by decide) ?_
  refine lv_istore_n (lv' := [(2, .int (-6)), (0, .ref (ad b)), (1, .int p1)]) hx hb dX7_placeOf_2 rfl hl (by decide) rfl (fun ls hl => ?_)
  refine lv_iconst (v := 0) hx hb dX7_placeOf_3 (by decide) ?_
  refine lv_istore_n (lv' := [(3, .int 0), (2, .int (-6)), (0, .ref (ad b)), (1, .int p1)]) hx hb dX7_placeOf_4 rfl hl (by decide) rfl (fun ls hl => ?_)
  replace hf := zb_s hf
  obtain ⟨b5, hz5, hk5⟩ := hf
  have L5 : ∀ (n5 : Nat) (v5 : Int32 × Int32) (hz5 : zl n5 (q_X7_placeOf_L5 u p1) v5 = some b5) (H : Heap) (locs : List Loc) (hP : va_P D vwCl (wX7 G ad b u) H) (hD : va_D A (wX7 G ad b u)) (hS : va_S A s.heap H locs) (ls : Array Slot) (hl : lv_has ls 4 [(0, .ref (ad b)), (1, .int p1), (2, .int v5.1), (3, .int v5.2)]), W p l e (zRm 0 0) s m args below meth c H locs 0 0 Q (F0 m 5 ls []) := by
    intro n5
    induction n5 with
    | zero => intro v5 hz5; exact (zl_0 hz5).elim
    | succ n5 ih5 =>
      intro v5 hz5 H locs hP hD hS ls hl
      obtain ⟨o5, hf, hz5⟩ := zl_s hz5
      unfold q_X7_placeOf_L5 at hf
      refine lv_iload_n hx hb dX7_placeOf_5 rfl (lv_at hl 3 rfl) ?_
      refine lv_aload_n hx hb dX7_placeOf_6 rfl (lv_at hl 0 rfl) ?_
      refine va_get (D := D) (ci := 8) (v := .ref (ad (b + 1))) (C := RX7) (T := TX7) (N := 11) hx hb hW inlX7 hown hK hP 0 rfl rfl 0 (by decide) (hW _ wd_127) (fun _ h9 => h9) rfl dX7_placeOf_7 ?_
      refine lv_bipush (v := 8) hx hb dX7_placeOf_10 (by decide) ?_
      refine z_iald (v := (u.1 8)) hx hb hK hP 1 0 rfl rfl (z_in rfl) rfl dX7_placeOf_12 ?_
      refine lv_icmp_ge (tgt := 41) hx hb dX7_placeOf_13 (by decide) (fun c13 => ?_) (fun c13 => ?_)
      · replace hf := zi_p hf c13
        have hb5 := zk_r hf hz5
        subst hb5
        replace hf := hk5
        refine lv_iload_n hx hb dX7_placeOf_41 rfl (lv_at hl 2 rfl) ?_
        obtain rfl := zo hf
        exact hret _ _ _ _ _ hP hD hS rfl dX7_placeOf_42
      · replace hf := zi_n hf c13
        refine lv_aload_n hx hb dX7_placeOf_16 rfl (lv_at hl 0 rfl) ?_
        refine va_get (D := D) (ci := 8) (v := .ref (ad (b + 1))) (C := RX7) (T := TX7) (N := 11) hx hb hW inlX7 hown hK hP 0 rfl rfl 0 (by decide) (hW _ wd_127) (fun _ h9 => h9) rfl dX7_placeOf_17 ?_
        refine lv_bipush (v := 28) hx hb dX7_placeOf_20 (by decide) ?_
        refine lv_iload_n hx hb dX7_placeOf_22 rfl (lv_at hl 3 rfl) ?_
        refine lv_iadd hx hb dX7_placeOf_23 ?_
        replace hf := zg_s hf
        obtain ⟨hi24, a24, ea24, hf⟩ := hf
        refine z_iald hx hb hK hP 1 0 rfl rfl hi24 ea24 dX7_placeOf_24 ?_
        refine lv_iload_n hx hb dX7_placeOf_25 rfl (lv_at hl 1 rfl) ?_
        refine lv_icmp_ne (tgt := 33) hx hb dX7_placeOf_26 (by decide) (fun c26 => ?_) (fun c26 => ?_)
        · replace hf := zi_n hf c26
          refine lv_iload_n hx hb dX7_placeOf_33 rfl (lv_at hl 2 rfl) ?_
          refine lv_istore_n (lv' := [(2, .int v5.1), (0, .ref (ad b)), (1, .int p1), (3, .int v5.2)]) hx hb dX7_placeOf_34 rfl hl (by decide) rfl (fun ls hl => ?_)
          refine lv_iinc (v := (v5.2 + 1)) (lv' := [(3, .int (v5.2 + 1)), (2, .int v5.1), (0, .ref (ad b)), (1, .int p1)]) hx hb dX7_placeOf_35 hl (k := 3) rfl rfl (by decide) rfl (fun ls hl => ?_)
          refine lv_goto (tgt := 5) hx hb dX7_placeOf_38 (by decide) ?_
          exact ih5 _ (zk_l hf hz5) _ _ hP hD hS _ (lv_sub hl [2, 3, 1, 0] rfl)
        · replace hf := zi_p hf c26
          refine lv_iload_n hx hb dX7_placeOf_29 rfl (lv_at hl 3 rfl) ?_
          refine lv_goto (tgt := 34) hx hb dX7_placeOf_30 (by decide) ?_
          refine lv_istore_n (lv' := [(2, .int v5.2), (0, .ref (ad b)), (1, .int p1), (3, .int v5.2)]) hx hb dX7_placeOf_34 rfl hl (by decide) rfl (fun ls hl => ?_)
          refine lv_iinc (v := (v5.2 + 1)) (lv' := [(3, .int (v5.2 + 1)), (2, .int v5.2), (0, .ref (ad b)), (1, .int p1)]) hx hb dX7_placeOf_35 hl (k := 3) rfl rfl (by decide) rfl (fun ls hl => ?_)
          refine lv_goto (tgt := 5) hx hb dX7_placeOf_38 (by decide) ?_
          exact ih5 _ (zk_l hf hz5) _ _ hP hD hS _ (lv_sub hl [2, 3, 1, 0] rfl)
  exact L5 _ _ hz5 _ _ hP hD hS _ (lv_sub hl [2, 3, 1, 0] rfl)
noncomputable def q_X7_takesOut_J50  (w50_0 : Nat → Int32) : Option ((Nat → Int32)) :=
  zs 104 w50_0 (28 + (w50_0 8)) 0 fun s65 => some (s65)
noncomputable def q_X7_takesOut_L13  (v13 : Int32 × (Nat → Int32)) : Option ((Int32 × (Nat → Int32)) ⊕ ((Nat → Int32))) :=
  (if (v13.2 8) ≤ v13.1 then some (Sum.inr (v13.2)) else zg 104 v13.2 ((28 + v13.1) + 1) fun a42 => zs 104 v13.2 (28 + v13.1) a42 fun s43 => some (Sum.inl ((v13.1 + 1), s43)))
noncomputable def q_X7_takesOut (u : tX7) (p1 : Int32) : Option ((Nat → Int32)) :=
  zn (upd u.1 8 ((u.1 8) - 1)) fun s10 => zb (zl 1000000 q_X7_takesOut_L13 (p1, s10)) (fun b13 => q_X7_takesOut_J50 b13)
set_option maxRecDepth 100000 in
set_option maxHeartbeats 4000000 in
theorem c_X7_takesOut (l : Launch) (D : va_G) (G : zG) (ad : Nat → Nat) (b : Nat) (u : tX7) (p1 : Int32) (res : (Nat → Int32)) (hf : q_X7_takesOut u p1 = some res) : zMv l yX7_takesOut cX7_takesOut 3 none 0 0 D G (wX7 G ad b u) (wX7 G ad b (res, u.2.1, u.2.2.1, u.2.2.2.1, u.2.2.2.2.1, u.2.2.2.2.2.1, u.2.2.2.2.2.2.1, u.2.2.2.2.2.2.2.1, u.2.2.2.2.2.2.2.2.1, u.2.2.2.2.2.2.2.2.2.1, u.2.2.2.2.2.2.2.2.2.2)) [.ref (ad b), .int p1] := by
  refine zs_v (plainFor_of_name (by decide)) (Nat.le_of_ble_eq_true rfl) ?_
  intro p e s m args below meth c A Q H ls C0 hret hP hD hS hl
  obtain ⟨hx, hb, hml, hown, hW, hK, hlocks, hF, hr, hA⟩ := id C0
  replace hl : lv_has ls 3 [(0, .ref (ad b)), (1, .int p1)] := hl
  unfold q_X7_takesOut at hf
  refine lv_aload_n hx hb dX7_takesOut_0 rfl (lv_at hl 0 rfl) ?_
  refine va_get (D := D) (ci := 8) (v := .ref (ad (b + 1))) (C := RX7) (T := TX7) (N := 11) hx hb hW inlX7 hown hK hP 0 rfl rfl 0 (by decide) (hW _ wd_127) (fun _ h9 => h9) rfl dX7_takesOut_1 ?_
  refine lv_bipush (v := 8) hx hb dX7_takesOut_4 (by decide) ?_
  refine lv_dup2_11 hx hb dX7_takesOut_6 rfl rfl ?_
  refine z_iald (v := (u.1 8)) hx hb hK hP 1 0 rfl rfl (z_in rfl) rfl dX7_takesOut_7 ?_
  refine lv_iconst (v := 1) hx hb dX7_takesOut_8 (by decide) ?_
  refine lv_isub hx hb dX7_takesOut_9 ?_
  replace hf := zn_s hf
  obtain ⟨s10, es10, hf⟩ := hf
  refine z_iast (ws' := wX7 G ad b (s10, u.2.1, u.2.2.1, u.2.2.2.1, u.2.2.2.2.1, u.2.2.2.2.2.1, u.2.2.2.2.2.2.1, u.2.2.2.2.2.2.2.1, u.2.2.2.2.2.2.2.2.1, u.2.2.2.2.2.2.2.2.2.1, u.2.2.2.2.2.2.2.2.2.2)) hx hb hK hP hD hS 1 0 rfl rfl (z_in rfl) es10 rfl dX7_takesOut_10 (fun H locs hP hD hS => ?_)
  refine lv_iload_n hx hb dX7_takesOut_11 rfl (lv_at hl 1 rfl) ?_
  refine lv_istore_n (lv' := [(2, .int p1), (0, .ref (ad b)), (1, .int p1)]) hx hb dX7_takesOut_12 rfl hl (by decide) rfl (fun ls hl => ?_)
  have J50 : ∀ (w50_0 : Nat → Int32) (hf : q_X7_takesOut_J50 w50_0 = some res) (H : Heap) (locs : List Loc) (hP : va_P D vwCl (wX7 G ad b (w50_0, u.2.1, u.2.2.1, u.2.2.2.1, u.2.2.2.2.1, u.2.2.2.2.2.1, u.2.2.2.2.2.2.1, u.2.2.2.2.2.2.2.1, u.2.2.2.2.2.2.2.2.1, u.2.2.2.2.2.2.2.2.2.1, u.2.2.2.2.2.2.2.2.2.2)) H) (hD : va_D A (wX7 G ad b (w50_0, u.2.1, u.2.2.1, u.2.2.2.1, u.2.2.2.2.1, u.2.2.2.2.2.1, u.2.2.2.2.2.2.1, u.2.2.2.2.2.2.2.1, u.2.2.2.2.2.2.2.2.1, u.2.2.2.2.2.2.2.2.2.1, u.2.2.2.2.2.2.2.2.2.2))) (hS : va_S A s.heap H locs) (ls : Array Slot) (hl : lv_has ls 3 [(0, .ref (ad b))]), W p l e (zRm 0 0) s m args below meth c H locs 0 0 Q (F0 m 50 ls []) := by
    intro w50_0 hf H locs hP hD hS ls hl
    unfold q_X7_takesOut_J50 at hf
    refine lv_aload_n hx hb dX7_takesOut_50 rfl (lv_at hl 0 rfl) ?_
    refine va_get (D := D) (ci := 8) (v := .ref (ad (b + 1))) (C := RX7) (T := TX7) (N := 11) hx hb hW inlX7 hown hK hP 0 rfl rfl 0 (by decide) (hW _ wd_127) (fun _ h9 => h9) rfl dX7_takesOut_51 ?_
    refine lv_bipush (v := 28) hx hb dX7_takesOut_54 (by decide) ?_
    refine lv_aload_n hx hb dX7_takesOut_56 rfl (lv_at hl 0 rfl) ?_
    refine va_get (D := D) (ci := 8) (v := .ref (ad (b + 1))) (C := RX7) (T := TX7) (N := 11) hx hb hW inlX7 hown hK hP 0 rfl rfl 0 (by decide) (hW _ wd_127) (fun _ h9 => h9) rfl dX7_takesOut_57 ?_
    refine lv_bipush (v := 8) hx hb dX7_takesOut_60 (by decide) ?_
    refine z_iald (v := (w50_0 8)) hx hb hK hP 1 0 rfl rfl (z_in rfl) rfl dX7_takesOut_62 ?_
    refine lv_iadd hx hb dX7_takesOut_63 ?_
    refine lv_iconst (v := 0) hx hb dX7_takesOut_64 (by decide) ?_
    replace hf := zs_s hf
    obtain ⟨hi65, s65, es65, hf⟩ := hf
    refine z_iast (ws' := wX7 G ad b (s65, u.2.1, u.2.2.1, u.2.2.2.1, u.2.2.2.2.1, u.2.2.2.2.2.1, u.2.2.2.2.2.2.1, u.2.2.2.2.2.2.2.1, u.2.2.2.2.2.2.2.2.1, u.2.2.2.2.2.2.2.2.2.1, u.2.2.2.2.2.2.2.2.2.2)) hx hb hK hP hD hS 1 0 rfl rfl hi65 es65 rfl dX7_takesOut_65 (fun H locs hP hD hS => ?_)
    obtain rfl := zo hf
    exact hret _ _ _ _ hP hD hS dX7_takesOut_66
  replace hf := zb_s hf
  obtain ⟨b13, hz13, hk13⟩ := hf
  have L13 : ∀ (n13 : Nat) (v13 : Int32 × (Nat → Int32)) (hz13 : zl n13 q_X7_takesOut_L13 v13 = some b13) (H : Heap) (locs : List Loc) (hP : va_P D vwCl (wX7 G ad b (v13.2, u.2.1, u.2.2.1, u.2.2.2.1, u.2.2.2.2.1, u.2.2.2.2.2.1, u.2.2.2.2.2.2.1, u.2.2.2.2.2.2.2.1, u.2.2.2.2.2.2.2.2.1, u.2.2.2.2.2.2.2.2.2.1, u.2.2.2.2.2.2.2.2.2.2)) H) (hD : va_D A (wX7 G ad b (v13.2, u.2.1, u.2.2.1, u.2.2.2.1, u.2.2.2.2.1, u.2.2.2.2.2.1, u.2.2.2.2.2.2.1, u.2.2.2.2.2.2.2.1, u.2.2.2.2.2.2.2.2.1, u.2.2.2.2.2.2.2.2.2.1, u.2.2.2.2.2.2.2.2.2.2))) (hS : va_S A s.heap H locs) (ls : Array Slot) (hl : lv_has ls 3 [(0, .ref (ad b)), (2, .int v13.1)]), W p l e (zRm 0 0) s m args below meth c H locs 0 0 Q (F0 m 13 ls []) := by
    intro n13
    induction n13 with
    | zero => intro v13 hz13; exact (zl_0 hz13).elim
    | succ n13 ih13 =>
      intro v13 hz13 H locs hP hD hS ls hl
      obtain ⟨o13, hf, hz13⟩ := zl_s hz13
      unfold q_X7_takesOut_L13 at hf
      refine lv_iload_n hx hb dX7_takesOut_13 rfl (lv_at hl 1 rfl) ?_
      refine lv_aload_n hx hb dX7_takesOut_14 rfl (lv_at hl 0 rfl) ?_
      refine va_get (D := D) (ci := 8) (v := .ref (ad (b + 1))) (C := RX7) (T := TX7) (N := 11) hx hb hW inlX7 hown hK hP 0 rfl rfl 0 (by decide) (hW _ wd_127) (fun _ h9 => h9) rfl dX7_takesOut_15 ?_
      refine lv_bipush (v := 8) hx hb dX7_takesOut_18 (by decide) ?_
      refine z_iald (v := (v13.2 8)) hx hb hK hP 1 0 rfl rfl (z_in rfl) rfl dX7_takesOut_20 ?_
      refine lv_icmp_ge (tgt := 50) hx hb dX7_takesOut_21 (by decide) (fun c21 => ?_) (fun c21 => ?_)
      · replace hf := zi_p hf c21
        have hb13 := zk_r hf hz13
        subst hb13
        replace hf := hk13
        exact J50 v13.2 hf _ _ hP hD hS _ (lv_sub hl [0] rfl)
      · replace hf := zi_n hf c21
        refine lv_aload_n hx hb dX7_takesOut_24 rfl (lv_at hl 0 rfl) ?_
        refine va_get (D := D) (ci := 8) (v := .ref (ad (b + 1))) (C := RX7) (T := TX7) (N := 11) hx hb hW inlX7 hown hK hP 0 rfl rfl 0 (by decide) (hW _ wd_127) (fun _ h9 => h9) rfl dX7_takesOut_25 ?_
        refine lv_bipush (v := 28) hx hb dX7_takesOut_28 (by decide) ?_
        refine lv_iload_n hx hb dX7_takesOut_30 rfl (lv_at hl 1 rfl) ?_
        refine lv_iadd hx hb dX7_takesOut_31 ?_
        refine lv_aload_n hx hb dX7_takesOut_32 rfl (lv_at hl 0 rfl) ?_
        refine va_get (D := D) (ci := 8) (v := .ref (ad (b + 1))) (C := RX7) (T := TX7) (N := 11) hx hb hW inlX7 hown hK hP 0 rfl rfl 0 (by decide) (hW _ wd_127) (fun _ h9 => h9) rfl dX7_takesOut_33 ?_
        refine lv_bipush (v := 28) hx hb dX7_takesOut_36 (by decide) ?_
        refine lv_iload_n hx hb dX7_takesOut_38 rfl (lv_at hl 1 rfl) ?_
        refine lv_iadd hx hb dX7_takesOut_39 ?_
        refine lv_iconst (v := 1) hx hb dX7_takesOut_40 (by decide) ?_
        refine lv_iadd hx hb dX7_takesOut_41 ?_
        replace hf := zg_s hf
        obtain ⟨hi42, a42, ea42, hf⟩ := hf
        refine z_iald hx hb hK hP 1 0 rfl rfl hi42 ea42 dX7_takesOut_42 ?_
        replace hf := zs_s hf
        obtain ⟨hi43, s43, es43, hf⟩ := hf
        refine z_iast (ws' := wX7 G ad b (s43, u.2.1, u.2.2.1, u.2.2.2.1, u.2.2.2.2.1, u.2.2.2.2.2.1, u.2.2.2.2.2.2.1, u.2.2.2.2.2.2.2.1, u.2.2.2.2.2.2.2.2.1, u.2.2.2.2.2.2.2.2.2.1, u.2.2.2.2.2.2.2.2.2.2)) hx hb hK hP hD hS 1 0 rfl rfl hi43 es43 rfl dX7_takesOut_43 (fun H locs hP hD hS => ?_)
        refine lv_iinc (v := (v13.1 + 1)) (lv' := [(2, .int (v13.1 + 1)), (0, .ref (ad b))]) hx hb dX7_takesOut_44 hl (k := 1) rfl rfl (by decide) rfl (fun ls hl => ?_)
        refine lv_goto (tgt := 13) hx hb dX7_takesOut_47 (by decide) ?_
        exact ih13 _ (zk_l hf hz13) _ _ hP hD hS _ (lv_sub hl [1, 0] rfl)
  exact L13 _ _ hz13 _ _ hP hD hS _ (lv_sub hl [1, 0] rfl)
theorem kX7_79 : zLkV RX7 79 yX7_isDue cX7_isDue 2 (some .boolean) 1 := ⟨⟨wd_461, wd_462, wd_463, wd_5, wd_464⟩, by decide +kernel⟩
noncomputable def q_X7_bestDue_J122 (u : tX7) (v30 : Int32 × Int32) (y58_0 : Int32) (y122_0 : Int32) : Option ((Int32 × Int32) ⊕ (Int32)) :=
  zb (q_X7_isDue u y58_0) fun r127 => (if r127 = 0 then some (Sum.inl (v30.1, (v30.2 + 1))) else (if y122_0 = 0 then some (Sum.inl (v30.1, (v30.2 + 1))) else some (Sum.inl (y58_0, (v30.2 + 1)))))
noncomputable def q_X7_bestDue_J89 (u : tX7) (v30 : Int32 × Int32) (y58_0 : Int32)  : Option ((Int32 × Int32) ⊕ (Int32)) :=
  (if (u.1 4) = 1 then zb (q_X7_sumOf u y58_0 9) fun r104 => zb (q_X7_sumOf u v30.1 9) fun r111 => (if r104 ≤ r111 then q_X7_bestDue_J122 u v30 y58_0 0 else q_X7_bestDue_J122 u v30 y58_0 1) else q_X7_bestDue_J122 u v30 y58_0 0)
noncomputable def q_X7_bestDue_J58 (u : tX7) (v30 : Int32 × Int32) (y58_0 : Int32) : Option ((Int32 × Int32) ⊕ (Int32)) :=
  (if v30.1 = (-6) then q_X7_bestDue_J122 u v30 y58_0 1 else (if (u.1 4) = 0 then zb (q_X7_age u y58_0) fun r78 => zb (q_X7_age u v30.1) fun r83 => (if r83 < r78 then q_X7_bestDue_J122 u v30 y58_0 1 else q_X7_bestDue_J89 u v30 y58_0) else q_X7_bestDue_J89 u v30 y58_0))
noncomputable def q_X7_bestDue_L30 (u : tX7) (y27_0 : Int32) (v30 : Int32 × Int32) : Option ((Int32 × Int32) ⊕ (Int32)) :=
  (if 8 < v30.2 then some (Sum.inr (v30.1)) else (if (u.1 4) = 2 then q_X7_bestDue_J58 u v30 ((y27_0 + v30.2) - (y27_0 + v30.2) / 8 * 8) else q_X7_bestDue_J58 u v30 (v30.2 - 1)))
noncomputable def q_X7_bestDue_J27 (u : tX7) (y27_0 : Int32) : Option (Int32) :=
  zb (zl 1000000 (q_X7_bestDue_L30 u y27_0) ((-6), 1)) (fun b30 => some (b30))
noncomputable def q_X7_bestDue (u : tX7) : Option (Int32) :=
  (if (u.1 13) = (-6) then q_X7_bestDue_J27 u 7 else q_X7_bestDue_J27 u (u.1 13))
set_option maxRecDepth 100000 in
set_option maxHeartbeats 4000000 in
theorem c_X7_bestDue (l : Launch) (D : va_G) (G : zG) (ad : Nat → Nat) (b : Nat) (u : tX7) (res : Int32) (hf : q_X7_bestDue u = some res) : zMi l yX7_bestDue cX7_bestDue 6 (some .int) 2 46 D G (wX7 G ad b u) (wX7 G ad b u) [.ref (ad b)] res := by
  refine zs_i (plainFor_of_name (by decide)) (Nat.le_of_ble_eq_true rfl) ?_
  intro p e s m args below meth c A Q H ls C0 hret hP hD hS hl
  obtain ⟨hx, hb, hml, hown, hW, hK, hlocks, hF, hr, hA⟩ := id C0
  replace hl : lv_has ls 6 [(0, .ref (ad b))] := hl
  unfold q_X7_bestDue at hf
  refine lv_bipush (v := (-6)) hx hb dX7_bestDue_0 (by decide) ?_
  refine lv_istore_n (lv' := [(1, .int (-6)), (0, .ref (ad b))]) hx hb dX7_bestDue_2 rfl hl (by decide) rfl (fun ls hl => ?_)
  refine lv_aload_n hx hb dX7_bestDue_3 rfl (lv_at hl 1 rfl) ?_
  refine va_get (D := D) (ci := 8) (v := .ref (ad (b + 1))) (C := RX7) (T := TX7) (N := 11) hx hb hW inlX7 hown hK hP 0 rfl rfl 0 (by decide) (hW _ wd_127) (fun _ h9 => h9) rfl dX7_bestDue_4 ?_
  refine lv_bipush (v := 13) hx hb dX7_bestDue_7 (by decide) ?_
  refine z_iald (v := (u.1 13)) hx hb hK hP 1 0 rfl rfl (z_in rfl) rfl dX7_bestDue_9 ?_
  refine lv_bipush (v := (-6)) hx hb dX7_bestDue_10 (by decide) ?_
  have J27 : ∀ (y27_0 : Int32) (hf : q_X7_bestDue_J27 u y27_0 = some res) (H : Heap) (locs : List Loc) (hP : va_P D vwCl (wX7 G ad b u) H) (hD : va_D A (wX7 G ad b u)) (hS : va_S A s.heap H locs) (ls : Array Slot) (hl : lv_has ls 6 [(0, .ref (ad b)), (1, .int (-6))]), W p l e (zRm 2 46) s m args below meth c H locs 0 0 Q (F0 m 27 ls [.int y27_0]) := by
    intro y27_0 hf H locs hP hD hS ls hl
    unfold q_X7_bestDue_J27 at hf
    refine lv_istore_n (lv' := [(2, .int y27_0), (0, .ref (ad b)), (1, .int (-6))]) hx hb dX7_bestDue_27 rfl hl (by decide) rfl (fun ls hl => ?_)
    refine lv_iconst (v := 1) hx hb dX7_bestDue_28 (by decide) ?_
    refine lv_istore_n (lv' := [(3, .int 1), (2, .int y27_0), (0, .ref (ad b)), (1, .int (-6))]) hx hb dX7_bestDue_29 rfl hl (by decide) rfl (fun ls hl => ?_)
    replace hf := zb_s hf
    obtain ⟨b30, hz30, hk30⟩ := hf
    have L30 : ∀ (n30 : Nat) (v30 : Int32 × Int32) (hz30 : zl n30 (q_X7_bestDue_L30 u y27_0) v30 = some b30) (H : Heap) (locs : List Loc) (hP : va_P D vwCl (wX7 G ad b u) H) (hD : va_D A (wX7 G ad b u)) (hS : va_S A s.heap H locs) (ls : Array Slot) (hl : lv_has ls 6 [(0, .ref (ad b)), (1, .int v30.1), (2, .int y27_0), (3, .int v30.2)]), W p l e (zRm 2 46) s m args below meth c H locs 0 0 Q (F0 m 30 ls []) := by
      intro n30
      induction n30 with
      | zero => intro v30 hz30; exact (zl_0 hz30).elim
      | succ n30 ih30 =>
        intro v30 hz30 H locs hP hD hS ls hl
        obtain ⟨o30, hf, hz30⟩ := zl_s hz30
        unfold q_X7_bestDue_L30 at hf
        refine lv_iload_n hx hb dX7_bestDue_30 rfl (lv_at hl 3 rfl) ?_
        refine lv_bipush (v := 8) hx hb dX7_bestDue_31 (by decide) ?_
        refine lv_icmp_gt (tgt := 151) hx hb dX7_bestDue_33 (by decide) (fun c33 => ?_) (fun c33 => ?_)
        · replace hf := zi_p hf c33
          have hb30 := zk_r hf hz30
          subst hb30
          replace hf := hk30
          refine lv_iload_n hx hb dX7_bestDue_151 rfl (lv_at hl 1 rfl) ?_
          obtain rfl := zo hf
          exact hret _ _ _ _ _ hP hD hS rfl dX7_bestDue_152
        · replace hf := zi_n hf c33
          refine lv_aload_n hx hb dX7_bestDue_36 rfl (lv_at hl 0 rfl) ?_
          refine va_get (D := D) (ci := 8) (v := .ref (ad (b + 1))) (C := RX7) (T := TX7) (N := 11) hx hb hW inlX7 hown hK hP 0 rfl rfl 0 (by decide) (hW _ wd_127) (fun _ h9 => h9) rfl dX7_bestDue_37 ?_
          refine lv_iconst (v := 4) hx hb dX7_bestDue_40 (by decide) ?_
          refine z_iald (v := (u.1 4)) hx hb hK hP 1 0 rfl rfl (z_in rfl) rfl dX7_bestDue_41 ?_
          refine lv_iconst (v := 2) hx hb dX7_bestDue_42 (by decide) ?_
          have J58 : ∀ (y58_0 : Int32) (hf : q_X7_bestDue_J58 u v30 y58_0 = some o30) (H : Heap) (locs : List Loc) (hP : va_P D vwCl (wX7 G ad b u) H) (hD : va_D A (wX7 G ad b u)) (hS : va_S A s.heap H locs) (ls : Array Slot) (hl : lv_has ls 6 [(0, .ref (ad b)), (1, .int v30.1), (2, .int y27_0), (3, .int v30.2)]), W p l e (zRm 2 46) s m args below meth c H locs 0 0 Q (F0 m 58 ls [.int y58_0]) := by
            intro y58_0 hf H locs hP hD hS ls hl
            unfold q_X7_bestDue_J58 at hf
            refine lv_istore (lv' := [(4, .int y58_0), (0, .ref (ad b)), (1, .int v30.1), (2, .int y27_0), (3, .int v30.2)]) hx hb dX7_bestDue_58 hl (by decide) rfl (fun ls hl => ?_)
            refine lv_iload_n hx hb dX7_bestDue_60 rfl (lv_at hl 2 rfl) ?_
            refine lv_bipush (v := (-6)) hx hb dX7_bestDue_61 (by decide) ?_
            have J122 : ∀ (y122_0 : Int32) (hf : q_X7_bestDue_J122 u v30 y58_0 y122_0 = some o30) (H : Heap) (locs : List Loc) (hP : va_P D vwCl (wX7 G ad b u) H) (hD : va_D A (wX7 G ad b u)) (hS : va_S A s.heap H locs) (ls : Array Slot) (hl : lv_has ls 6 [(0, .ref (ad b)), (1, .int v30.1), (2, .int y27_0), (3, .int v30.2), (4, .int y58_0)]), W p l e (zRm 2 46) s m args below meth c H locs 0 0 Q (F0 m 122 ls [.int y122_0]) := by
              intro y122_0 hf H locs hP hD hS ls hl
              unfold q_X7_bestDue_J122 at hf
              refine lv_istore (lv' := [(5, .int y122_0), (0, .ref (ad b)), (1, .int v30.1), (2, .int y27_0), (3, .int v30.2), (4, .int y58_0)]) hx hb dX7_bestDue_122 hl (by decide) rfl (fun ls hl => ?_)
              refine lv_aload_n hx hb dX7_bestDue_124 rfl (lv_at hl 1 rfl) ?_
              refine lv_iload hx hb dX7_bestDue_125 (lv_at hl 5 rfl) ?_
              replace hf := zb_s hf
              obtain ⟨r127, hr127, hf⟩ := hf
              refine z_Vi (rest := []) C0 kX7_79 (c_X7_isDue l D G ad (b) u y58_0 r127 hr127) z_pall z_pall.symm (ci := 8) (T := TX7) (N := 11) rfl rfl rfl ⟨Nat.le_of_ble_eq_true rfl, Nat.le_of_ble_eq_true rfl⟩ (Nat.le_of_ble_eq_true rfl) rfl hl.1 hP hD hS dX7_bestDue_127 (fun H locs hP hD hS => ?_)
              refine lv_if_eq (tgt := 143) hx hb dX7_bestDue_130 (by decide) (fun c130 => ?_) (fun c130 => ?_)
              · replace hf := zi_p hf c130
                refine lv_iload_n hx hb dX7_bestDue_143 rfl (lv_at hl 2 rfl) ?_
                refine lv_istore_n (lv' := [(1, .int v30.1), (5, .int y122_0), (0, .ref (ad b)), (2, .int y27_0), (3, .int v30.2), (4, .int y58_0)]) hx hb dX7_bestDue_144 rfl hl (by decide) rfl (fun ls hl => ?_)
                refine lv_iinc (v := (v30.2 + 1)) (lv' := [(3, .int (v30.2 + 1)), (1, .int v30.1), (5, .int y122_0), (0, .ref (ad b)), (2, .int y27_0), (4, .int y58_0)]) hx hb dX7_bestDue_145 hl (k := 4) rfl rfl (by decide) rfl (fun ls hl => ?_)
                refine lv_goto (tgt := 30) hx hb dX7_bestDue_148 (by decide) ?_
                exact ih30 _ (zk_l hf hz30) _ _ hP hD hS _ (lv_sub hl [3, 1, 4, 0] rfl)
              · replace hf := zi_n hf c130
                refine lv_iload hx hb dX7_bestDue_133 (lv_at hl 0 rfl) ?_
                refine lv_if_eq (tgt := 143) hx hb dX7_bestDue_135 (by decide) (fun c135 => ?_) (fun c135 => ?_)
                · replace hf := zi_p hf c135
                  refine lv_iload_n hx hb dX7_bestDue_143 rfl (lv_at hl 2 rfl) ?_
                  refine lv_istore_n (lv' := [(1, .int v30.1), (5, .int y122_0), (0, .ref (ad b)), (2, .int y27_0), (3, .int v30.2), (4, .int y58_0)]) hx hb dX7_bestDue_144 rfl hl (by decide) rfl (fun ls hl => ?_)
                  refine lv_iinc (v := (v30.2 + 1)) (lv' := [(3, .int (v30.2 + 1)), (1, .int v30.1), (5, .int y122_0), (0, .ref (ad b)), (2, .int y27_0), (4, .int y58_0)]) hx hb dX7_bestDue_145 hl (k := 4) rfl rfl (by decide) rfl (fun ls hl => ?_)
                  refine lv_goto (tgt := 30) hx hb dX7_bestDue_148 (by decide) ?_
                  exact ih30 _ (zk_l hf hz30) _ _ hP hD hS _ (lv_sub hl [3, 1, 4, 0] rfl)
                · replace hf := zi_n hf c135
                  refine lv_iload hx hb dX7_bestDue_138 (lv_at hl 5 rfl) ?_
                  refine lv_goto (tgt := 144) hx hb dX7_bestDue_140 (by decide) ?_
                  refine lv_istore_n (lv' := [(1, .int y58_0), (5, .int y122_0), (0, .ref (ad b)), (2, .int y27_0), (3, .int v30.2), (4, .int y58_0)]) hx hb dX7_bestDue_144 rfl hl (by decide) rfl (fun ls hl => ?_)
                  refine lv_iinc (v := (v30.2 + 1)) (lv' := [(3, .int (v30.2 + 1)), (1, .int y58_0), (5, .int y122_0), (0, .ref (ad b)), (2, .int y27_0), (4, .int y58_0)]) hx hb dX7_bestDue_145 hl (k := 4) rfl rfl (by decide) rfl (fun ls hl => ?_)
                  refine lv_goto (tgt := 30) hx hb dX7_bestDue_148 (by decide) ?_
                  exact ih30 _ (zk_l hf hz30) _ _ hP hD hS _ (lv_sub hl [3, 1, 4, 0] rfl)
            refine lv_icmp_eq (tgt := 117) hx hb dX7_bestDue_63 (by decide) (fun c63 => ?_) (fun c63 => ?_)
            · replace hf := zi_p hf c63
              refine lv_iconst (v := 1) hx hb dX7_bestDue_117 (by decide) ?_
              refine lv_goto (tgt := 122) hx hb dX7_bestDue_118 (by decide) ?_
              exact J122 1 hf _ _ hP hD hS _ (lv_sub hl [1, 2, 3, 4, 0] rfl)
            · replace hf := zi_n hf c63
              refine lv_aload_n hx hb dX7_bestDue_66 rfl (lv_at hl 1 rfl) ?_
              refine va_get (D := D) (ci := 8) (v := .ref (ad (b + 1))) (C := RX7) (T := TX7) (N := 11) hx hb hW inlX7 hown hK hP 0 rfl rfl 0 (by decide) (hW _ wd_127) (fun _ h9 => h9) rfl dX7_bestDue_67 ?_
              refine lv_iconst (v := 4) hx hb dX7_bestDue_70 (by decide) ?_
              refine z_iald (v := (u.1 4)) hx hb hK hP 1 0 rfl rfl (z_in rfl) rfl dX7_bestDue_71 ?_
              have J89 : ∀ (hf : q_X7_bestDue_J89 u v30 y58_0 = some o30) (H : Heap) (locs : List Loc) (hP : va_P D vwCl (wX7 G ad b u) H) (hD : va_D A (wX7 G ad b u)) (hS : va_S A s.heap H locs) (ls : Array Slot) (hl : lv_has ls 6 [(0, .ref (ad b)), (1, .int v30.1), (2, .int y27_0), (3, .int v30.2), (4, .int y58_0)]), W p l e (zRm 2 46) s m args below meth c H locs 0 0 Q (F0 m 89 ls []) := by
                intro  hf H locs hP hD hS ls hl
                unfold q_X7_bestDue_J89 at hf
                refine lv_aload_n hx hb dX7_bestDue_89 rfl (lv_at hl 0 rfl) ?_
                refine va_get (D := D) (ci := 8) (v := .ref (ad (b + 1))) (C := RX7) (T := TX7) (N := 11) hx hb hW inlX7 hown hK hP 0 rfl rfl 0 (by decide) (hW _ wd_127) (fun _ h9 => h9) rfl dX7_bestDue_90 ?_
                refine lv_iconst (v := 4) hx hb dX7_bestDue_93 (by decide) ?_
                refine z_iald (v := (u.1 4)) hx hb hK hP 1 0 rfl rfl (z_in rfl) rfl dX7_bestDue_94 ?_
                refine lv_iconst (v := 1) hx hb dX7_bestDue_95 (by decide) ?_
                refine lv_icmp_ne (tgt := 121) hx hb dX7_bestDue_96 (by decide) (fun c96 => ?_) (fun c96 => ?_)
                · replace hf := zi_n hf c96
                  refine lv_iconst (v := 0) hx hb dX7_bestDue_121 (by decide) ?_
                  exact J122 0 hf _ _ hP hD hS _ (lv_sub hl [0, 1, 2, 3, 4] rfl)
                · replace hf := zi_p hf c96
                  refine lv_aload_n hx hb dX7_bestDue_99 rfl (lv_at hl 0 rfl) ?_
                  refine lv_iload hx hb dX7_bestDue_100 (lv_at hl 4 rfl) ?_
                  refine lv_bipush (v := 9) hx hb dX7_bestDue_102 (by decide) ?_
                  replace hf := zb_s hf
                  obtain ⟨r104, hr104, hf⟩ := hf
                  refine z_Vi (rest := []) C0 kX7_76 (c_X7_sumOf l D G ad (b) u y58_0 9 r104 hr104) z_pall z_pall.symm (ci := 8) (T := TX7) (N := 11) rfl rfl rfl ⟨Nat.le_of_ble_eq_true rfl, Nat.le_of_ble_eq_true rfl⟩ (Nat.le_of_ble_eq_true rfl) rfl hl.1 hP hD hS dX7_bestDue_104 (fun H locs hP hD hS => ?_)
                  refine lv_aload_n hx hb dX7_bestDue_107 rfl (lv_at hl 0 rfl) ?_
                  refine lv_iload_n hx hb dX7_bestDue_108 rfl (lv_at hl 1 rfl) ?_
                  refine lv_bipush (v := 9) hx hb dX7_bestDue_109 (by decide) ?_
                  replace hf := zb_s hf
                  obtain ⟨r111, hr111, hf⟩ := hf
                  refine z_Vi (rest := [.int r104]) C0 kX7_76 (c_X7_sumOf l D G ad (b) u v30.1 9 r111 hr111) z_pall z_pall.symm (ci := 8) (T := TX7) (N := 11) rfl rfl rfl ⟨Nat.le_of_ble_eq_true rfl, Nat.le_of_ble_eq_true rfl⟩ (Nat.le_of_ble_eq_true rfl) rfl hl.1 hP hD hS dX7_bestDue_111 (fun H locs hP hD hS => ?_)
                  refine lv_icmp_le (tgt := 121) hx hb dX7_bestDue_114 (by decide) (fun c114 => ?_) (fun c114 => ?_)
                  · replace hf := zi_p hf c114
                    refine lv_iconst (v := 0) hx hb dX7_bestDue_121 (by decide) ?_
                    exact J122 0 hf _ _ hP hD hS _ (lv_sub hl [0, 1, 2, 3, 4] rfl)
                  · replace hf := zi_n hf c114
                    refine lv_iconst (v := 1) hx hb dX7_bestDue_117 (by decide) ?_
                    refine lv_goto (tgt := 122) hx hb dX7_bestDue_118 (by decide) ?_
                    exact J122 1 hf _ _ hP hD hS _ (lv_sub hl [0, 1, 2, 3, 4] rfl)
              refine lv_if_ne (tgt := 89) hx hb dX7_bestDue_72 (by decide) (fun c72 => ?_) (fun c72 => ?_)
              · replace hf := zi_n hf c72
                exact J89 hf _ _ hP hD hS _ (lv_sub hl [1, 2, 3, 4, 0] rfl)
              · replace hf := zi_p hf c72
                refine lv_aload_n hx hb dX7_bestDue_75 rfl (lv_at hl 1 rfl) ?_
                refine lv_iload hx hb dX7_bestDue_76 (lv_at hl 0 rfl) ?_
                replace hf := zb_s hf
                obtain ⟨r78, hr78, hf⟩ := hf
                refine z_Vi (rest := []) C0 kX7_67 (c_X7_age l D G ad (b) u y58_0 r78 hr78) z_pall z_pall.symm (ci := 8) (T := TX7) (N := 11) rfl rfl rfl ⟨Nat.le_of_ble_eq_true rfl, Nat.le_of_ble_eq_true rfl⟩ (Nat.le_of_ble_eq_true rfl) rfl hl.1 hP hD hS dX7_bestDue_78 (fun H locs hP hD hS => ?_)
                refine lv_aload_n hx hb dX7_bestDue_81 rfl (lv_at hl 1 rfl) ?_
                refine lv_iload_n hx hb dX7_bestDue_82 rfl (lv_at hl 2 rfl) ?_
                replace hf := zb_s hf
                obtain ⟨r83, hr83, hf⟩ := hf
                refine z_Vi (rest := [.int r78]) C0 kX7_67 (c_X7_age l D G ad (b) u v30.1 r83 hr83) z_pall z_pall.symm (ci := 8) (T := TX7) (N := 11) rfl rfl rfl ⟨Nat.le_of_ble_eq_true rfl, Nat.le_of_ble_eq_true rfl⟩ (Nat.le_of_ble_eq_true rfl) rfl hl.1 hP hD hS dX7_bestDue_83 (fun H locs hP hD hS => ?_)
                refine lv_icmp_gt (tgt := 117) hx hb dX7_bestDue_86 (by decide) (fun c86 => ?_) (fun c86 => ?_)
                · replace hf := zi_p hf c86
                  refine lv_iconst (v := 1) hx hb dX7_bestDue_117 (by decide) ?_
                  refine lv_goto (tgt := 122) hx hb dX7_bestDue_118 (by decide) ?_
                  exact J122 1 hf _ _ hP hD hS _ (lv_sub hl [1, 2, 3, 4, 0] rfl)
                · replace hf := zi_n hf c86
                  exact J89 hf _ _ hP hD hS _ (lv_sub hl [1, 2, 3, 4, 0] rfl)
          refine lv_icmp_ne (tgt := 55) hx hb dX7_bestDue_43 (by decide) (fun c43 => ?_) (fun c43 => ?_)
          · replace hf := zi_n hf c43
            refine lv_iload_n hx hb dX7_bestDue_55 rfl (lv_at hl 3 rfl) ?_
            refine lv_iconst (v := 1) hx hb dX7_bestDue_56 (by decide) ?_
            refine lv_isub hx hb dX7_bestDue_57 ?_
            exact J58 (v30.2 - 1) hf _ _ hP hD hS _ (lv_sub hl [0, 1, 2, 3] rfl)
          · replace hf := zi_p hf c43
            refine lv_iload_n hx hb dX7_bestDue_46 rfl (lv_at hl 2 rfl) ?_
            refine lv_iload_n hx hb dX7_bestDue_47 rfl (lv_at hl 3 rfl) ?_
            refine lv_iadd hx hb dX7_bestDue_48 ?_
            refine lv_bipush (v := 8) hx hb dX7_bestDue_49 (by decide) ?_
            refine lv_irem hx hb dX7_bestDue_51 (by decide) ?_
            refine lv_goto (tgt := 58) hx hb dX7_bestDue_52 (by decide) ?_
            exact J58 ((y27_0 + v30.2) - (y27_0 + v30.2) / 8 * 8) hf _ _ hP hD hS _ (lv_sub hl [0, 1, 2, 3] rfl)
    exact L30 _ _ hz30 _ _ hP hD hS _ (lv_sub hl [2, 3, 1, 0] rfl)
  refine lv_icmp_ne (tgt := 20) hx hb dX7_bestDue_12 (by decide) (fun c12 => ?_) (fun c12 => ?_)
  · replace hf := zi_n hf c12
    refine lv_aload_n hx hb dX7_bestDue_20 rfl (lv_at hl 1 rfl) ?_
    refine va_get (D := D) (ci := 8) (v := .ref (ad (b + 1))) (C := RX7) (T := TX7) (N := 11) hx hb hW inlX7 hown hK hP 0 rfl rfl 0 (by decide) (hW _ wd_127) (fun _ h9 => h9) rfl dX7_bestDue_21 ?_
    refine lv_bipush (v := 13) hx hb dX7_bestDue_24 (by decide) ?_
    refine z_iald (v := (u.1 13)) hx hb hK hP 1 0 rfl rfl (z_in rfl) rfl dX7_bestDue_26 ?_
    exact J27 (u.1 13) hf _ _ hP hD hS _ (lv_sub hl [1, 0] rfl)
  · replace hf := zi_p hf c12
    refine lv_bipush (v := 7) hx hb dX7_bestDue_15 (by decide) ?_
    refine lv_goto (tgt := 27) hx hb dX7_bestDue_17 (by decide) ?_
    exact J27 7 hf _ _ hP hD hS _ (lv_sub hl [1, 0] rfl)
theorem kX7_83 : zLkV RX7 83 yX7_bestDue cX7_bestDue 6 (some .int) 0 := ⟨⟨wd_449, wd_450, wd_451, wd_5, wd_452⟩, by decide +kernel⟩
noncomputable def q_X7_nextSpan (u : tX7) : Option (Int32) :=
  (if (u.1 8) ≤ 0 then zb (q_X7_bestDue u) fun r21 => some (r21) else some ((u.1 28)))
set_option maxRecDepth 100000 in
set_option maxHeartbeats 4000000 in
theorem c_X7_nextSpan (l : Launch) (D : va_G) (G : zG) (ad : Nat → Nat) (b : Nat) (u : tX7) (res : Int32) (hf : q_X7_nextSpan u = some res) : zMi l yX7_nextSpan cX7_nextSpan 1 (some .int) 3 71 D G (wX7 G ad b u) (wX7 G ad b u) [.ref (ad b)] res := by
  refine zs_i (plainFor_of_name (by decide)) (Nat.le_of_ble_eq_true rfl) ?_
  intro p e s m args below meth c A Q H ls C0 hret hP hD hS hl
  obtain ⟨hx, hb, hml, hown, hW, hK, hlocks, hF, hr, hA⟩ := id C0
  replace hl : lv_has ls 1 [(0, .ref (ad b))] := hl
  unfold q_X7_nextSpan at hf
  refine lv_aload_n hx hb dX7_nextSpan_0 rfl (lv_at hl 0 rfl) ?_
  refine va_get (D := D) (ci := 8) (v := .ref (ad (b + 1))) (C := RX7) (T := TX7) (N := 11) hx hb hW inlX7 hown hK hP 0 rfl rfl 0 (by decide) (hW _ wd_127) (fun _ h9 => h9) rfl dX7_nextSpan_1 ?_
  refine lv_bipush (v := 8) hx hb dX7_nextSpan_4 (by decide) ?_
  refine z_iald (v := (u.1 8)) hx hb hK hP 1 0 rfl rfl (z_in rfl) rfl dX7_nextSpan_6 ?_
  refine lv_if_le (tgt := 20) hx hb dX7_nextSpan_7 (by decide) (fun c7 => ?_) (fun c7 => ?_)
  · replace hf := zi_p hf c7
    refine lv_aload_n hx hb dX7_nextSpan_20 rfl (lv_at hl 0 rfl) ?_
    replace hf := zb_s hf
    obtain ⟨r21, hr21, hf⟩ := hf
    refine z_Vi (rest := []) C0 kX7_83 (c_X7_bestDue l D G ad (b) u r21 hr21) z_pall z_pall.symm (ci := 8) (T := TX7) (N := 11) rfl rfl rfl ⟨Nat.le_of_ble_eq_true rfl, Nat.le_of_ble_eq_true rfl⟩ (Nat.le_of_ble_eq_true rfl) rfl hl.1 hP hD hS dX7_nextSpan_21 (fun H locs hP hD hS => ?_)
    obtain rfl := zo hf
    exact hret _ _ _ _ _ hP hD hS rfl dX7_nextSpan_24
  · replace hf := zi_n hf c7
    refine lv_aload_n hx hb dX7_nextSpan_10 rfl (lv_at hl 0 rfl) ?_
    refine va_get (D := D) (ci := 8) (v := .ref (ad (b + 1))) (C := RX7) (T := TX7) (N := 11) hx hb hW inlX7 hown hK hP 0 rfl rfl 0 (by decide) (hW _ wd_127) (fun _ h9 => h9) rfl dX7_nextSpan_11 ?_
    refine lv_bipush (v := 28) hx hb dX7_nextSpan_14 (by decide) ?_
    refine z_iald (v := (u.1 28)) hx hb hK hP 1 0 rfl rfl (z_in rfl) rfl dX7_nextSpan_16 ?_
    refine lv_goto (tgt := 24) hx hb dX7_nextSpan_17 (by decide) ?_
    obtain rfl := zo hf
    exact hret _ _ _ _ _ hP hD hS rfl dX7_nextSpan_24
theorem kX7_86 : zLkV RX7 86 yX7_nextSpan cX7_nextSpan 1 (some .int) 0 := ⟨⟨wd_445, wd_446, wd_447, wd_5, wd_448⟩, by decide +kernel⟩
theorem kX7_93 : zLkV RX7 93 yX7_takes cX7_takes 2 (some .int) 1 := ⟨⟨wd_465, wd_466, wd_467, wd_5, wd_468⟩, by decide +kernel⟩
theorem kX7_96 : zLkV RX7 96 yX7_logs cX7_logs 4 none 2 := ⟨⟨wd_358, wd_359, wd_360, wd_5, wd_361⟩, by decide +kernel⟩
theorem kX7_89 : zLkV RX7 89 yX7_takesOut cX7_takesOut 3 none 1 := ⟨⟨wd_315, wd_316, wd_317, wd_5, wd_318⟩, by decide +kernel⟩
noncomputable def q_X7_begins_J27 (u : tX7) (r1 : Int32) (w27_0 : Nat → Int32) : Option ((Nat → Int32)) :=
  zn (upd w27_0 5 r1) fun s33 => zn (upd s33 6 0) fun s41 => zb (q_X7_takes (s41, u.2.1, u.2.2.1, u.2.2.2.1, u.2.2.2.2.1, u.2.2.2.2.2.1, u.2.2.2.2.2.2.1, u.2.2.2.2.2.2.2.1, u.2.2.2.2.2.2.2.2.1, u.2.2.2.2.2.2.2.2.2.1, u.2.2.2.2.2.2.2.2.2.2) r1) fun r50 => zn (upd s41 7 r50) fun s53 => zb (q_X7_logs (s53, u.2.1, u.2.2.1, u.2.2.2.1, u.2.2.2.2.1, u.2.2.2.2.2.1, u.2.2.2.2.2.2.1, u.2.2.2.2.2.2.2.1, u.2.2.2.2.2.2.2.2.1, u.2.2.2.2.2.2.2.2.2.1, u.2.2.2.2.2.2.2.2.2.2) 1 r1) fun r57 => some (r57)
noncomputable def q_X7_begins (u : tX7) : Option ((Nat → Int32)) :=
  zb (q_X7_nextSpan u) fun r1 => (if r1 = (-6) then some (u.1) else (if (u.1 8) ≤ 0 then q_X7_begins_J27 u r1 u.1 else zb (q_X7_takesOut u 0) fun r24 => q_X7_begins_J27 u r1 r24))
set_option maxRecDepth 100000 in
set_option maxHeartbeats 4000000 in
theorem c_X7_begins (l : Launch) (D : va_G) (G : zG) (ad : Nat → Nat) (b : Nat) (u : tX7) (res : (Nat → Int32)) (hf : q_X7_begins u = some res) : zMv l yX7_begins cX7_begins 2 none 4 91 D G (wX7 G ad b u) (wX7 G ad b (res, u.2.1, u.2.2.1, u.2.2.2.1, u.2.2.2.2.1, u.2.2.2.2.2.1, u.2.2.2.2.2.2.1, u.2.2.2.2.2.2.2.1, u.2.2.2.2.2.2.2.2.1, u.2.2.2.2.2.2.2.2.2.1, u.2.2.2.2.2.2.2.2.2.2)) [.ref (ad b)] := by
  refine zs_v (plainFor_of_name (by decide)) (Nat.le_of_ble_eq_true rfl) ?_
  intro p e s m args below meth c A Q H ls C0 hret hP hD hS hl
  obtain ⟨hx, hb, hml, hown, hW, hK, hlocks, hF, hr, hA⟩ := id C0
  replace hl : lv_has ls 2 [(0, .ref (ad b))] := hl
  unfold q_X7_begins at hf
  refine lv_aload_n hx hb dX7_begins_0 rfl (lv_at hl 0 rfl) ?_
  replace hf := zb_s hf
  obtain ⟨r1, hr1, hf⟩ := hf
  refine z_Vi (rest := []) C0 kX7_86 (c_X7_nextSpan l D G ad (b) u r1 hr1) z_pall z_pall.symm (ci := 8) (T := TX7) (N := 11) rfl rfl rfl ⟨Nat.le_of_ble_eq_true rfl, Nat.le_of_ble_eq_true rfl⟩ (Nat.le_of_ble_eq_true rfl) rfl hl.1 hP hD hS dX7_begins_1 (fun H locs hP hD hS => ?_)
  refine lv_istore_n (lv' := [(1, .int r1), (0, .ref (ad b))]) hx hb dX7_begins_4 rfl hl (by decide) rfl (fun ls hl => ?_)
  refine lv_iload_n hx hb dX7_begins_5 rfl (lv_at hl 0 rfl) ?_
  refine lv_bipush (v := (-6)) hx hb dX7_begins_6 (by decide) ?_
  refine lv_icmp_ne (tgt := 12) hx hb dX7_begins_8 (by decide) (fun c8 => ?_) (fun c8 => ?_)
  · replace hf := zi_n hf c8
    refine lv_aload_n hx hb dX7_begins_12 rfl (lv_at hl 1 rfl) ?_
    refine va_get (D := D) (ci := 8) (v := .ref (ad (b + 1))) (C := RX7) (T := TX7) (N := 11) hx hb hW inlX7 hown hK hP 0 rfl rfl 0 (by decide) (hW _ wd_127) (fun _ h9 => h9) rfl dX7_begins_13 ?_
    refine lv_bipush (v := 8) hx hb dX7_begins_16 (by decide) ?_
    refine z_iald (v := (u.1 8)) hx hb hK hP 1 0 rfl rfl (z_in rfl) rfl dX7_begins_18 ?_
    have J27 : ∀ (w27_0 : Nat → Int32) (hf : q_X7_begins_J27 u r1 w27_0 = some res) (H : Heap) (locs : List Loc) (hP : va_P D vwCl (wX7 G ad b (w27_0, u.2.1, u.2.2.1, u.2.2.2.1, u.2.2.2.2.1, u.2.2.2.2.2.1, u.2.2.2.2.2.2.1, u.2.2.2.2.2.2.2.1, u.2.2.2.2.2.2.2.2.1, u.2.2.2.2.2.2.2.2.2.1, u.2.2.2.2.2.2.2.2.2.2)) H) (hD : va_D A (wX7 G ad b (w27_0, u.2.1, u.2.2.1, u.2.2.2.1, u.2.2.2.2.1, u.2.2.2.2.2.1, u.2.2.2.2.2.2.1, u.2.2.2.2.2.2.2.1, u.2.2.2.2.2.2.2.2.1, u.2.2.2.2.2.2.2.2.2.1, u.2.2.2.2.2.2.2.2.2.2))) (hS : va_S A s.heap H locs) (ls : Array Slot) (hl : lv_has ls 2 [(0, .ref (ad b)), (1, .int r1)]), W p l e (zRm 4 91) s m args below meth c H locs 0 0 Q (F0 m 27 ls []) := by
      intro w27_0 hf H locs hP hD hS ls hl
      unfold q_X7_begins_J27 at hf
      refine lv_aload_n hx hb dX7_begins_27 rfl (lv_at hl 0 rfl) ?_
      refine va_get (D := D) (ci := 8) (v := .ref (ad (b + 1))) (C := RX7) (T := TX7) (N := 11) hx hb hW inlX7 hown hK hP 0 rfl rfl 0 (by decide) (hW _ wd_127) (fun _ h9 => h9) rfl dX7_begins_28 ?_
      refine lv_iconst (v := 5) hx hb dX7_begins_31 (by decide) ?_
      refine lv_iload_n hx hb dX7_begins_32 rfl (lv_at hl 1 rfl) ?_
      replace hf := zn_s hf
      obtain ⟨s33, es33, hf⟩ := hf
      refine z_iast (ws' := wX7 G ad b (s33, u.2.1, u.2.2.1, u.2.2.2.1, u.2.2.2.2.1, u.2.2.2.2.2.1, u.2.2.2.2.2.2.1, u.2.2.2.2.2.2.2.1, u.2.2.2.2.2.2.2.2.1, u.2.2.2.2.2.2.2.2.2.1, u.2.2.2.2.2.2.2.2.2.2)) hx hb hK hP hD hS 1 0 rfl rfl (z_in rfl) es33 rfl dX7_begins_33 (fun H locs hP hD hS => ?_)
      refine lv_aload_n hx hb dX7_begins_34 rfl (lv_at hl 0 rfl) ?_
      refine va_get (D := D) (ci := 8) (v := .ref (ad (b + 1))) (C := RX7) (T := TX7) (N := 11) hx hb hW inlX7 hown hK hP 0 rfl rfl 0 (by decide) (hW _ wd_127) (fun _ h9 => h9) rfl dX7_begins_35 ?_
      refine lv_bipush (v := 6) hx hb dX7_begins_38 (by decide) ?_
      refine lv_iconst (v := 0) hx hb dX7_begins_40 (by decide) ?_
      replace hf := zn_s hf
      obtain ⟨s41, es41, hf⟩ := hf
      refine z_iast (ws' := wX7 G ad b (s41, u.2.1, u.2.2.1, u.2.2.2.1, u.2.2.2.2.1, u.2.2.2.2.2.1, u.2.2.2.2.2.2.1, u.2.2.2.2.2.2.2.1, u.2.2.2.2.2.2.2.2.1, u.2.2.2.2.2.2.2.2.2.1, u.2.2.2.2.2.2.2.2.2.2)) hx hb hK hP hD hS 1 0 rfl rfl (z_in rfl) es41 rfl dX7_begins_41 (fun H locs hP hD hS => ?_)
      refine lv_aload_n hx hb dX7_begins_42 rfl (lv_at hl 0 rfl) ?_
      refine va_get (D := D) (ci := 8) (v := .ref (ad (b + 1))) (C := RX7) (T := TX7) (N := 11) hx hb hW inlX7 hown hK hP 0 rfl rfl 0 (by decide) (hW _ wd_127) (fun _ h9 => h9) rfl dX7_begins_43 ?_
      refine lv_bipush (v := 7) hx hb dX7_begins_46 (by decide) ?_
      refine lv_aload_n hx hb dX7_begins_48 rfl (lv_at hl 0 rfl) ?_
      refine lv_iload_n hx hb dX7_begins_49 rfl (lv_at hl 1 rfl) ?_
      replace hf := zb_s hf
      obtain ⟨r50, hr50, hf⟩ := hf
      refine z_Vi (rest := [.int 7, .ref (ad (b + 1))]) C0 kX7_93 (c_X7_takes l D G ad (b) (s41, u.2.1, u.2.2.1, u.2.2.2.1, u.2.2.2.2.1, u.2.2.2.2.2.1, u.2.2.2.2.2.2.1, u.2.2.2.2.2.2.2.1, u.2.2.2.2.2.2.2.2.1, u.2.2.2.2.2.2.2.2.2.1, u.2.2.2.2.2.2.2.2.2.2) r1 r50 hr50) z_pall z_pall.symm (ci := 8) (T := TX7) (N := 11) rfl rfl rfl ⟨Nat.le_of_ble_eq_true rfl, Nat.le_of_ble_eq_true rfl⟩ (Nat.le_of_ble_eq_true rfl) rfl hl.1 hP hD hS dX7_begins_50 (fun H locs hP hD hS => ?_)
      replace hf := zn_s hf
      obtain ⟨s53, es53, hf⟩ := hf
      refine z_iast (ws' := wX7 G ad b (s53, u.2.1, u.2.2.1, u.2.2.2.1, u.2.2.2.2.1, u.2.2.2.2.2.1, u.2.2.2.2.2.2.1, u.2.2.2.2.2.2.2.1, u.2.2.2.2.2.2.2.2.1, u.2.2.2.2.2.2.2.2.2.1, u.2.2.2.2.2.2.2.2.2.2)) hx hb hK hP hD hS 1 0 rfl rfl (z_in rfl) es53 rfl dX7_begins_53 (fun H locs hP hD hS => ?_)
      refine lv_aload_n hx hb dX7_begins_54 rfl (lv_at hl 0 rfl) ?_
      refine lv_iconst (v := 1) hx hb dX7_begins_55 (by decide) ?_
      refine lv_iload_n hx hb dX7_begins_56 rfl (lv_at hl 1 rfl) ?_
      replace hf := zb_s hf
      obtain ⟨r57, hr57, hf⟩ := hf
      refine z_Vv (rest := []) C0 kX7_96 (c_X7_logs l D G ad (b) (s53, u.2.1, u.2.2.1, u.2.2.2.1, u.2.2.2.2.1, u.2.2.2.2.2.1, u.2.2.2.2.2.2.1, u.2.2.2.2.2.2.2.1, u.2.2.2.2.2.2.2.2.1, u.2.2.2.2.2.2.2.2.2.1, u.2.2.2.2.2.2.2.2.2.2) 1 r1 r57 hr57) z_pall z_pall.symm (ci := 8) (T := TX7) (N := 11) rfl rfl rfl ⟨Nat.le_of_ble_eq_true rfl, Nat.le_of_ble_eq_true rfl⟩ (Nat.le_of_ble_eq_true rfl) rfl hl.1 hP hD hS dX7_begins_57 (fun H locs hP hD hS => ?_)
      replace hP : va_P D vwCl (wX7 G ad b (r57, u.2.1, u.2.2.1, u.2.2.2.1, u.2.2.2.2.1, u.2.2.2.2.2.1, u.2.2.2.2.2.2.1, u.2.2.2.2.2.2.2.1, u.2.2.2.2.2.2.2.2.1, u.2.2.2.2.2.2.2.2.2.1, u.2.2.2.2.2.2.2.2.2.2)) H := hP
      replace hD : va_D A (wX7 G ad b (r57, u.2.1, u.2.2.1, u.2.2.2.1, u.2.2.2.2.1, u.2.2.2.2.2.1, u.2.2.2.2.2.2.1, u.2.2.2.2.2.2.2.1, u.2.2.2.2.2.2.2.2.1, u.2.2.2.2.2.2.2.2.2.1, u.2.2.2.2.2.2.2.2.2.2)) := hD
      obtain rfl := zo hf
      exact hret _ _ _ _ hP hD hS dX7_begins_60
    refine lv_if_le (tgt := 27) hx hb dX7_begins_19 (by decide) (fun c19 => ?_) (fun c19 => ?_)
    · replace hf := zi_p hf c19
      exact J27 u.1 hf _ _ hP hD hS _ (lv_sub hl [1, 0] rfl)
    · replace hf := zi_n hf c19
      refine lv_aload_n hx hb dX7_begins_22 rfl (lv_at hl 1 rfl) ?_
      refine lv_iconst (v := 0) hx hb dX7_begins_23 (by decide) ?_
      replace hf := zb_s hf
      obtain ⟨r24, hr24, hf⟩ := hf
      refine z_Vv (rest := []) C0 kX7_89 (c_X7_takesOut l D G ad (b) u 0 r24 hr24) z_pall z_pall.symm (ci := 8) (T := TX7) (N := 11) rfl rfl rfl ⟨Nat.le_of_ble_eq_true rfl, Nat.le_of_ble_eq_true rfl⟩ (Nat.le_of_ble_eq_true rfl) rfl hl.1 hP hD hS dX7_begins_24 (fun H locs hP hD hS => ?_)
      replace hP : va_P D vwCl (wX7 G ad b (r24, u.2.1, u.2.2.1, u.2.2.2.1, u.2.2.2.2.1, u.2.2.2.2.2.1, u.2.2.2.2.2.2.1, u.2.2.2.2.2.2.2.1, u.2.2.2.2.2.2.2.2.1, u.2.2.2.2.2.2.2.2.2.1, u.2.2.2.2.2.2.2.2.2.2)) H := hP
      replace hD : va_D A (wX7 G ad b (r24, u.2.1, u.2.2.1, u.2.2.2.1, u.2.2.2.2.1, u.2.2.2.2.2.1, u.2.2.2.2.2.2.1, u.2.2.2.2.2.2.2.1, u.2.2.2.2.2.2.2.2.1, u.2.2.2.2.2.2.2.2.2.1, u.2.2.2.2.2.2.2.2.2.2)) := hD
      exact J27 r24 hf _ _ hP hD hS _ (lv_sub hl [1, 0] rfl)
  · replace hf := zi_p hf c8
    obtain rfl := zo hf
    exact hret _ _ _ _ hP hD hS dX7_begins_11
noncomputable def q_X7_stops (u : tX7) : Option ((Nat → Int32)) :=
  zn (upd u.1 5 (-6)) fun s7 => zn (upd s7 6 0) fun s15 => zn (upd s15 7 0) fun s23 => some (s23)
set_option maxRecDepth 100000 in
set_option maxHeartbeats 4000000 in
theorem c_X7_stops (l : Launch) (D : va_G) (G : zG) (ad : Nat → Nat) (b : Nat) (u : tX7) (res : (Nat → Int32)) (hf : q_X7_stops u = some res) : zMv l yX7_stops cX7_stops 1 none 0 0 D G (wX7 G ad b u) (wX7 G ad b (res, u.2.1, u.2.2.1, u.2.2.2.1, u.2.2.2.2.1, u.2.2.2.2.2.1, u.2.2.2.2.2.2.1, u.2.2.2.2.2.2.2.1, u.2.2.2.2.2.2.2.2.1, u.2.2.2.2.2.2.2.2.2.1, u.2.2.2.2.2.2.2.2.2.2)) [.ref (ad b)] := by
  refine zs_v (plainFor_of_name (by decide)) (Nat.le_of_ble_eq_true rfl) ?_
  intro p e s m args below meth c A Q H ls C0 hret hP hD hS hl
  obtain ⟨hx, hb, hml, hown, hW, hK, hlocks, hF, hr, hA⟩ := id C0
  replace hl : lv_has ls 1 [(0, .ref (ad b))] := hl
  unfold q_X7_stops at hf
  refine lv_aload_n hx hb dX7_stops_0 rfl (lv_at hl 0 rfl) ?_
  refine va_get (D := D) (ci := 8) (v := .ref (ad (b + 1))) (C := RX7) (T := TX7) (N := 11) hx hb hW inlX7 hown hK hP 0 rfl rfl 0 (by decide) (hW _ wd_127) (fun _ h9 => h9) rfl dX7_stops_1 ?_
  refine lv_iconst (v := 5) hx hb dX7_stops_4 (by decide) ?_
  refine lv_bipush (v := (-6)) hx hb dX7_stops_5 (by decide) ?_
  replace hf := zn_s hf
  obtain ⟨s7, es7, hf⟩ := hf
  refine z_iast (ws' := wX7 G ad b (s7, u.2.1, u.2.2.1, u.2.2.2.1, u.2.2.2.2.1, u.2.2.2.2.2.1, u.2.2.2.2.2.2.1, u.2.2.2.2.2.2.2.1, u.2.2.2.2.2.2.2.2.1, u.2.2.2.2.2.2.2.2.2.1, u.2.2.2.2.2.2.2.2.2.2)) hx hb hK hP hD hS 1 0 rfl rfl (z_in rfl) es7 rfl dX7_stops_7 (fun H locs hP hD hS => ?_)
  refine lv_aload_n hx hb dX7_stops_8 rfl (lv_at hl 0 rfl) ?_
  refine va_get (D := D) (ci := 8) (v := .ref (ad (b + 1))) (C := RX7) (T := TX7) (N := 11) hx hb hW inlX7 hown hK hP 0 rfl rfl 0 (by decide) (hW _ wd_127) (fun _ h9 => h9) rfl dX7_stops_9 ?_
  refine lv_bipush (v := 6) hx hb dX7_stops_12 (by decide) ?_
  refine lv_iconst (v := 0) hx hb dX7_stops_14 (by decide) ?_
  replace hf := zn_s hf
  obtain ⟨s15, es15, hf⟩ := hf
  refine z_iast (ws' := wX7 G ad b (s15, u.2.1, u.2.2.1, u.2.2.2.1, u.2.2.2.2.1, u.2.2.2.2.2.1, u.2.2.2.2.2.2.1, u.2.2.2.2.2.2.2.1, u.2.2.2.2.2.2.2.2.1, u.2.2.2.2.2.2.2.2.2.1, u.2.2.2.2.2.2.2.2.2.2)) hx hb hK hP hD hS 1 0 rfl rfl (z_in rfl) es15 rfl dX7_stops_15 (fun H locs hP hD hS => ?_)
  refine lv_aload_n hx hb dX7_stops_16 rfl (lv_at hl 0 rfl) ?_
  refine va_get (D := D) (ci := 8) (v := .ref (ad (b + 1))) (C := RX7) (T := TX7) (N := 11) hx hb hW inlX7 hown hK hP 0 rfl rfl 0 (by decide) (hW _ wd_127) (fun _ h9 => h9) rfl dX7_stops_17 ?_
  refine lv_bipush (v := 7) hx hb dX7_stops_20 (by decide) ?_
  refine lv_iconst (v := 0) hx hb dX7_stops_22 (by decide) ?_
  replace hf := zn_s hf
  obtain ⟨s23, es23, hf⟩ := hf
  refine z_iast (ws' := wX7 G ad b (s23, u.2.1, u.2.2.1, u.2.2.2.1, u.2.2.2.2.1, u.2.2.2.2.2.1, u.2.2.2.2.2.2.1, u.2.2.2.2.2.2.2.1, u.2.2.2.2.2.2.2.2.1, u.2.2.2.2.2.2.2.2.2.1, u.2.2.2.2.2.2.2.2.2.2)) hx hb hK hP hD hS 1 0 rfl rfl (z_in rfl) es23 rfl dX7_stops_23 (fun H locs hP hD hS => ?_)
  obtain rfl := zo hf
  exact hret _ _ _ _ hP hD hS dX7_stops_24
theorem kX7_100 : zLkV RX7 100 yX7_stops cX7_stops 1 none 0 := ⟨⟨wd_473, wd_474, wd_475, wd_5, wd_476⟩, by decide +kernel⟩
noncomputable def q_X7_endsCheck_L245 (r48 : (Nat → Int32)) (v245 : Int32 × (Nat → Int32)) : Option ((Int32 × (Nat → Int32)) ⊕ ((Nat → Int32))) :=
  (if (r48 2) ≤ v245.1 then some (Sum.inr (v245.2)) else zs 104 v245.2 (34 + (2 * v245.1)) 0 fun s263 => zs 104 s263 ((34 + (2 * v245.1)) + 1) 0 fun s278 => some (Sum.inl ((v245.1 + 1), s278)))
noncomputable def q_X7_endsCheck_J235 (r48 : (Nat → Int32)) (x235_2 : Int32) (w235_0 : Nat → Int32) : Option ((Nat → Int32)) :=
  zn (upd w235_0 2 x235_2) fun s241 => zb (zl 1000000 (q_X7_endsCheck_L245 r48) (x235_2, s241)) (fun b245 => some (b245))
noncomputable def q_X7_endsCheck_J225 (v63 : Int32 × Int32 × (Nat → Int32)) (s192 : Nat → Int32) (y225_2 : Int32) : Option ((Int32 × Int32 × (Nat → Int32)) ⊕ (Int32 × (Nat → Int32))) :=
  zs 104 s192 ((34 + (2 * v63.1)) + 1) y225_2 fun s225 => some (Sum.inl ((v63.1 + 1), (v63.2.1 + 1), s225))
noncomputable def q_X7_endsCheck_J151 (u : tX7) (v63 : Int32 × Int32 × (Nat → Int32)) (r72 : Int32) (r80 : Int32) (y108_0 : Int32) (y129_0 : Int32) (w151_0 : Nat → Int32) : Option ((Int32 × Int32 × (Nat → Int32)) ⊕ (Int32 × (Nat → Int32))) :=
  (if y129_0 = 0 then zs 104 w151_0 (34 + (2 * v63.1)) r72 fun s192 => (if r72 = (u.1 5) then (if y108_0 = 0 then q_X7_endsCheck_J225 v63 s192 (r80 + 1) else q_X7_endsCheck_J225 v63 s192 r80) else q_X7_endsCheck_J225 v63 s192 r80) else zn (upd w151_0 3 ((w151_0 3) - 1)) fun s165 => zn (upd s165 11 ((s165 11) + 1)) fun s176 => some (Sum.inl (v63.1, (v63.2.1 + 1), s176)))
noncomputable def q_X7_endsCheck_J147 (u : tX7) (v63 : Int32 × Int32 × (Nat → Int32)) (r72 : Int32) (r80 : Int32) (y108_0 : Int32) (y129_0 : Int32) (y147_1 : Int32) : Option ((Int32 × Int32 × (Nat → Int32)) ⊕ (Int32 × (Nat → Int32))) :=
  zb (q_X7_logs (v63.2.2, u.2.1, u.2.2.1, u.2.2.2.1, u.2.2.2.2.1, u.2.2.2.2.2.1, u.2.2.2.2.2.2.1, u.2.2.2.2.2.2.2.1, u.2.2.2.2.2.2.2.2.1, u.2.2.2.2.2.2.2.2.2.1, u.2.2.2.2.2.2.2.2.2.2) y147_1 (u.1 5)) fun r148 => q_X7_endsCheck_J151 u v63 r72 r80 y108_0 y129_0 r148
noncomputable def q_X7_endsCheck_J129 (u : tX7) (v63 : Int32 × Int32 × (Nat → Int32)) (r72 : Int32) (r80 : Int32) (y108_0 : Int32) (y129_0 : Int32) : Option ((Int32 × Int32 × (Nat → Int32)) ⊕ (Int32 × (Nat → Int32))) :=
  (if y108_0 = 0 then q_X7_endsCheck_J151 u v63 r72 r80 y108_0 y129_0 v63.2.2 else (if y129_0 = 0 then q_X7_endsCheck_J147 u v63 r72 r80 y108_0 y129_0 5 else q_X7_endsCheck_J147 u v63 r72 r80 y108_0 y129_0 4))
noncomputable def q_X7_endsCheck_J108 (u : tX7) (v63 : Int32 × Int32 × (Nat → Int32)) (r72 : Int32) (r80 : Int32) (y108_0 : Int32) : Option ((Int32 × Int32 × (Nat → Int32)) ⊕ (Int32 × (Nat → Int32))) :=
  (if y108_0 = 0 then q_X7_endsCheck_J129 u v63 r72 r80 y108_0 0 else (if (v63.2.2 3) ≤ 0 then q_X7_endsCheck_J129 u v63 r72 r80 y108_0 0 else q_X7_endsCheck_J129 u v63 r72 r80 y108_0 1))
noncomputable def q_X7_endsCheck_L63 (u : tX7) (r48 : (Nat → Int32)) (v63 : Int32 × Int32 × (Nat → Int32)) : Option ((Int32 × Int32 × (Nat → Int32)) ⊕ (Int32 × (Nat → Int32))) :=
  (if (r48 2) ≤ v63.2.1 then some (Sum.inr (v63.1, v63.2.2)) else zb (q_X7_spotSpan (v63.2.2, u.2.1, u.2.2.1, u.2.2.2.1, u.2.2.2.2.1, u.2.2.2.2.2.1, u.2.2.2.2.2.2.1, u.2.2.2.2.2.2.2.1, u.2.2.2.2.2.2.2.2.1, u.2.2.2.2.2.2.2.2.2.1, u.2.2.2.2.2.2.2.2.2.2) v63.2.1) fun r72 => zb (q_X7_spotTries (v63.2.2, u.2.1, u.2.2.1, u.2.2.2.1, u.2.2.2.2.1, u.2.2.2.2.2.1, u.2.2.2.2.2.2.1, u.2.2.2.2.2.2.2.1, u.2.2.2.2.2.2.2.2.1, u.2.2.2.2.2.2.2.2.2.1, u.2.2.2.2.2.2.2.2.2.2) v63.2.1) fun r80 => (if r72 = (u.1 5) then (if r80 < (v63.2.2 18) then q_X7_endsCheck_J108 u v63 r72 r80 0 else q_X7_endsCheck_J108 u v63 r72 r80 1) else q_X7_endsCheck_J108 u v63 r72 r80 0))
noncomputable def q_X7_endsCheck (u : tX7) : Option ((Nat → Int32)) :=
  zb (q_X7_stops u) fun r8 => zs 104 r8 (20 + (u.1 5)) (r8 0) fun s25 => zn (upd s25 13 (u.1 5)) fun s33 => zn (upd s33 9 ((s33 9) + 1)) fun s44 => zb (q_X7_logs (s44, u.2.1, u.2.2.1, u.2.2.2.1, u.2.2.2.2.1, u.2.2.2.2.2.1, u.2.2.2.2.2.2.1, u.2.2.2.2.2.2.2.1, u.2.2.2.2.2.2.2.2.1, u.2.2.2.2.2.2.2.2.2.1, u.2.2.2.2.2.2.2.2.2.2) 3 (u.1 5)) fun r48 => zb (zl 1000000 (q_X7_endsCheck_L63 u r48) (0, 0, r48)) (fun b63 => q_X7_endsCheck_J235 r48 b63.1 b63.2)
set_option maxRecDepth 100000 in
set_option maxHeartbeats 4000000 in
theorem c_X7_endsCheck (l : Launch) (D : va_G) (G : zG) (ad : Nat → Nat) (b : Nat) (u : tX7) (res : (Nat → Int32)) (hf : q_X7_endsCheck u = some res) : zMv l yX7_endsCheck cX7_endsCheck 9 none 1 23 D G (wX7 G ad b u) (wX7 G ad b (res, u.2.1, u.2.2.1, u.2.2.2.1, u.2.2.2.2.1, u.2.2.2.2.2.1, u.2.2.2.2.2.2.1, u.2.2.2.2.2.2.2.1, u.2.2.2.2.2.2.2.2.1, u.2.2.2.2.2.2.2.2.2.1, u.2.2.2.2.2.2.2.2.2.2)) [.ref (ad b)] := by
  refine zs_v (plainFor_of_name (by decide)) (Nat.le_of_ble_eq_true rfl) ?_
  intro p e s m args below meth c A Q H ls C0 hret hP hD hS hl
  obtain ⟨hx, hb, hml, hown, hW, hK, hlocks, hF, hr, hA⟩ := id C0
  replace hl : lv_has ls 9 [(0, .ref (ad b))] := hl
  unfold q_X7_endsCheck at hf
  refine lv_aload_n hx hb dX7_endsCheck_0 rfl (lv_at hl 0 rfl) ?_
  refine va_get (D := D) (ci := 8) (v := .ref (ad (b + 1))) (C := RX7) (T := TX7) (N := 11) hx hb hW inlX7 hown hK hP 0 rfl rfl 0 (by decide) (hW _ wd_127) (fun _ h9 => h9) rfl dX7_endsCheck_1 ?_
  refine lv_iconst (v := 5) hx hb dX7_endsCheck_4 (by decide) ?_
  refine z_iald (v := (u.1 5)) hx hb hK hP 1 0 rfl rfl (z_in rfl) rfl dX7_endsCheck_5 ?_
  refine lv_istore_n (lv' := [(1, .int (u.1 5)), (0, .ref (ad b))]) hx hb dX7_endsCheck_6 rfl hl (by decide) rfl (fun ls hl => ?_)
  refine lv_aload_n hx hb dX7_endsCheck_7 rfl (lv_at hl 1 rfl) ?_
  replace hf := zb_s hf
  obtain ⟨r8, hr8, hf⟩ := hf
  refine z_Vv (rest := []) C0 kX7_100 (c_X7_stops l D G ad (b) u r8 hr8) z_pall z_pall.symm (ci := 8) (T := TX7) (N := 11) rfl rfl rfl ⟨Nat.le_of_ble_eq_true rfl, Nat.le_of_ble_eq_true rfl⟩ (Nat.le_of_ble_eq_true rfl) rfl hl.1 hP hD hS dX7_endsCheck_8 (fun H locs hP hD hS => ?_)
  replace hP : va_P D vwCl (wX7 G ad b (r8, u.2.1, u.2.2.1, u.2.2.2.1, u.2.2.2.2.1, u.2.2.2.2.2.1, u.2.2.2.2.2.2.1, u.2.2.2.2.2.2.2.1, u.2.2.2.2.2.2.2.2.1, u.2.2.2.2.2.2.2.2.2.1, u.2.2.2.2.2.2.2.2.2.2)) H := hP
  replace hD : va_D A (wX7 G ad b (r8, u.2.1, u.2.2.1, u.2.2.2.1, u.2.2.2.2.1, u.2.2.2.2.2.1, u.2.2.2.2.2.2.1, u.2.2.2.2.2.2.2.1, u.2.2.2.2.2.2.2.2.1, u.2.2.2.2.2.2.2.2.2.1, u.2.2.2.2.2.2.2.2.2.2)) := hD
  refine lv_aload_n hx hb dX7_endsCheck_11 rfl (lv_at hl 1 rfl) ?_
  refine va_get (D := D) (ci := 8) (v := .ref (ad (b + 1))) (C := RX7) (T := TX7) (N := 11) hx hb hW inlX7 hown hK hP 0 rfl rfl 0 (by decide) (hW _ wd_127) (fun _ h9 => h9) rfl dX7_endsCheck_12 ?_
  refine lv_bipush (v := 20) hx hb dX7_endsCheck_15 (by decide) ?_
  refine lv_iload_n hx hb dX7_endsCheck_17 rfl (lv_at hl 0 rfl) ?_
  refine lv_iadd hx hb dX7_endsCheck_18 ?_
  refine lv_aload_n hx hb dX7_endsCheck_19 rfl (lv_at hl 1 rfl) ?_
  refine va_get (D := D) (ci := 8) (v := .ref (ad (b + 1))) (C := RX7) (T := TX7) (N := 11) hx hb hW inlX7 hown hK hP 0 rfl rfl 0 (by decide) (hW _ wd_127) (fun _ h9 => h9) rfl dX7_endsCheck_20 ?_
  refine lv_iconst (v := 0) hx hb dX7_endsCheck_23 (by decide) ?_
  refine z_iald (v := (r8 0)) hx hb hK hP 1 0 rfl rfl (z_in rfl) rfl dX7_endsCheck_24 ?_
  replace hf := zs_s hf
  obtain ⟨hi25, s25, es25, hf⟩ := hf
  refine z_iast (ws' := wX7 G ad b (s25, u.2.1, u.2.2.1, u.2.2.2.1, u.2.2.2.2.1, u.2.2.2.2.2.1, u.2.2.2.2.2.2.1, u.2.2.2.2.2.2.2.1, u.2.2.2.2.2.2.2.2.1, u.2.2.2.2.2.2.2.2.2.1, u.2.2.2.2.2.2.2.2.2.2)) hx hb hK hP hD hS 1 0 rfl rfl hi25 es25 rfl dX7_endsCheck_25 (fun H locs hP hD hS => ?_)
  refine lv_aload_n hx hb dX7_endsCheck_26 rfl (lv_at hl 1 rfl) ?_
  refine va_get (D := D) (ci := 8) (v := .ref (ad (b + 1))) (C := RX7) (T := TX7) (N := 11) hx hb hW inlX7 hown hK hP 0 rfl rfl 0 (by decide) (hW _ wd_127) (fun _ h9 => h9) rfl dX7_endsCheck_27 ?_
  refine lv_bipush (v := 13) hx hb dX7_endsCheck_30 (by decide) ?_
  refine lv_iload_n hx hb dX7_endsCheck_32 rfl (lv_at hl 0 rfl) ?_
  replace hf := zn_s hf
  obtain ⟨s33, es33, hf⟩ := hf
  refine z_iast (ws' := wX7 G ad b (s33, u.2.1, u.2.2.1, u.2.2.2.1, u.2.2.2.2.1, u.2.2.2.2.2.1, u.2.2.2.2.2.2.1, u.2.2.2.2.2.2.2.1, u.2.2.2.2.2.2.2.2.1, u.2.2.2.2.2.2.2.2.2.1, u.2.2.2.2.2.2.2.2.2.2)) hx hb hK hP hD hS 1 0 rfl rfl (z_in rfl) es33 rfl dX7_endsCheck_33 (fun H locs hP hD hS => ?_)
  refine lv_aload_n hx hb dX7_endsCheck_34 rfl (lv_at hl 1 rfl) ?_
  refine va_get (D := D) (ci := 8) (v := .ref (ad (b + 1))) (C := RX7) (T := TX7) (N := 11) hx hb hW inlX7 hown hK hP 0 rfl rfl 0 (by decide) (hW _ wd_127) (fun _ h9 => h9) rfl dX7_endsCheck_35 ?_
  refine lv_bipush (v := 9) hx hb dX7_endsCheck_38 (by decide) ?_
  refine lv_dup2_11 hx hb dX7_endsCheck_40 rfl rfl ?_
  refine z_iald (v := (s33 9)) hx hb hK hP 1 0 rfl rfl (z_in rfl) rfl dX7_endsCheck_41 ?_
  refine lv_iconst (v := 1) hx hb dX7_endsCheck_42 (by decide) ?_
  refine lv_iadd hx hb dX7_endsCheck_43 ?_
  replace hf := zn_s hf
  obtain ⟨s44, es44, hf⟩ := hf
  refine z_iast (ws' := wX7 G ad b (s44, u.2.1, u.2.2.1, u.2.2.2.1, u.2.2.2.2.1, u.2.2.2.2.2.1, u.2.2.2.2.2.2.1, u.2.2.2.2.2.2.2.1, u.2.2.2.2.2.2.2.2.1, u.2.2.2.2.2.2.2.2.2.1, u.2.2.2.2.2.2.2.2.2.2)) hx hb hK hP hD hS 1 0 rfl rfl (z_in rfl) es44 rfl dX7_endsCheck_44 (fun H locs hP hD hS => ?_)
  refine lv_aload_n hx hb dX7_endsCheck_45 rfl (lv_at hl 1 rfl) ?_
  refine lv_iconst (v := 3) hx hb dX7_endsCheck_46 (by decide) ?_
  refine lv_iload_n hx hb dX7_endsCheck_47 rfl (lv_at hl 0 rfl) ?_
  replace hf := zb_s hf
  obtain ⟨r48, hr48, hf⟩ := hf
  refine z_Vv (rest := []) C0 kX7_96 (c_X7_logs l D G ad (b) (s44, u.2.1, u.2.2.1, u.2.2.2.1, u.2.2.2.2.1, u.2.2.2.2.2.1, u.2.2.2.2.2.2.1, u.2.2.2.2.2.2.2.1, u.2.2.2.2.2.2.2.2.1, u.2.2.2.2.2.2.2.2.2.1, u.2.2.2.2.2.2.2.2.2.2) 3 (u.1 5) r48 hr48) z_pall z_pall.symm (ci := 8) (T := TX7) (N := 11) rfl rfl rfl ⟨Nat.le_of_ble_eq_true rfl, Nat.le_of_ble_eq_true rfl⟩ (Nat.le_of_ble_eq_true rfl) rfl hl.1 hP hD hS dX7_endsCheck_48 (fun H locs hP hD hS => ?_)
  replace hP : va_P D vwCl (wX7 G ad b (r48, u.2.1, u.2.2.1, u.2.2.2.1, u.2.2.2.2.1, u.2.2.2.2.2.1, u.2.2.2.2.2.2.1, u.2.2.2.2.2.2.2.1, u.2.2.2.2.2.2.2.2.1, u.2.2.2.2.2.2.2.2.2.1, u.2.2.2.2.2.2.2.2.2.2)) H := hP
  replace hD : va_D A (wX7 G ad b (r48, u.2.1, u.2.2.1, u.2.2.2.1, u.2.2.2.2.1, u.2.2.2.2.2.1, u.2.2.2.2.2.2.1, u.2.2.2.2.2.2.2.1, u.2.2.2.2.2.2.2.2.1, u.2.2.2.2.2.2.2.2.2.1, u.2.2.2.2.2.2.2.2.2.2)) := hD
  refine lv_iconst (v := 0) hx hb dX7_endsCheck_51 (by decide) ?_
  refine lv_istore_n (lv' := [(2, .int 0), (1, .int (u.1 5)), (0, .ref (ad b))]) hx hb dX7_endsCheck_52 rfl hl (by decide) rfl (fun ls hl => ?_)
  refine lv_aload_n hx hb dX7_endsCheck_53 rfl (lv_at hl 2 rfl) ?_
  refine va_get (D := D) (ci := 8) (v := .ref (ad (b + 1))) (C := RX7) (T := TX7) (N := 11) hx hb hW inlX7 hown hK hP 0 rfl rfl 0 (by decide) (hW _ wd_127) (fun _ h9 => h9) rfl dX7_endsCheck_54 ?_
  refine lv_iconst (v := 2) hx hb dX7_endsCheck_57 (by decide) ?_
  refine z_iald (v := (r48 2)) hx hb hK hP 1 0 rfl rfl (z_in rfl) rfl dX7_endsCheck_58 ?_
  refine lv_istore_n (lv' := [(3, .int (r48 2)), (2, .int 0), (1, .int (u.1 5)), (0, .ref (ad b))]) hx hb dX7_endsCheck_59 rfl hl (by decide) rfl (fun ls hl => ?_)
  refine lv_iconst (v := 0) hx hb dX7_endsCheck_60 (by decide) ?_
  refine lv_istore (lv' := [(4, .int 0), (3, .int (r48 2)), (2, .int 0), (1, .int (u.1 5)), (0, .ref (ad b))]) hx hb dX7_endsCheck_61 hl (by decide) rfl (fun ls hl => ?_)
  have J235 : ∀ (x235_2 : Int32) (w235_0 : Nat → Int32) (hf : q_X7_endsCheck_J235 r48 x235_2 w235_0 = some res) (H : Heap) (locs : List Loc) (hP : va_P D vwCl (wX7 G ad b (w235_0, u.2.1, u.2.2.1, u.2.2.2.1, u.2.2.2.2.1, u.2.2.2.2.2.1, u.2.2.2.2.2.2.1, u.2.2.2.2.2.2.2.1, u.2.2.2.2.2.2.2.2.1, u.2.2.2.2.2.2.2.2.2.1, u.2.2.2.2.2.2.2.2.2.2)) H) (hD : va_D A (wX7 G ad b (w235_0, u.2.1, u.2.2.1, u.2.2.2.1, u.2.2.2.2.1, u.2.2.2.2.2.1, u.2.2.2.2.2.2.1, u.2.2.2.2.2.2.2.1, u.2.2.2.2.2.2.2.2.1, u.2.2.2.2.2.2.2.2.2.1, u.2.2.2.2.2.2.2.2.2.2))) (hS : va_S A s.heap H locs) (ls : Array Slot) (hl : lv_has ls 9 [(0, .ref (ad b)), (2, .int x235_2), (3, .int (r48 2))]), W p l e (zRm 1 23) s m args below meth c H locs 0 0 Q (F0 m 235 ls []) := by
    intro x235_2 w235_0 hf H locs hP hD hS ls hl
    unfold q_X7_endsCheck_J235 at hf
    refine lv_aload_n hx hb dX7_endsCheck_235 rfl (lv_at hl 0 rfl) ?_
    refine va_get (D := D) (ci := 8) (v := .ref (ad (b + 1))) (C := RX7) (T := TX7) (N := 11) hx hb hW inlX7 hown hK hP 0 rfl rfl 0 (by decide) (hW _ wd_127) (fun _ h9 => h9) rfl dX7_endsCheck_236 ?_
    refine lv_iconst (v := 2) hx hb dX7_endsCheck_239 (by decide) ?_
    refine lv_iload_n hx hb dX7_endsCheck_240 rfl (lv_at hl 1 rfl) ?_
    replace hf := zn_s hf
    obtain ⟨s241, es241, hf⟩ := hf
    refine z_iast (ws' := wX7 G ad b (s241, u.2.1, u.2.2.1, u.2.2.2.1, u.2.2.2.2.1, u.2.2.2.2.2.1, u.2.2.2.2.2.2.1, u.2.2.2.2.2.2.2.1, u.2.2.2.2.2.2.2.2.1, u.2.2.2.2.2.2.2.2.2.1, u.2.2.2.2.2.2.2.2.2.2)) hx hb hK hP hD hS 1 0 rfl rfl (z_in rfl) es241 rfl dX7_endsCheck_241 (fun H locs hP hD hS => ?_)
    refine lv_iload_n hx hb dX7_endsCheck_242 rfl (lv_at hl 1 rfl) ?_
    refine lv_istore (lv' := [(4, .int x235_2), (0, .ref (ad b)), (2, .int x235_2), (3, .int (r48 2))]) hx hb dX7_endsCheck_243 hl (by decide) rfl (fun ls hl => ?_)
    replace hf := zb_s hf
    obtain ⟨b245, hz245, hk245⟩ := hf
    have L245 : ∀ (n245 : Nat) (v245 : Int32 × (Nat → Int32)) (hz245 : zl n245 (q_X7_endsCheck_L245 r48) v245 = some b245) (H : Heap) (locs : List Loc) (hP : va_P D vwCl (wX7 G ad b (v245.2, u.2.1, u.2.2.1, u.2.2.2.1, u.2.2.2.2.1, u.2.2.2.2.2.1, u.2.2.2.2.2.2.1, u.2.2.2.2.2.2.2.1, u.2.2.2.2.2.2.2.2.1, u.2.2.2.2.2.2.2.2.2.1, u.2.2.2.2.2.2.2.2.2.2)) H) (hD : va_D A (wX7 G ad b (v245.2, u.2.1, u.2.2.1, u.2.2.2.1, u.2.2.2.2.1, u.2.2.2.2.2.1, u.2.2.2.2.2.2.1, u.2.2.2.2.2.2.2.1, u.2.2.2.2.2.2.2.2.1, u.2.2.2.2.2.2.2.2.2.1, u.2.2.2.2.2.2.2.2.2.2))) (hS : va_S A s.heap H locs) (ls : Array Slot) (hl : lv_has ls 9 [(0, .ref (ad b)), (3, .int (r48 2)), (4, .int v245.1)]), W p l e (zRm 1 23) s m args below meth c H locs 0 0 Q (F0 m 245 ls []) := by
      intro n245
      induction n245 with
      | zero => intro v245 hz245; exact (zl_0 hz245).elim
      | succ n245 ih245 =>
        intro v245 hz245 H locs hP hD hS ls hl
        obtain ⟨o245, hf, hz245⟩ := zl_s hz245
        unfold q_X7_endsCheck_L245 at hf
        refine lv_iload hx hb dX7_endsCheck_245 (lv_at hl 2 rfl) ?_
        refine lv_iload_n hx hb dX7_endsCheck_247 rfl (lv_at hl 1 rfl) ?_
        refine lv_icmp_ge (tgt := 285) hx hb dX7_endsCheck_248 (by decide) (fun c248 => ?_) (fun c248 => ?_)
        · replace hf := zi_p hf c248
          have hb245 := zk_r hf hz245
          subst hb245
          replace hf := hk245
          obtain rfl := zo hf
          exact hret _ _ _ _ hP hD hS dX7_endsCheck_285
        · replace hf := zi_n hf c248
          refine lv_aload_n hx hb dX7_endsCheck_251 rfl (lv_at hl 0 rfl) ?_
          refine va_get (D := D) (ci := 8) (v := .ref (ad (b + 1))) (C := RX7) (T := TX7) (N := 11) hx hb hW inlX7 hown hK hP 0 rfl rfl 0 (by decide) (hW _ wd_127) (fun _ h9 => h9) rfl dX7_endsCheck_252 ?_
          refine lv_bipush (v := 34) hx hb dX7_endsCheck_255 (by decide) ?_
          refine lv_iconst (v := 2) hx hb dX7_endsCheck_257 (by decide) ?_
          refine lv_iload hx hb dX7_endsCheck_258 (lv_at hl 2 rfl) ?_
          refine lv_imul hx hb dX7_endsCheck_260 ?_
          refine lv_iadd hx hb dX7_endsCheck_261 ?_
          refine lv_iconst (v := 0) hx hb dX7_endsCheck_262 (by decide) ?_
          replace hf := zs_s hf
          obtain ⟨hi263, s263, es263, hf⟩ := hf
          refine z_iast (ws' := wX7 G ad b (s263, u.2.1, u.2.2.1, u.2.2.2.1, u.2.2.2.2.1, u.2.2.2.2.2.1, u.2.2.2.2.2.2.1, u.2.2.2.2.2.2.2.1, u.2.2.2.2.2.2.2.2.1, u.2.2.2.2.2.2.2.2.2.1, u.2.2.2.2.2.2.2.2.2.2)) hx hb hK hP hD hS 1 0 rfl rfl hi263 es263 rfl dX7_endsCheck_263 (fun H locs hP hD hS => ?_)
          refine lv_aload_n hx hb dX7_endsCheck_264 rfl (lv_at hl 0 rfl) ?_
          refine va_get (D := D) (ci := 8) (v := .ref (ad (b + 1))) (C := RX7) (T := TX7) (N := 11) hx hb hW inlX7 hown hK hP 0 rfl rfl 0 (by decide) (hW _ wd_127) (fun _ h9 => h9) rfl dX7_endsCheck_265 ?_
          refine lv_bipush (v := 34) hx hb dX7_endsCheck_268 (by decide) ?_
          refine lv_iconst (v := 2) hx hb dX7_endsCheck_270 (by decide) ?_
          refine lv_iload hx hb dX7_endsCheck_271 (lv_at hl 2 rfl) ?_
          refine lv_imul hx hb dX7_endsCheck_273 ?_
          refine lv_iadd hx hb dX7_endsCheck_274 ?_
          refine lv_iconst (v := 1) hx hb dX7_endsCheck_275 (by decide) ?_
          refine lv_iadd hx hb dX7_endsCheck_276 ?_
          refine lv_iconst (v := 0) hx hb dX7_endsCheck_277 (by decide) ?_
          replace hf := zs_s hf
          obtain ⟨hi278, s278, es278, hf⟩ := hf
          refine z_iast (ws' := wX7 G ad b (s278, u.2.1, u.2.2.1, u.2.2.2.1, u.2.2.2.2.1, u.2.2.2.2.2.1, u.2.2.2.2.2.2.1, u.2.2.2.2.2.2.2.1, u.2.2.2.2.2.2.2.2.1, u.2.2.2.2.2.2.2.2.2.1, u.2.2.2.2.2.2.2.2.2.2)) hx hb hK hP hD hS 1 0 rfl rfl hi278 es278 rfl dX7_endsCheck_278 (fun H locs hP hD hS => ?_)
          refine lv_iinc (v := (v245.1 + 1)) (lv' := [(4, .int (v245.1 + 1)), (0, .ref (ad b)), (3, .int (r48 2))]) hx hb dX7_endsCheck_279 hl (k := 2) rfl rfl (by decide) rfl (fun ls hl => ?_)
          refine lv_goto (tgt := 245) hx hb dX7_endsCheck_282 (by decide) ?_
          exact ih245 _ (zk_l hf hz245) _ _ hP hD hS _ (lv_sub hl [1, 2, 0] rfl)
    exact L245 _ _ hz245 _ _ hP hD hS _ (lv_sub hl [1, 3, 0] rfl)
  replace hf := zb_s hf
  obtain ⟨b63, hz63, hk63⟩ := hf
  have L63 : ∀ (n63 : Nat) (v63 : Int32 × Int32 × (Nat → Int32)) (hz63 : zl n63 (q_X7_endsCheck_L63 u r48) v63 = some b63) (H : Heap) (locs : List Loc) (hP : va_P D vwCl (wX7 G ad b (v63.2.2, u.2.1, u.2.2.1, u.2.2.2.1, u.2.2.2.2.1, u.2.2.2.2.2.1, u.2.2.2.2.2.2.1, u.2.2.2.2.2.2.2.1, u.2.2.2.2.2.2.2.2.1, u.2.2.2.2.2.2.2.2.2.1, u.2.2.2.2.2.2.2.2.2.2)) H) (hD : va_D A (wX7 G ad b (v63.2.2, u.2.1, u.2.2.1, u.2.2.2.1, u.2.2.2.2.1, u.2.2.2.2.2.1, u.2.2.2.2.2.2.1, u.2.2.2.2.2.2.2.1, u.2.2.2.2.2.2.2.2.1, u.2.2.2.2.2.2.2.2.2.1, u.2.2.2.2.2.2.2.2.2.2))) (hS : va_S A s.heap H locs) (ls : Array Slot) (hl : lv_has ls 9 [(0, .ref (ad b)), (1, .int (u.1 5)), (2, .int v63.1), (3, .int (r48 2)), (4, .int v63.2.1)]), W p l e (zRm 1 23) s m args below meth c H locs 0 0 Q (F0 m 63 ls []) := by
    intro n63
    induction n63 with
    | zero => intro v63 hz63; exact (zl_0 hz63).elim
    | succ n63 ih63 =>
      intro v63 hz63 H locs hP hD hS ls hl
      obtain ⟨o63, hf, hz63⟩ := zl_s hz63
      unfold q_X7_endsCheck_L63 at hf
      refine lv_iload hx hb dX7_endsCheck_63 (lv_at hl 4 rfl) ?_
      refine lv_iload_n hx hb dX7_endsCheck_65 rfl (lv_at hl 3 rfl) ?_
      refine lv_icmp_ge (tgt := 235) hx hb dX7_endsCheck_66 (by decide) (fun c66 => ?_) (fun c66 => ?_)
      · replace hf := zi_p hf c66
        have hb63 := zk_r hf hz63
        subst hb63
        replace hf := hk63
        exact J235 v63.1 v63.2.2 hf _ _ hP hD hS _ (lv_sub hl [0, 2, 3] rfl)
      · replace hf := zi_n hf c66
        refine lv_aload_n hx hb dX7_endsCheck_69 rfl (lv_at hl 0 rfl) ?_
        refine lv_iload hx hb dX7_endsCheck_70 (lv_at hl 4 rfl) ?_
        replace hf := zb_s hf
        obtain ⟨r72, hr72, hf⟩ := hf
        refine z_Vi (rest := []) C0 kX7_73 (c_X7_spotSpan l D G ad (b) (v63.2.2, u.2.1, u.2.2.1, u.2.2.2.1, u.2.2.2.2.1, u.2.2.2.2.2.1, u.2.2.2.2.2.2.1, u.2.2.2.2.2.2.2.1, u.2.2.2.2.2.2.2.2.1, u.2.2.2.2.2.2.2.2.2.1, u.2.2.2.2.2.2.2.2.2.2) v63.2.1 r72 hr72) z_pall z_pall.symm (ci := 8) (T := TX7) (N := 11) rfl rfl rfl ⟨Nat.le_of_ble_eq_true rfl, Nat.le_of_ble_eq_true rfl⟩ (Nat.le_of_ble_eq_true rfl) rfl hl.1 hP hD hS dX7_endsCheck_72 (fun H locs hP hD hS => ?_)
        refine lv_istore (lv' := [(5, .int r72), (0, .ref (ad b)), (1, .int (u.1 5)), (2, .int v63.1), (3, .int (r48 2)), (4, .int v63.2.1)]) hx hb dX7_endsCheck_75 hl (by decide) rfl (fun ls hl => ?_)
        refine lv_aload_n hx hb dX7_endsCheck_77 rfl (lv_at hl 1 rfl) ?_
        refine lv_iload hx hb dX7_endsCheck_78 (lv_at hl 5 rfl) ?_
        replace hf := zb_s hf
        obtain ⟨r80, hr80, hf⟩ := hf
        refine z_Vi (rest := []) C0 kX7_70 (c_X7_spotTries l D G ad (b) (v63.2.2, u.2.1, u.2.2.1, u.2.2.2.1, u.2.2.2.2.1, u.2.2.2.2.2.1, u.2.2.2.2.2.2.1, u.2.2.2.2.2.2.2.1, u.2.2.2.2.2.2.2.2.1, u.2.2.2.2.2.2.2.2.2.1, u.2.2.2.2.2.2.2.2.2.2) v63.2.1 r80 hr80) z_pall z_pall.symm (ci := 8) (T := TX7) (N := 11) rfl rfl rfl ⟨Nat.le_of_ble_eq_true rfl, Nat.le_of_ble_eq_true rfl⟩ (Nat.le_of_ble_eq_true rfl) rfl hl.1 hP hD hS dX7_endsCheck_80 (fun H locs hP hD hS => ?_)
        refine lv_istore (lv' := [(6, .int r80), (5, .int r72), (0, .ref (ad b)), (1, .int (u.1 5)), (2, .int v63.1), (3, .int (r48 2)), (4, .int v63.2.1)]) hx hb dX7_endsCheck_83 hl (by decide) rfl (fun ls hl => ?_)
        refine lv_iload hx hb dX7_endsCheck_85 (lv_at hl 1 rfl) ?_
        refine lv_iload_n hx hb dX7_endsCheck_87 rfl (lv_at hl 3 rfl) ?_
        have J108 : ∀ (y108_0 : Int32) (hf : q_X7_endsCheck_J108 u v63 r72 r80 y108_0 = some o63) (H : Heap) (locs : List Loc) (hP : va_P D vwCl (wX7 G ad b (v63.2.2, u.2.1, u.2.2.1, u.2.2.2.1, u.2.2.2.2.1, u.2.2.2.2.2.1, u.2.2.2.2.2.2.1, u.2.2.2.2.2.2.2.1, u.2.2.2.2.2.2.2.2.1, u.2.2.2.2.2.2.2.2.2.1, u.2.2.2.2.2.2.2.2.2.2)) H) (hD : va_D A (wX7 G ad b (v63.2.2, u.2.1, u.2.2.1, u.2.2.2.1, u.2.2.2.2.1, u.2.2.2.2.2.1, u.2.2.2.2.2.2.1, u.2.2.2.2.2.2.2.1, u.2.2.2.2.2.2.2.2.1, u.2.2.2.2.2.2.2.2.2.1, u.2.2.2.2.2.2.2.2.2.2))) (hS : va_S A s.heap H locs) (ls : Array Slot) (hl : lv_has ls 9 [(0, .ref (ad b)), (1, .int (u.1 5)), (2, .int v63.1), (3, .int (r48 2)), (4, .int v63.2.1), (5, .int r72), (6, .int r80)]), W p l e (zRm 1 23) s m args below meth c H locs 0 0 Q (F0 m 108 ls [.int y108_0]) := by
          intro y108_0 hf H locs hP hD hS ls hl
          unfold q_X7_endsCheck_J108 at hf
          refine lv_istore (lv' := [(7, .int y108_0), (0, .ref (ad b)), (1, .int (u.1 5)), (2, .int v63.1), (3, .int (r48 2)), (4, .int v63.2.1), (5, .int r72), (6, .int r80)]) hx hb dX7_endsCheck_108 hl (by decide) rfl (fun ls hl => ?_)
          refine lv_iload hx hb dX7_endsCheck_110 (lv_at hl 0 rfl) ?_
          have J129 : ∀ (y129_0 : Int32) (hf : q_X7_endsCheck_J129 u v63 r72 r80 y108_0 y129_0 = some o63) (H : Heap) (locs : List Loc) (hP : va_P D vwCl (wX7 G ad b (v63.2.2, u.2.1, u.2.2.1, u.2.2.2.1, u.2.2.2.2.1, u.2.2.2.2.2.1, u.2.2.2.2.2.2.1, u.2.2.2.2.2.2.2.1, u.2.2.2.2.2.2.2.2.1, u.2.2.2.2.2.2.2.2.2.1, u.2.2.2.2.2.2.2.2.2.2)) H) (hD : va_D A (wX7 G ad b (v63.2.2, u.2.1, u.2.2.1, u.2.2.2.1, u.2.2.2.2.1, u.2.2.2.2.2.1, u.2.2.2.2.2.2.1, u.2.2.2.2.2.2.2.1, u.2.2.2.2.2.2.2.2.1, u.2.2.2.2.2.2.2.2.2.1, u.2.2.2.2.2.2.2.2.2.2))) (hS : va_S A s.heap H locs) (ls : Array Slot) (hl : lv_has ls 9 [(0, .ref (ad b)), (1, .int (u.1 5)), (2, .int v63.1), (3, .int (r48 2)), (4, .int v63.2.1), (5, .int r72), (6, .int r80), (7, .int y108_0)]), W p l e (zRm 1 23) s m args below meth c H locs 0 0 Q (F0 m 129 ls [.int y129_0]) := by
            intro y129_0 hf H locs hP hD hS ls hl
            unfold q_X7_endsCheck_J129 at hf
            refine lv_istore (lv' := [(8, .int y129_0), (0, .ref (ad b)), (1, .int (u.1 5)), (2, .int v63.1), (3, .int (r48 2)), (4, .int v63.2.1), (5, .int r72), (6, .int r80), (7, .int y108_0)]) hx hb dX7_endsCheck_129 hl (by decide) rfl (fun ls hl => ?_)
            refine lv_iload hx hb dX7_endsCheck_131 (lv_at hl 8 rfl) ?_
            have J151 : ∀ (w151_0 : Nat → Int32) (hf : q_X7_endsCheck_J151 u v63 r72 r80 y108_0 y129_0 w151_0 = some o63) (H : Heap) (locs : List Loc) (hP : va_P D vwCl (wX7 G ad b (w151_0, u.2.1, u.2.2.1, u.2.2.2.1, u.2.2.2.2.1, u.2.2.2.2.2.1, u.2.2.2.2.2.2.1, u.2.2.2.2.2.2.2.1, u.2.2.2.2.2.2.2.2.1, u.2.2.2.2.2.2.2.2.2.1, u.2.2.2.2.2.2.2.2.2.2)) H) (hD : va_D A (wX7 G ad b (w151_0, u.2.1, u.2.2.1, u.2.2.2.1, u.2.2.2.2.1, u.2.2.2.2.2.1, u.2.2.2.2.2.2.1, u.2.2.2.2.2.2.2.1, u.2.2.2.2.2.2.2.2.1, u.2.2.2.2.2.2.2.2.2.1, u.2.2.2.2.2.2.2.2.2.2))) (hS : va_S A s.heap H locs) (ls : Array Slot) (hl : lv_has ls 9 [(0, .ref (ad b)), (1, .int (u.1 5)), (2, .int v63.1), (3, .int (r48 2)), (4, .int v63.2.1), (5, .int r72), (6, .int r80), (7, .int y108_0), (8, .int y129_0)]), W p l e (zRm 1 23) s m args below meth c H locs 0 0 Q (F0 m 151 ls []) := by
              intro w151_0 hf H locs hP hD hS ls hl
              unfold q_X7_endsCheck_J151 at hf
              refine lv_iload hx hb dX7_endsCheck_151 (lv_at hl 8 rfl) ?_
              refine lv_if_eq (tgt := 180) hx hb dX7_endsCheck_153 (by decide) (fun c153 => ?_) (fun c153 => ?_)
              · replace hf := zi_p hf c153
                refine lv_aload_n hx hb dX7_endsCheck_180 rfl (lv_at hl 0 rfl) ?_
                refine va_get (D := D) (ci := 8) (v := .ref (ad (b + 1))) (C := RX7) (T := TX7) (N := 11) hx hb hW inlX7 hown hK hP 0 rfl rfl 0 (by decide) (hW _ wd_127) (fun _ h9 => h9) rfl dX7_endsCheck_181 ?_
                refine lv_bipush (v := 34) hx hb dX7_endsCheck_184 (by decide) ?_
                refine lv_iconst (v := 2) hx hb dX7_endsCheck_186 (by decide) ?_
                refine lv_iload_n hx hb dX7_endsCheck_187 rfl (lv_at hl 2 rfl) ?_
                refine lv_imul hx hb dX7_endsCheck_188 ?_
                refine lv_iadd hx hb dX7_endsCheck_189 ?_
                refine lv_iload hx hb dX7_endsCheck_190 (lv_at hl 5 rfl) ?_
                replace hf := zs_s hf
                obtain ⟨hi192, s192, es192, hf⟩ := hf
                refine z_iast (ws' := wX7 G ad b (s192, u.2.1, u.2.2.1, u.2.2.2.1, u.2.2.2.2.1, u.2.2.2.2.2.1, u.2.2.2.2.2.2.1, u.2.2.2.2.2.2.2.1, u.2.2.2.2.2.2.2.2.1, u.2.2.2.2.2.2.2.2.2.1, u.2.2.2.2.2.2.2.2.2.2)) hx hb hK hP hD hS 1 0 rfl rfl hi192 es192 rfl dX7_endsCheck_192 (fun H locs hP hD hS => ?_)
                refine lv_aload_n hx hb dX7_endsCheck_193 rfl (lv_at hl 0 rfl) ?_
                refine va_get (D := D) (ci := 8) (v := .ref (ad (b + 1))) (C := RX7) (T := TX7) (N := 11) hx hb hW inlX7 hown hK hP 0 rfl rfl 0 (by decide) (hW _ wd_127) (fun _ h9 => h9) rfl dX7_endsCheck_194 ?_
                refine lv_bipush (v := 34) hx hb dX7_endsCheck_197 (by decide) ?_
                refine lv_iconst (v := 2) hx hb dX7_endsCheck_199 (by decide) ?_
                refine lv_iload_n hx hb dX7_endsCheck_200 rfl (lv_at hl 2 rfl) ?_
                refine lv_imul hx hb dX7_endsCheck_201 ?_
                refine lv_iadd hx hb dX7_endsCheck_202 ?_
                refine lv_iconst (v := 1) hx hb dX7_endsCheck_203 (by decide) ?_
                refine lv_iadd hx hb dX7_endsCheck_204 ?_
                refine lv_iload hx hb dX7_endsCheck_205 (lv_at hl 5 rfl) ?_
                refine lv_iload_n hx hb dX7_endsCheck_207 rfl (lv_at hl 1 rfl) ?_
                have J225 : ∀ (y225_2 : Int32) (hf : q_X7_endsCheck_J225 v63 s192 y225_2 = some o63) (H : Heap) (locs : List Loc) (hP : va_P D vwCl (wX7 G ad b (s192, u.2.1, u.2.2.1, u.2.2.2.1, u.2.2.2.2.1, u.2.2.2.2.2.1, u.2.2.2.2.2.2.1, u.2.2.2.2.2.2.2.1, u.2.2.2.2.2.2.2.2.1, u.2.2.2.2.2.2.2.2.2.1, u.2.2.2.2.2.2.2.2.2.2)) H) (hD : va_D A (wX7 G ad b (s192, u.2.1, u.2.2.1, u.2.2.2.1, u.2.2.2.2.1, u.2.2.2.2.2.1, u.2.2.2.2.2.2.1, u.2.2.2.2.2.2.2.1, u.2.2.2.2.2.2.2.2.1, u.2.2.2.2.2.2.2.2.2.1, u.2.2.2.2.2.2.2.2.2.2))) (hS : va_S A s.heap H locs) (ls : Array Slot) (hl : lv_has ls 9 [(0, .ref (ad b)), (1, .int (u.1 5)), (2, .int v63.1), (3, .int (r48 2)), (4, .int v63.2.1)]), W p l e (zRm 1 23) s m args below meth c H locs 0 0 Q (F0 m 225 ls [.int y225_2, .int ((34 + (2 * v63.1)) + 1), .ref (ad (b + 1))]) := by
                  intro y225_2 hf H locs hP hD hS ls hl
                  unfold q_X7_endsCheck_J225 at hf
                  replace hf := zs_s hf
                  obtain ⟨hi225, s225, es225, hf⟩ := hf
                  refine z_iast (ws' := wX7 G ad b (s225, u.2.1, u.2.2.1, u.2.2.2.1, u.2.2.2.2.1, u.2.2.2.2.2.1, u.2.2.2.2.2.2.1, u.2.2.2.2.2.2.2.1, u.2.2.2.2.2.2.2.2.1, u.2.2.2.2.2.2.2.2.2.1, u.2.2.2.2.2.2.2.2.2.2)) hx hb hK hP hD hS 1 0 rfl rfl hi225 es225 rfl dX7_endsCheck_225 (fun H locs hP hD hS => ?_)
                  refine lv_iinc (v := (v63.1 + 1)) (lv' := [(2, .int (v63.1 + 1)), (0, .ref (ad b)), (1, .int (u.1 5)), (3, .int (r48 2)), (4, .int v63.2.1)]) hx hb dX7_endsCheck_226 hl (k := 2) rfl rfl (by decide) rfl (fun ls hl => ?_)
                  refine lv_iinc (v := (v63.2.1 + 1)) (lv' := [(4, .int (v63.2.1 + 1)), (2, .int (v63.1 + 1)), (0, .ref (ad b)), (1, .int (u.1 5)), (3, .int (r48 2))]) hx hb dX7_endsCheck_229 hl (k := 4) rfl rfl (by decide) rfl (fun ls hl => ?_)
                  refine lv_goto (tgt := 63) hx hb dX7_endsCheck_232 (by decide) ?_
                  exact ih63 _ (zk_l hf hz63) _ _ hP hD hS _ (lv_sub hl [2, 3, 1, 4, 0] rfl)
                refine lv_icmp_ne (tgt := 223) hx hb dX7_endsCheck_208 (by decide) (fun c208 => ?_) (fun c208 => ?_)
                · replace hf := zi_n hf c208
                  refine lv_iload hx hb dX7_endsCheck_223 (lv_at hl 6 rfl) ?_
                  exact J225 r80 hf _ _ hP hD hS _ (lv_sub hl [0, 1, 2, 3, 4] rfl)
                · replace hf := zi_p hf c208
                  refine lv_iload hx hb dX7_endsCheck_211 (lv_at hl 7 rfl) ?_
                  refine lv_if_ne (tgt := 223) hx hb dX7_endsCheck_213 (by decide) (fun c213 => ?_) (fun c213 => ?_)
                  · replace hf := zi_n hf c213
                    refine lv_iload hx hb dX7_endsCheck_223 (lv_at hl 6 rfl) ?_
                    exact J225 r80 hf _ _ hP hD hS _ (lv_sub hl [0, 1, 2, 3, 4] rfl)
                  · replace hf := zi_p hf c213
                    refine lv_iload hx hb dX7_endsCheck_216 (lv_at hl 6 rfl) ?_
                    refine lv_iconst (v := 1) hx hb dX7_endsCheck_218 (by decide) ?_
                    refine lv_iadd hx hb dX7_endsCheck_219 ?_
                    refine lv_goto (tgt := 225) hx hb dX7_endsCheck_220 (by decide) ?_
                    exact J225 (r80 + 1) hf _ _ hP hD hS _ (lv_sub hl [0, 1, 2, 3, 4] rfl)
              · replace hf := zi_n hf c153
                refine lv_aload_n hx hb dX7_endsCheck_156 rfl (lv_at hl 0 rfl) ?_
                refine va_get (D := D) (ci := 8) (v := .ref (ad (b + 1))) (C := RX7) (T := TX7) (N := 11) hx hb hW inlX7 hown hK hP 0 rfl rfl 0 (by decide) (hW _ wd_127) (fun _ h9 => h9) rfl dX7_endsCheck_157 ?_
                refine lv_iconst (v := 3) hx hb dX7_endsCheck_160 (by decide) ?_
                refine lv_dup2_11 hx hb dX7_endsCheck_161 rfl rfl ?_
                refine z_iald (v := (w151_0 3)) hx hb hK hP 1 0 rfl rfl (z_in rfl) rfl dX7_endsCheck_162 ?_
                refine lv_iconst (v := 1) hx hb dX7_endsCheck_163 (by decide) ?_
                refine lv_isub hx hb dX7_endsCheck_164 ?_
                replace hf := zn_s hf
                obtain ⟨s165, es165, hf⟩ := hf
                refine z_iast (ws' := wX7 G ad b (s165, u.2.1, u.2.2.1, u.2.2.2.1, u.2.2.2.2.1, u.2.2.2.2.2.1, u.2.2.2.2.2.2.1, u.2.2.2.2.2.2.2.1, u.2.2.2.2.2.2.2.2.1, u.2.2.2.2.2.2.2.2.2.1, u.2.2.2.2.2.2.2.2.2.2)) hx hb hK hP hD hS 1 0 rfl rfl (z_in rfl) es165 rfl dX7_endsCheck_165 (fun H locs hP hD hS => ?_)
                refine lv_aload_n hx hb dX7_endsCheck_166 rfl (lv_at hl 0 rfl) ?_
                refine va_get (D := D) (ci := 8) (v := .ref (ad (b + 1))) (C := RX7) (T := TX7) (N := 11) hx hb hW inlX7 hown hK hP 0 rfl rfl 0 (by decide) (hW _ wd_127) (fun _ h9 => h9) rfl dX7_endsCheck_167 ?_
                refine lv_bipush (v := 11) hx hb dX7_endsCheck_170 (by decide) ?_
                refine lv_dup2_11 hx hb dX7_endsCheck_172 rfl rfl ?_
                refine z_iald (v := (s165 11)) hx hb hK hP 1 0 rfl rfl (z_in rfl) rfl dX7_endsCheck_173 ?_
                refine lv_iconst (v := 1) hx hb dX7_endsCheck_174 (by decide) ?_
                refine lv_iadd hx hb dX7_endsCheck_175 ?_
                replace hf := zn_s hf
                obtain ⟨s176, es176, hf⟩ := hf
                refine z_iast (ws' := wX7 G ad b (s176, u.2.1, u.2.2.1, u.2.2.2.1, u.2.2.2.2.1, u.2.2.2.2.2.1, u.2.2.2.2.2.2.1, u.2.2.2.2.2.2.2.1, u.2.2.2.2.2.2.2.2.1, u.2.2.2.2.2.2.2.2.2.1, u.2.2.2.2.2.2.2.2.2.2)) hx hb hK hP hD hS 1 0 rfl rfl (z_in rfl) es176 rfl dX7_endsCheck_176 (fun H locs hP hD hS => ?_)
                refine lv_goto (tgt := 229) hx hb dX7_endsCheck_177 (by decide) ?_
                refine lv_iinc (v := (v63.2.1 + 1)) (lv' := [(4, .int (v63.2.1 + 1)), (0, .ref (ad b)), (1, .int (u.1 5)), (2, .int v63.1), (3, .int (r48 2)), (5, .int r72), (6, .int r80), (7, .int y108_0), (8, .int y129_0)]) hx hb dX7_endsCheck_229 hl (k := 4) rfl rfl (by decide) rfl (fun ls hl => ?_)
                refine lv_goto (tgt := 63) hx hb dX7_endsCheck_232 (by decide) ?_
                exact ih63 _ (zk_l hf hz63) _ _ hP hD hS _ (lv_sub hl [1, 2, 3, 4, 0] rfl)
            refine lv_if_eq (tgt := 151) hx hb dX7_endsCheck_133 (by decide) (fun c133 => ?_) (fun c133 => ?_)
            · replace hf := zi_p hf c133
              exact J151 v63.2.2 hf _ _ hP hD hS _ (lv_sub hl [1, 2, 3, 4, 5, 6, 7, 8, 0] rfl)
            · replace hf := zi_n hf c133
              refine lv_aload_n hx hb dX7_endsCheck_136 rfl (lv_at hl 1 rfl) ?_
              refine lv_iload hx hb dX7_endsCheck_137 (lv_at hl 0 rfl) ?_
              have J147 : ∀ (y147_1 : Int32) (hf : q_X7_endsCheck_J147 u v63 r72 r80 y108_0 y129_0 y147_1 = some o63) (H : Heap) (locs : List Loc) (hP : va_P D vwCl (wX7 G ad b (v63.2.2, u.2.1, u.2.2.1, u.2.2.2.1, u.2.2.2.2.1, u.2.2.2.2.2.1, u.2.2.2.2.2.2.1, u.2.2.2.2.2.2.2.1, u.2.2.2.2.2.2.2.2.1, u.2.2.2.2.2.2.2.2.2.1, u.2.2.2.2.2.2.2.2.2.2)) H) (hD : va_D A (wX7 G ad b (v63.2.2, u.2.1, u.2.2.1, u.2.2.2.1, u.2.2.2.2.1, u.2.2.2.2.2.1, u.2.2.2.2.2.2.1, u.2.2.2.2.2.2.2.1, u.2.2.2.2.2.2.2.2.1, u.2.2.2.2.2.2.2.2.2.1, u.2.2.2.2.2.2.2.2.2.2))) (hS : va_S A s.heap H locs) (ls : Array Slot) (hl : lv_has ls 9 [(0, .ref (ad b)), (1, .int (u.1 5)), (2, .int v63.1), (3, .int (r48 2)), (4, .int v63.2.1), (5, .int r72), (6, .int r80), (7, .int y108_0), (8, .int y129_0)]), W p l e (zRm 1 23) s m args below meth c H locs 0 0 Q (F0 m 147 ls [.int y147_1, .ref (ad b)]) := by
                intro y147_1 hf H locs hP hD hS ls hl
                unfold q_X7_endsCheck_J147 at hf
                refine lv_iload_n hx hb dX7_endsCheck_147 rfl (lv_at hl 1 rfl) ?_
                replace hf := zb_s hf
                obtain ⟨r148, hr148, hf⟩ := hf
                refine z_Vv (rest := []) C0 kX7_96 (c_X7_logs l D G ad (b) (v63.2.2, u.2.1, u.2.2.1, u.2.2.2.1, u.2.2.2.2.1, u.2.2.2.2.2.1, u.2.2.2.2.2.2.1, u.2.2.2.2.2.2.2.1, u.2.2.2.2.2.2.2.2.1, u.2.2.2.2.2.2.2.2.2.1, u.2.2.2.2.2.2.2.2.2.2) y147_1 (u.1 5) r148 hr148) z_pall z_pall.symm (ci := 8) (T := TX7) (N := 11) rfl rfl rfl ⟨Nat.le_of_ble_eq_true rfl, Nat.le_of_ble_eq_true rfl⟩ (Nat.le_of_ble_eq_true rfl) rfl hl.1 hP hD hS dX7_endsCheck_148 (fun H locs hP hD hS => ?_)
                replace hP : va_P D vwCl (wX7 G ad b (r148, u.2.1, u.2.2.1, u.2.2.2.1, u.2.2.2.2.1, u.2.2.2.2.2.1, u.2.2.2.2.2.2.1, u.2.2.2.2.2.2.2.1, u.2.2.2.2.2.2.2.2.1, u.2.2.2.2.2.2.2.2.2.1, u.2.2.2.2.2.2.2.2.2.2)) H := hP
                replace hD : va_D A (wX7 G ad b (r148, u.2.1, u.2.2.1, u.2.2.2.1, u.2.2.2.2.1, u.2.2.2.2.2.1, u.2.2.2.2.2.2.1, u.2.2.2.2.2.2.2.1, u.2.2.2.2.2.2.2.2.1, u.2.2.2.2.2.2.2.2.2.1, u.2.2.2.2.2.2.2.2.2.2)) := hD
                exact J151 r148 hf _ _ hP hD hS _ (lv_sub hl [0, 1, 2, 3, 4, 5, 6, 7, 8] rfl)
              refine lv_if_eq (tgt := 146) hx hb dX7_endsCheck_139 (by decide) (fun c139 => ?_) (fun c139 => ?_)
              · replace hf := zi_p hf c139
                refine lv_iconst (v := 5) hx hb dX7_endsCheck_146 (by decide) ?_
                exact J147 5 hf _ _ hP hD hS _ (lv_sub hl [1, 2, 3, 4, 5, 6, 7, 8, 0] rfl)
              · replace hf := zi_n hf c139
                refine lv_iconst (v := 4) hx hb dX7_endsCheck_142 (by decide) ?_
                refine lv_goto (tgt := 147) hx hb dX7_endsCheck_143 (by decide) ?_
                exact J147 4 hf _ _ hP hD hS _ (lv_sub hl [1, 2, 3, 4, 5, 6, 7, 8, 0] rfl)
          refine lv_if_eq (tgt := 128) hx hb dX7_endsCheck_112 (by decide) (fun c112 => ?_) (fun c112 => ?_)
          · replace hf := zi_p hf c112
            refine lv_iconst (v := 0) hx hb dX7_endsCheck_128 (by decide) ?_
            exact J129 0 hf _ _ hP hD hS _ (lv_sub hl [1, 2, 3, 4, 5, 6, 7, 0] rfl)
          · replace hf := zi_n hf c112
            refine lv_aload_n hx hb dX7_endsCheck_115 rfl (lv_at hl 1 rfl) ?_
            refine va_get (D := D) (ci := 8) (v := .ref (ad (b + 1))) (C := RX7) (T := TX7) (N := 11) hx hb hW inlX7 hown hK hP 0 rfl rfl 0 (by decide) (hW _ wd_127) (fun _ h9 => h9) rfl dX7_endsCheck_116 ?_
            refine lv_iconst (v := 3) hx hb dX7_endsCheck_119 (by decide) ?_
            refine z_iald (v := (v63.2.2 3)) hx hb hK hP 1 0 rfl rfl (z_in rfl) rfl dX7_endsCheck_120 ?_
            refine lv_if_le (tgt := 128) hx hb dX7_endsCheck_121 (by decide) (fun c121 => ?_) (fun c121 => ?_)
            · replace hf := zi_p hf c121
              refine lv_iconst (v := 0) hx hb dX7_endsCheck_128 (by decide) ?_
              exact J129 0 hf _ _ hP hD hS _ (lv_sub hl [1, 2, 3, 4, 5, 6, 7, 0] rfl)
            · replace hf := zi_n hf c121
              refine lv_iconst (v := 1) hx hb dX7_endsCheck_124 (by decide) ?_
              refine lv_goto (tgt := 129) hx hb dX7_endsCheck_125 (by decide) ?_
              exact J129 1 hf _ _ hP hD hS _ (lv_sub hl [1, 2, 3, 4, 5, 6, 7, 0] rfl)
        refine lv_icmp_ne (tgt := 107) hx hb dX7_endsCheck_88 (by decide) (fun c88 => ?_) (fun c88 => ?_)
        · replace hf := zi_n hf c88
          refine lv_iconst (v := 0) hx hb dX7_endsCheck_107 (by decide) ?_
          exact J108 0 hf _ _ hP hD hS _ (lv_sub hl [2, 3, 4, 5, 6, 1, 0] rfl)
        · replace hf := zi_p hf c88
          refine lv_iload hx hb dX7_endsCheck_91 (lv_at hl 0 rfl) ?_
          refine lv_aload_n hx hb dX7_endsCheck_93 rfl (lv_at hl 2 rfl) ?_
          refine va_get (D := D) (ci := 8) (v := .ref (ad (b + 1))) (C := RX7) (T := TX7) (N := 11) hx hb hW inlX7 hown hK hP 0 rfl rfl 0 (by decide) (hW _ wd_127) (fun _ h9 => h9) rfl dX7_endsCheck_94 ?_
          refine lv_bipush (v := 18) hx hb dX7_endsCheck_97 (by decide) ?_
          refine z_iald (v := (v63.2.2 18)) hx hb hK hP 1 0 rfl rfl (z_in rfl) rfl dX7_endsCheck_99 ?_
          refine lv_icmp_lt (tgt := 107) hx hb dX7_endsCheck_100 (by decide) (fun c100 => ?_) (fun c100 => ?_)
          · replace hf := zi_p hf c100
            refine lv_iconst (v := 0) hx hb dX7_endsCheck_107 (by decide) ?_
            exact J108 0 hf _ _ hP hD hS _ (lv_sub hl [2, 3, 4, 5, 6, 1, 0] rfl)
          · replace hf := zi_n hf c100
            refine lv_iconst (v := 1) hx hb dX7_endsCheck_103 (by decide) ?_
            refine lv_goto (tgt := 108) hx hb dX7_endsCheck_104 (by decide) ?_
            exact J108 1 hf _ _ hP hD hS _ (lv_sub hl [2, 3, 4, 5, 6, 1, 0] rfl)
  exact L63 _ _ hz63 _ _ hP hD hS _ (lv_sub hl [4, 3, 2, 1, 0] rfl)
theorem kX7_106 : zLkV RX7 106 yX7_endsCheck cX7_endsCheck 9 none 0 := ⟨⟨wd_469, wd_470, wd_471, wd_5, wd_472⟩, by decide +kernel⟩
theorem kX7_103 : zLkV RX7 103 yX7_begins cX7_begins 2 none 0 := ⟨⟨wd_441, wd_442, wd_443, wd_5, wd_444⟩, by decide +kernel⟩
noncomputable def q_X7_passesTick_J54 (u : tX7) (w54_0 : Nat → Int32) : Option (Int32 × (Nat → Int32)) :=
  (if (w54_0 5) = (-6) then some ((-6), w54_0) else zn (upd w54_0 6 ((w54_0 6) + 1)) fun s80 => (if (s80 7) ≤ (s80 6) then zb (q_X7_endsCheck (s80, u.2.1, u.2.2.1, u.2.2.2.1, u.2.2.2.2.1, u.2.2.2.2.2.1, u.2.2.2.2.2.2.1, u.2.2.2.2.2.2.2.1, u.2.2.2.2.2.2.2.2.1, u.2.2.2.2.2.2.2.2.2.1, u.2.2.2.2.2.2.2.2.2.2)) fun r102 => some ((w54_0 5), r102) else some ((-6), s80)))
noncomputable def q_X7_passesTick (u : tX7) : Option (Int32 × (Nat → Int32)) :=
  zn (upd u.1 0 ((u.1 0) + 1)) fun s9 => (if (s9 15) ≤ (s9 1) then (if (s9 5) = (-6) then zb (q_X7_begins (s9, u.2.1, u.2.2.1, u.2.2.2.1, u.2.2.2.2.1, u.2.2.2.2.2.1, u.2.2.2.2.2.2.1, u.2.2.2.2.2.2.2.1, u.2.2.2.2.2.2.2.2.1, u.2.2.2.2.2.2.2.2.2.1, u.2.2.2.2.2.2.2.2.2.2)) fun r51 => q_X7_passesTick_J54 u r51 else q_X7_passesTick_J54 u s9) else zn (upd s9 1 ((s9 1) + 1)) fun s35 => some ((-6), s35))
set_option maxRecDepth 100000 in
set_option maxHeartbeats 4000000 in
theorem c_X7_passesTick (l : Launch) (D : va_G) (G : zG) (ad : Nat → Nat) (b : Nat) (u : tX7) (res : Int32 × (Nat → Int32)) (hf : q_X7_passesTick u = some res) : zMi l yX7_passesTick cX7_passesTick 2 (some .int) 5 112 D G (wX7 G ad b u) (wX7 G ad b (res.2, u.2.1, u.2.2.1, u.2.2.2.1, u.2.2.2.2.1, u.2.2.2.2.2.1, u.2.2.2.2.2.2.1, u.2.2.2.2.2.2.2.1, u.2.2.2.2.2.2.2.2.1, u.2.2.2.2.2.2.2.2.2.1, u.2.2.2.2.2.2.2.2.2.2)) [.ref (ad b)] res.1 := by
  refine zs_i (plainFor_of_name (by decide)) (Nat.le_of_ble_eq_true rfl) ?_
  intro p e s m args below meth c A Q H ls C0 hret hP hD hS hl
  obtain ⟨hx, hb, hml, hown, hW, hK, hlocks, hF, hr, hA⟩ := id C0
  replace hl : lv_has ls 2 [(0, .ref (ad b))] := hl
  unfold q_X7_passesTick at hf
  refine lv_aload_n hx hb dX7_passesTick_0 rfl (lv_at hl 0 rfl) ?_
  refine va_get (D := D) (ci := 8) (v := .ref (ad (b + 1))) (C := RX7) (T := TX7) (N := 11) hx hb hW inlX7 hown hK hP 0 rfl rfl 0 (by decide) (hW _ wd_127) (fun _ h9 => h9) rfl dX7_passesTick_1 ?_
  refine lv_iconst (v := 0) hx hb dX7_passesTick_4 (by decide) ?_
  refine lv_dup2_11 hx hb dX7_passesTick_5 rfl rfl ?_
  refine z_iald (v := (u.1 0)) hx hb hK hP 1 0 rfl rfl (z_in rfl) rfl dX7_passesTick_6 ?_
  refine lv_iconst (v := 1) hx hb dX7_passesTick_7 (by decide) ?_
  refine lv_iadd hx hb dX7_passesTick_8 ?_
  replace hf := zn_s hf
  obtain ⟨s9, es9, hf⟩ := hf
  refine z_iast (ws' := wX7 G ad b (s9, u.2.1, u.2.2.1, u.2.2.2.1, u.2.2.2.2.1, u.2.2.2.2.2.1, u.2.2.2.2.2.2.1, u.2.2.2.2.2.2.2.1, u.2.2.2.2.2.2.2.2.1, u.2.2.2.2.2.2.2.2.2.1, u.2.2.2.2.2.2.2.2.2.2)) hx hb hK hP hD hS 1 0 rfl rfl (z_in rfl) es9 rfl dX7_passesTick_9 (fun H locs hP hD hS => ?_)
  refine lv_aload_n hx hb dX7_passesTick_10 rfl (lv_at hl 0 rfl) ?_
  refine va_get (D := D) (ci := 8) (v := .ref (ad (b + 1))) (C := RX7) (T := TX7) (N := 11) hx hb hW inlX7 hown hK hP 0 rfl rfl 0 (by decide) (hW _ wd_127) (fun _ h9 => h9) rfl dX7_passesTick_11 ?_
  refine lv_iconst (v := 1) hx hb dX7_passesTick_14 (by decide) ?_
  refine z_iald (v := (s9 1)) hx hb hK hP 1 0 rfl rfl (z_in rfl) rfl dX7_passesTick_15 ?_
  refine lv_aload_n hx hb dX7_passesTick_16 rfl (lv_at hl 0 rfl) ?_
  refine va_get (D := D) (ci := 8) (v := .ref (ad (b + 1))) (C := RX7) (T := TX7) (N := 11) hx hb hW inlX7 hown hK hP 0 rfl rfl 0 (by decide) (hW _ wd_127) (fun _ h9 => h9) rfl dX7_passesTick_17 ?_
  refine lv_bipush (v := 15) hx hb dX7_passesTick_20 (by decide) ?_
  refine z_iald (v := (s9 15)) hx hb hK hP 1 0 rfl rfl (z_in rfl) rfl dX7_passesTick_22 ?_
  refine lv_icmp_ge (tgt := 39) hx hb dX7_passesTick_23 (by decide) (fun c23 => ?_) (fun c23 => ?_)
  · replace hf := zi_p hf c23
    refine lv_aload_n hx hb dX7_passesTick_39 rfl (lv_at hl 0 rfl) ?_
    refine va_get (D := D) (ci := 8) (v := .ref (ad (b + 1))) (C := RX7) (T := TX7) (N := 11) hx hb hW inlX7 hown hK hP 0 rfl rfl 0 (by decide) (hW _ wd_127) (fun _ h9 => h9) rfl dX7_passesTick_40 ?_
    refine lv_iconst (v := 5) hx hb dX7_passesTick_43 (by decide) ?_
    refine z_iald (v := (s9 5)) hx hb hK hP 1 0 rfl rfl (z_in rfl) rfl dX7_passesTick_44 ?_
    refine lv_bipush (v := (-6)) hx hb dX7_passesTick_45 (by decide) ?_
    have J54 : ∀ (w54_0 : Nat → Int32) (hf : q_X7_passesTick_J54 u w54_0 = some res) (H : Heap) (locs : List Loc) (hP : va_P D vwCl (wX7 G ad b (w54_0, u.2.1, u.2.2.1, u.2.2.2.1, u.2.2.2.2.1, u.2.2.2.2.2.1, u.2.2.2.2.2.2.1, u.2.2.2.2.2.2.2.1, u.2.2.2.2.2.2.2.2.1, u.2.2.2.2.2.2.2.2.2.1, u.2.2.2.2.2.2.2.2.2.2)) H) (hD : va_D A (wX7 G ad b (w54_0, u.2.1, u.2.2.1, u.2.2.2.1, u.2.2.2.2.1, u.2.2.2.2.2.1, u.2.2.2.2.2.2.1, u.2.2.2.2.2.2.2.1, u.2.2.2.2.2.2.2.2.1, u.2.2.2.2.2.2.2.2.2.1, u.2.2.2.2.2.2.2.2.2.2))) (hS : va_S A s.heap H locs) (ls : Array Slot) (hl : lv_has ls 2 [(0, .ref (ad b))]), W p l e (zRm 5 112) s m args below meth c H locs 0 0 Q (F0 m 54 ls []) := by
      intro w54_0 hf H locs hP hD hS ls hl
      unfold q_X7_passesTick_J54 at hf
      refine lv_aload_n hx hb dX7_passesTick_54 rfl (lv_at hl 0 rfl) ?_
      refine va_get (D := D) (ci := 8) (v := .ref (ad (b + 1))) (C := RX7) (T := TX7) (N := 11) hx hb hW inlX7 hown hK hP 0 rfl rfl 0 (by decide) (hW _ wd_127) (fun _ h9 => h9) rfl dX7_passesTick_55 ?_
      refine lv_iconst (v := 5) hx hb dX7_passesTick_58 (by decide) ?_
      refine z_iald (v := (w54_0 5)) hx hb hK hP 1 0 rfl rfl (z_in rfl) rfl dX7_passesTick_59 ?_
      refine lv_istore_n (lv' := [(1, .int (w54_0 5)), (0, .ref (ad b))]) hx hb dX7_passesTick_60 rfl hl (by decide) rfl (fun ls hl => ?_)
      refine lv_iload_n hx hb dX7_passesTick_61 rfl (lv_at hl 0 rfl) ?_
      refine lv_bipush (v := (-6)) hx hb dX7_passesTick_62 (by decide) ?_
      refine lv_icmp_ne (tgt := 70) hx hb dX7_passesTick_64 (by decide) (fun c64 => ?_) (fun c64 => ?_)
      · replace hf := zi_n hf c64
        refine lv_aload_n hx hb dX7_passesTick_70 rfl (lv_at hl 1 rfl) ?_
        refine va_get (D := D) (ci := 8) (v := .ref (ad (b + 1))) (C := RX7) (T := TX7) (N := 11) hx hb hW inlX7 hown hK hP 0 rfl rfl 0 (by decide) (hW _ wd_127) (fun _ h9 => h9) rfl dX7_passesTick_71 ?_
        refine lv_bipush (v := 6) hx hb dX7_passesTick_74 (by decide) ?_
        refine lv_dup2_11 hx hb dX7_passesTick_76 rfl rfl ?_
        refine z_iald (v := (w54_0 6)) hx hb hK hP 1 0 rfl rfl (z_in rfl) rfl dX7_passesTick_77 ?_
        refine lv_iconst (v := 1) hx hb dX7_passesTick_78 (by decide) ?_
        refine lv_iadd hx hb dX7_passesTick_79 ?_
        replace hf := zn_s hf
        obtain ⟨s80, es80, hf⟩ := hf
        refine z_iast (ws' := wX7 G ad b (s80, u.2.1, u.2.2.1, u.2.2.2.1, u.2.2.2.2.1, u.2.2.2.2.2.1, u.2.2.2.2.2.2.1, u.2.2.2.2.2.2.2.1, u.2.2.2.2.2.2.2.2.1, u.2.2.2.2.2.2.2.2.2.1, u.2.2.2.2.2.2.2.2.2.2)) hx hb hK hP hD hS 1 0 rfl rfl (z_in rfl) es80 rfl dX7_passesTick_80 (fun H locs hP hD hS => ?_)
        refine lv_aload_n hx hb dX7_passesTick_81 rfl (lv_at hl 1 rfl) ?_
        refine va_get (D := D) (ci := 8) (v := .ref (ad (b + 1))) (C := RX7) (T := TX7) (N := 11) hx hb hW inlX7 hown hK hP 0 rfl rfl 0 (by decide) (hW _ wd_127) (fun _ h9 => h9) rfl dX7_passesTick_82 ?_
        refine lv_bipush (v := 6) hx hb dX7_passesTick_85 (by decide) ?_
        refine z_iald (v := (s80 6)) hx hb hK hP 1 0 rfl rfl (z_in rfl) rfl dX7_passesTick_87 ?_
        refine lv_aload_n hx hb dX7_passesTick_88 rfl (lv_at hl 1 rfl) ?_
        refine va_get (D := D) (ci := 8) (v := .ref (ad (b + 1))) (C := RX7) (T := TX7) (N := 11) hx hb hW inlX7 hown hK hP 0 rfl rfl 0 (by decide) (hW _ wd_127) (fun _ h9 => h9) rfl dX7_passesTick_89 ?_
        refine lv_bipush (v := 7) hx hb dX7_passesTick_92 (by decide) ?_
        refine z_iald (v := (s80 7)) hx hb hK hP 1 0 rfl rfl (z_in rfl) rfl dX7_passesTick_94 ?_
        refine lv_icmp_ge (tgt := 101) hx hb dX7_passesTick_95 (by decide) (fun c95 => ?_) (fun c95 => ?_)
        · replace hf := zi_p hf c95
          refine lv_aload_n hx hb dX7_passesTick_101 rfl (lv_at hl 1 rfl) ?_
          replace hf := zb_s hf
          obtain ⟨r102, hr102, hf⟩ := hf
          refine z_Vv (rest := []) C0 kX7_106 (c_X7_endsCheck l D G ad (b) (s80, u.2.1, u.2.2.1, u.2.2.2.1, u.2.2.2.2.1, u.2.2.2.2.2.1, u.2.2.2.2.2.2.1, u.2.2.2.2.2.2.2.1, u.2.2.2.2.2.2.2.2.1, u.2.2.2.2.2.2.2.2.2.1, u.2.2.2.2.2.2.2.2.2.2) r102 hr102) z_pall z_pall.symm (ci := 8) (T := TX7) (N := 11) rfl rfl rfl ⟨Nat.le_of_ble_eq_true rfl, Nat.le_of_ble_eq_true rfl⟩ (Nat.le_of_ble_eq_true rfl) rfl hl.1 hP hD hS dX7_passesTick_102 (fun H locs hP hD hS => ?_)
          replace hP : va_P D vwCl (wX7 G ad b (r102, u.2.1, u.2.2.1, u.2.2.2.1, u.2.2.2.2.1, u.2.2.2.2.2.1, u.2.2.2.2.2.2.1, u.2.2.2.2.2.2.2.1, u.2.2.2.2.2.2.2.2.1, u.2.2.2.2.2.2.2.2.2.1, u.2.2.2.2.2.2.2.2.2.2)) H := hP
          replace hD : va_D A (wX7 G ad b (r102, u.2.1, u.2.2.1, u.2.2.2.1, u.2.2.2.2.1, u.2.2.2.2.2.1, u.2.2.2.2.2.2.1, u.2.2.2.2.2.2.2.1, u.2.2.2.2.2.2.2.2.1, u.2.2.2.2.2.2.2.2.2.1, u.2.2.2.2.2.2.2.2.2.2)) := hD
          refine lv_iload_n hx hb dX7_passesTick_105 rfl (lv_at hl 0 rfl) ?_
          obtain rfl := zo hf
          exact hret _ _ _ _ _ hP hD hS rfl dX7_passesTick_106
        · replace hf := zi_n hf c95
          refine lv_bipush (v := (-6)) hx hb dX7_passesTick_98 (by decide) ?_
          obtain rfl := zo hf
          exact hret _ _ _ _ _ hP hD hS rfl dX7_passesTick_100
      · replace hf := zi_p hf c64
        refine lv_bipush (v := (-6)) hx hb dX7_passesTick_67 (by decide) ?_
        obtain rfl := zo hf
        exact hret _ _ _ _ _ hP hD hS rfl dX7_passesTick_69
    refine lv_icmp_ne (tgt := 54) hx hb dX7_passesTick_47 (by decide) (fun c47 => ?_) (fun c47 => ?_)
    · replace hf := zi_n hf c47
      exact J54 s9 hf _ _ hP hD hS _ (lv_sub hl [0] rfl)
    · replace hf := zi_p hf c47
      refine lv_aload_n hx hb dX7_passesTick_50 rfl (lv_at hl 0 rfl) ?_
      replace hf := zb_s hf
      obtain ⟨r51, hr51, hf⟩ := hf
      refine z_Vv (rest := []) C0 kX7_103 (c_X7_begins l D G ad (b) (s9, u.2.1, u.2.2.1, u.2.2.2.1, u.2.2.2.2.1, u.2.2.2.2.2.1, u.2.2.2.2.2.2.1, u.2.2.2.2.2.2.2.1, u.2.2.2.2.2.2.2.2.1, u.2.2.2.2.2.2.2.2.2.1, u.2.2.2.2.2.2.2.2.2.2) r51 hr51) z_pall z_pall.symm (ci := 8) (T := TX7) (N := 11) rfl rfl rfl ⟨Nat.le_of_ble_eq_true rfl, Nat.le_of_ble_eq_true rfl⟩ (Nat.le_of_ble_eq_true rfl) rfl hl.1 hP hD hS dX7_passesTick_51 (fun H locs hP hD hS => ?_)
      replace hP : va_P D vwCl (wX7 G ad b (r51, u.2.1, u.2.2.1, u.2.2.2.1, u.2.2.2.2.1, u.2.2.2.2.2.1, u.2.2.2.2.2.2.1, u.2.2.2.2.2.2.2.1, u.2.2.2.2.2.2.2.2.1, u.2.2.2.2.2.2.2.2.2.1, u.2.2.2.2.2.2.2.2.2.2)) H := hP
      replace hD : va_D A (wX7 G ad b (r51, u.2.1, u.2.2.1, u.2.2.2.1, u.2.2.2.2.1, u.2.2.2.2.2.1, u.2.2.2.2.2.2.1, u.2.2.2.2.2.2.2.1, u.2.2.2.2.2.2.2.2.1, u.2.2.2.2.2.2.2.2.2.1, u.2.2.2.2.2.2.2.2.2.2)) := hD
      exact J54 r51 hf _ _ hP hD hS _ (lv_sub hl [0] rfl)
  · replace hf := zi_n hf c23
    refine lv_aload_n hx hb dX7_passesTick_26 rfl (lv_at hl 0 rfl) ?_
    refine va_get (D := D) (ci := 8) (v := .ref (ad (b + 1))) (C := RX7) (T := TX7) (N := 11) hx hb hW inlX7 hown hK hP 0 rfl rfl 0 (by decide) (hW _ wd_127) (fun _ h9 => h9) rfl dX7_passesTick_27 ?_
    refine lv_iconst (v := 1) hx hb dX7_passesTick_30 (by decide) ?_
    refine lv_dup2_11 hx hb dX7_passesTick_31 rfl rfl ?_
    refine z_iald (v := (s9 1)) hx hb hK hP 1 0 rfl rfl (z_in rfl) rfl dX7_passesTick_32 ?_
    refine lv_iconst (v := 1) hx hb dX7_passesTick_33 (by decide) ?_
    refine lv_iadd hx hb dX7_passesTick_34 ?_
    replace hf := zn_s hf
    obtain ⟨s35, es35, hf⟩ := hf
    refine z_iast (ws' := wX7 G ad b (s35, u.2.1, u.2.2.1, u.2.2.2.1, u.2.2.2.2.1, u.2.2.2.2.2.1, u.2.2.2.2.2.2.1, u.2.2.2.2.2.2.2.1, u.2.2.2.2.2.2.2.2.1, u.2.2.2.2.2.2.2.2.2.1, u.2.2.2.2.2.2.2.2.2.2)) hx hb hK hP hD hS 1 0 rfl rfl (z_in rfl) es35 rfl dX7_passesTick_35 (fun H locs hP hD hS => ?_)
    refine lv_bipush (v := (-6)) hx hb dX7_passesTick_36 (by decide) ?_
    obtain rfl := zo hf
    exact hret _ _ _ _ _ hP hD hS rfl dX7_passesTick_38
theorem kX7_109 : zLkV RX7 109 yX7_passesTick cX7_passesTick 2 (some .int) 0 := ⟨⟨wd_437, wd_438, wd_439, wd_5, wd_440⟩, by decide +kernel⟩
noncomputable def q_X7_passes_L4 (u : tX7) (p1 : Int32) (v4 : Int32 × Int32 × (Nat → Int32)) : Option ((Int32 × Int32 × (Nat → Int32)) ⊕ (Int32 × (Nat → Int32))) :=
  (if p1 ≤ v4.2.1 then some (Sum.inr (v4.1, v4.2.2)) else zb (q_X7_passesTick (v4.2.2, u.2.1, u.2.2.1, u.2.2.2.1, u.2.2.2.2.1, u.2.2.2.2.2.1, u.2.2.2.2.2.2.1, u.2.2.2.2.2.2.2.1, u.2.2.2.2.2.2.2.2.1, u.2.2.2.2.2.2.2.2.2.1, u.2.2.2.2.2.2.2.2.2.2)) fun r11 => (if r11.1 = (-6) then some (Sum.inl ((v4.1 + 0), (v4.2.1 + 1), r11.2)) else some (Sum.inl ((v4.1 + 1), (v4.2.1 + 1), r11.2))))
noncomputable def q_X7_passes (u : tX7) (p1 : Int32) : Option (Int32 × (Nat → Int32)) :=
  zb (zl 1000000 (q_X7_passes_L4 u p1) (0, 0, u.1)) (fun b4 => some (b4.1, b4.2))
set_option maxRecDepth 100000 in
set_option maxHeartbeats 4000000 in
theorem c_X7_passes (l : Launch) (D : va_G) (G : zG) (ad : Nat → Nat) (b : Nat) (u : tX7) (p1 : Int32) (res : Int32 × (Nat → Int32)) (hf : q_X7_passes u p1 = some res) : zMi l yX7_passes cX7_passes 4 (some .int) 6 133 D G (wX7 G ad b u) (wX7 G ad b (res.2, u.2.1, u.2.2.1, u.2.2.2.1, u.2.2.2.2.1, u.2.2.2.2.2.1, u.2.2.2.2.2.2.1, u.2.2.2.2.2.2.2.1, u.2.2.2.2.2.2.2.2.1, u.2.2.2.2.2.2.2.2.2.1, u.2.2.2.2.2.2.2.2.2.2)) [.ref (ad b), .int p1] res.1 := by
  refine zs_i (plainFor_of_name (by decide)) (Nat.le_of_ble_eq_true rfl) ?_
  intro p e s m args below meth c A Q H ls C0 hret hP hD hS hl
  obtain ⟨hx, hb, hml, hown, hW, hK, hlocks, hF, hr, hA⟩ := id C0
  replace hl : lv_has ls 4 [(0, .ref (ad b)), (1, .int p1)] := hl
  unfold q_X7_passes at hf
  refine lv_iconst (v := 0) hx hb dX7_passes_0 (by decide) ?_
  refine lv_istore_n (lv' := [(2, .int 0), (0, .ref (ad b)), (1, .int p1)]) hx hb dX7_passes_1 rfl hl (by decide) rfl (fun ls hl => ?_)
  refine lv_iconst (v := 0) hx hb dX7_passes_2 (by decide) ?_
  refine lv_istore_n (lv' := [(3, .int 0), (2, .int 0), (0, .ref (ad b)), (1, .int p1)]) hx hb dX7_passes_3 rfl hl (by decide) rfl (fun ls hl => ?_)
  replace hf := zb_s hf
  obtain ⟨b4, hz4, hk4⟩ := hf
  have L4 : ∀ (n4 : Nat) (v4 : Int32 × Int32 × (Nat → Int32)) (hz4 : zl n4 (q_X7_passes_L4 u p1) v4 = some b4) (H : Heap) (locs : List Loc) (hP : va_P D vwCl (wX7 G ad b (v4.2.2, u.2.1, u.2.2.1, u.2.2.2.1, u.2.2.2.2.1, u.2.2.2.2.2.1, u.2.2.2.2.2.2.1, u.2.2.2.2.2.2.2.1, u.2.2.2.2.2.2.2.2.1, u.2.2.2.2.2.2.2.2.2.1, u.2.2.2.2.2.2.2.2.2.2)) H) (hD : va_D A (wX7 G ad b (v4.2.2, u.2.1, u.2.2.1, u.2.2.2.1, u.2.2.2.2.1, u.2.2.2.2.2.1, u.2.2.2.2.2.2.1, u.2.2.2.2.2.2.2.1, u.2.2.2.2.2.2.2.2.1, u.2.2.2.2.2.2.2.2.2.1, u.2.2.2.2.2.2.2.2.2.2))) (hS : va_S A s.heap H locs) (ls : Array Slot) (hl : lv_has ls 4 [(0, .ref (ad b)), (1, .int p1), (2, .int v4.1), (3, .int v4.2.1)]), W p l e (zRm 6 133) s m args below meth c H locs 0 0 Q (F0 m 4 ls []) := by
    intro n4
    induction n4 with
    | zero => intro v4 hz4; exact (zl_0 hz4).elim
    | succ n4 ih4 =>
      intro v4 hz4 H locs hP hD hS ls hl
      obtain ⟨o4, hf, hz4⟩ := zl_s hz4
      unfold q_X7_passes_L4 at hf
      refine lv_iload_n hx hb dX7_passes_4 rfl (lv_at hl 3 rfl) ?_
      refine lv_iload_n hx hb dX7_passes_5 rfl (lv_at hl 1 rfl) ?_
      refine lv_icmp_ge (tgt := 32) hx hb dX7_passes_6 (by decide) (fun c6 => ?_) (fun c6 => ?_)
      · replace hf := zi_p hf c6
        have hb4 := zk_r hf hz4
        subst hb4
        replace hf := hk4
        refine lv_iload_n hx hb dX7_passes_32 rfl (lv_at hl 2 rfl) ?_
        obtain rfl := zo hf
        exact hret _ _ _ _ _ hP hD hS rfl dX7_passes_33
      · replace hf := zi_n hf c6
        refine lv_iload_n hx hb dX7_passes_9 rfl (lv_at hl 2 rfl) ?_
        refine lv_aload_n hx hb dX7_passes_10 rfl (lv_at hl 0 rfl) ?_
        replace hf := zb_s hf
        obtain ⟨r11, hr11, hf⟩ := hf
        refine z_Vi (rest := [.int v4.1]) C0 kX7_109 (c_X7_passesTick l D G ad (b) (v4.2.2, u.2.1, u.2.2.1, u.2.2.2.1, u.2.2.2.2.1, u.2.2.2.2.2.1, u.2.2.2.2.2.2.1, u.2.2.2.2.2.2.2.1, u.2.2.2.2.2.2.2.2.1, u.2.2.2.2.2.2.2.2.2.1, u.2.2.2.2.2.2.2.2.2.2) r11 hr11) z_pall z_pall.symm (ci := 8) (T := TX7) (N := 11) rfl rfl rfl ⟨Nat.le_of_ble_eq_true rfl, Nat.le_of_ble_eq_true rfl⟩ (Nat.le_of_ble_eq_true rfl) rfl hl.1 hP hD hS dX7_passes_11 (fun H locs hP hD hS => ?_)
        replace hP : va_P D vwCl (wX7 G ad b (r11.2, u.2.1, u.2.2.1, u.2.2.2.1, u.2.2.2.2.1, u.2.2.2.2.2.1, u.2.2.2.2.2.2.1, u.2.2.2.2.2.2.2.1, u.2.2.2.2.2.2.2.2.1, u.2.2.2.2.2.2.2.2.2.1, u.2.2.2.2.2.2.2.2.2.2)) H := hP
        replace hD : va_D A (wX7 G ad b (r11.2, u.2.1, u.2.2.1, u.2.2.2.1, u.2.2.2.2.1, u.2.2.2.2.2.1, u.2.2.2.2.2.2.1, u.2.2.2.2.2.2.2.1, u.2.2.2.2.2.2.2.2.1, u.2.2.2.2.2.2.2.2.2.1, u.2.2.2.2.2.2.2.2.2.2)) := hD
        refine lv_bipush (v := (-6)) hx hb dX7_passes_14 (by decide) ?_
        refine lv_icmp_ne (tgt := 23) hx hb dX7_passes_16 (by decide) (fun c16 => ?_) (fun c16 => ?_)
        · replace hf := zi_n hf c16
          refine lv_iconst (v := 1) hx hb dX7_passes_23 (by decide) ?_
          refine lv_iadd hx hb dX7_passes_24 ?_
          refine lv_istore_n (lv' := [(2, .int (v4.1 + 1)), (0, .ref (ad b)), (1, .int p1), (3, .int v4.2.1)]) hx hb dX7_passes_25 rfl hl (by decide) rfl (fun ls hl => ?_)
          refine lv_iinc (v := (v4.2.1 + 1)) (lv' := [(3, .int (v4.2.1 + 1)), (2, .int (v4.1 + 1)), (0, .ref (ad b)), (1, .int p1)]) hx hb dX7_passes_26 hl (k := 3) rfl rfl (by decide) rfl (fun ls hl => ?_)
          refine lv_goto (tgt := 4) hx hb dX7_passes_29 (by decide) ?_
          exact ih4 _ (zk_l hf hz4) _ _ hP hD hS _ (lv_sub hl [2, 3, 1, 0] rfl)
        · replace hf := zi_p hf c16
          refine lv_iconst (v := 0) hx hb dX7_passes_19 (by decide) ?_
          refine lv_goto (tgt := 24) hx hb dX7_passes_20 (by decide) ?_
          refine lv_iadd hx hb dX7_passes_24 ?_
          refine lv_istore_n (lv' := [(2, .int (v4.1 + 0)), (0, .ref (ad b)), (1, .int p1), (3, .int v4.2.1)]) hx hb dX7_passes_25 rfl hl (by decide) rfl (fun ls hl => ?_)
          refine lv_iinc (v := (v4.2.1 + 1)) (lv' := [(3, .int (v4.2.1 + 1)), (2, .int (v4.1 + 0)), (0, .ref (ad b)), (1, .int p1)]) hx hb dX7_passes_26 hl (k := 3) rfl rfl (by decide) rfl (fun ls hl => ?_)
          refine lv_goto (tgt := 4) hx hb dX7_passes_29 (by decide) ?_
          exact ih4 _ (zk_l hf hz4) _ _ hP hD hS _ (lv_sub hl [2, 3, 1, 0] rfl)
  exact L4 _ _ hz4 _ _ hP hD hS _ (lv_sub hl [2, 3, 1, 0] rfl)
noncomputable def q_X7_isSetting (p0 : Int32) : Option (Int32) :=
  zb (q_X7_within p0 0 4) fun r3 => zq (r3 = 0 ∨ r3 = 1) (some (r3))
set_option maxRecDepth 100000 in
set_option maxHeartbeats 4000000 in
theorem c_X7_isSetting (l : Launch) (D : va_G) (G : zG)  (p0 : Int32) (res : Int32) (hf : q_X7_isSetting p0 = some res) : zMi l yX7_isSetting cX7_isSetting 1 (some .boolean) 1 22 D G (([] : va_W)) (([] : va_W)) [.int p0] res := by
  refine zs_z (plainFor_of_name (by decide)) (Nat.le_of_ble_eq_true rfl) ?_
  intro p e s m args below meth c A Q H ls C0 hret hP hD hS hl
  obtain ⟨hx, hb, hml, hown, hW, hK, hlocks, hF, hr, hA⟩ := id C0
  replace hl : lv_has ls 1 [(0, .int p0)] := hl
  unfold q_X7_isSetting at hf
  refine lv_iload_n hx hb dX7_isSetting_0 rfl (lv_at hl 0 rfl) ?_
  refine lv_iconst (v := 0) hx hb dX7_isSetting_1 (by decide) ?_
  refine lv_iconst (v := 4) hx hb dX7_isSetting_2 (by decide) ?_
  replace hf := zb_s hf
  obtain ⟨r3, hr3, hf⟩ := hf
  refine z_Si (rest := []) C0 kX7_30 (c_X7_within l D G p0 0 4 r3 hr3) (List.Perm.refl _) (List.Perm.refl _) rfl ⟨Nat.le_of_ble_eq_true rfl, Nat.le_of_ble_eq_true rfl⟩ (Nat.le_of_ble_eq_true rfl) rfl hl.1 hP hD hS dX7_isSetting_3 (fun H locs hP hD hS => ?_)
  replace hf := zq_s hf
  obtain ⟨hq, hf⟩ := hf
  obtain rfl := zo hf
  exact hret _ _ _ _ _ hP hD hS rfl (z_nb hq) dX7_isSetting_6
noncomputable def q_X7_fits (p0 : Int32) (p1 : Int32) : Option (Int32) :=
  (if p0 = 0 then zb (q_X7_within p1 0 50) fun r36 => zq (r36 = 0 ∨ r36 = 1) (some (r36)) else if p0 = 1 then zb (q_X7_within p1 1 40) fun r44 => zq (r44 = 0 ∨ r44 = 1) (some (r44)) else if p0 = 2 then zb (q_X7_within p1 1 9) fun r52 => zq (r52 = 0 ∨ r52 = 1) (some (r52)) else if p0 = 3 then zb (q_X7_within p1 2 9) fun r60 => zq (r60 = 0 ∨ r60 = 1) (some (r60)) else zb (q_X7_within p1 50 2000) fun r70 => zq (r70 = 0 ∨ r70 = 1) (some (r70)))
set_option maxRecDepth 100000 in
set_option maxHeartbeats 4000000 in
theorem c_X7_fits (l : Launch) (D : va_G) (G : zG)  (p0 : Int32) (p1 : Int32) (res : Int32) (hf : q_X7_fits p0 p1 = some res) : zMi l yX7_fits cX7_fits 2 (some .boolean) 1 22 D G (([] : va_W)) (([] : va_W)) [.int p0, .int p1] res := by
  refine zs_z (plainFor_of_name (by decide)) (Nat.le_of_ble_eq_true rfl) ?_
  intro p e s m args below meth c A Q H ls C0 hret hP hD hS hl
  obtain ⟨hx, hb, hml, hown, hW, hK, hlocks, hF, hr, hA⟩ := id C0
  replace hl : lv_has ls 2 [(0, .int p0), (1, .int p1)] := hl
  unfold q_X7_fits at hf
  refine lv_iload_n hx hb dX7_fits_0 rfl (lv_at hl 0 rfl) ?_
  refine z_by (c := p0 = 0) (fun c1_0 => ?_) (fun n1_0 => ?_)
  · replace hf := zi_p hf c1_0
    refine lv_tableIn (off := 31) (tgt := 32) hx hb dX7_fits_1 (by rw [c1_0]; decide) (by rw [c1_0]; decide) (by rw [c1_0]; decide) (by decide) ?_
    refine lv_iload_n hx hb dX7_fits_32 rfl (lv_at hl 1 rfl) ?_
    refine lv_iconst (v := 0) hx hb dX7_fits_33 (by decide) ?_
    refine lv_bipush (v := 50) hx hb dX7_fits_34 (by decide) ?_
    replace hf := zb_s hf
    obtain ⟨r36, hr36, hf⟩ := hf
    refine z_Si (rest := []) C0 kX7_30 (c_X7_within l D G p1 0 50 r36 hr36) (List.Perm.refl _) (List.Perm.refl _) rfl ⟨Nat.le_of_ble_eq_true rfl, Nat.le_of_ble_eq_true rfl⟩ (Nat.le_of_ble_eq_true rfl) rfl hl.1 hP hD hS dX7_fits_36 (fun H locs hP hD hS => ?_)
    replace hf := zq_s hf
    obtain ⟨hq, hf⟩ := hf
    obtain rfl := zo hf
    exact hret _ _ _ _ _ hP hD hS rfl (z_nb hq) dX7_fits_39
  · replace hf := zi_n hf n1_0
    refine z_by (c := p0 = 1) (fun c1_1 => ?_) (fun n1_1 => ?_)
    · replace hf := zi_p hf c1_1
      refine lv_tableIn (off := 39) (tgt := 40) hx hb dX7_fits_1 (by rw [c1_1]; decide) (by rw [c1_1]; decide) (by rw [c1_1]; decide) (by decide) ?_
      refine lv_iload_n hx hb dX7_fits_40 rfl (lv_at hl 1 rfl) ?_
      refine lv_iconst (v := 1) hx hb dX7_fits_41 (by decide) ?_
      refine lv_bipush (v := 40) hx hb dX7_fits_42 (by decide) ?_
      replace hf := zb_s hf
      obtain ⟨r44, hr44, hf⟩ := hf
      refine z_Si (rest := []) C0 kX7_30 (c_X7_within l D G p1 1 40 r44 hr44) (List.Perm.refl _) (List.Perm.refl _) rfl ⟨Nat.le_of_ble_eq_true rfl, Nat.le_of_ble_eq_true rfl⟩ (Nat.le_of_ble_eq_true rfl) rfl hl.1 hP hD hS dX7_fits_44 (fun H locs hP hD hS => ?_)
      replace hf := zq_s hf
      obtain ⟨hq, hf⟩ := hf
      obtain rfl := zo hf
      exact hret _ _ _ _ _ hP hD hS rfl (z_nb hq) dX7_fits_47
    · replace hf := zi_n hf n1_1
      refine z_by (c := p0 = 2) (fun c1_2 => ?_) (fun n1_2 => ?_)
      · replace hf := zi_p hf c1_2
        refine lv_tableIn (off := 47) (tgt := 48) hx hb dX7_fits_1 (by rw [c1_2]; decide) (by rw [c1_2]; decide) (by rw [c1_2]; decide) (by decide) ?_
        refine lv_iload_n hx hb dX7_fits_48 rfl (lv_at hl 1 rfl) ?_
        refine lv_iconst (v := 1) hx hb dX7_fits_49 (by decide) ?_
        refine lv_bipush (v := 9) hx hb dX7_fits_50 (by decide) ?_
        replace hf := zb_s hf
        obtain ⟨r52, hr52, hf⟩ := hf
        refine z_Si (rest := []) C0 kX7_30 (c_X7_within l D G p1 1 9 r52 hr52) (List.Perm.refl _) (List.Perm.refl _) rfl ⟨Nat.le_of_ble_eq_true rfl, Nat.le_of_ble_eq_true rfl⟩ (Nat.le_of_ble_eq_true rfl) rfl hl.1 hP hD hS dX7_fits_52 (fun H locs hP hD hS => ?_)
        replace hf := zq_s hf
        obtain ⟨hq, hf⟩ := hf
        obtain rfl := zo hf
        exact hret _ _ _ _ _ hP hD hS rfl (z_nb hq) dX7_fits_55
      · replace hf := zi_n hf n1_2
        refine z_by (c := p0 = 3) (fun c1_3 => ?_) (fun n1_3 => ?_)
        · replace hf := zi_p hf c1_3
          refine lv_tableIn (off := 55) (tgt := 56) hx hb dX7_fits_1 (by rw [c1_3]; decide) (by rw [c1_3]; decide) (by rw [c1_3]; decide) (by decide) ?_
          refine lv_iload_n hx hb dX7_fits_56 rfl (lv_at hl 1 rfl) ?_
          refine lv_iconst (v := 2) hx hb dX7_fits_57 (by decide) ?_
          refine lv_bipush (v := 9) hx hb dX7_fits_58 (by decide) ?_
          replace hf := zb_s hf
          obtain ⟨r60, hr60, hf⟩ := hf
          refine z_Si (rest := []) C0 kX7_30 (c_X7_within l D G p1 2 9 r60 hr60) (List.Perm.refl _) (List.Perm.refl _) rfl ⟨Nat.le_of_ble_eq_true rfl, Nat.le_of_ble_eq_true rfl⟩ (Nat.le_of_ble_eq_true rfl) rfl hl.1 hP hD hS dX7_fits_60 (fun H locs hP hD hS => ?_)
          replace hf := zq_s hf
          obtain ⟨hq, hf⟩ := hf
          obtain rfl := zo hf
          exact hret _ _ _ _ _ hP hD hS rfl (z_nb hq) dX7_fits_63
        · replace hf := zi_n hf n1_3
          refine lv_tableOut (tgt := 64) hx hb dX7_fits_1 (by have h0 := lv_neT (a := 0) n1_0 (by decide); have h1 := lv_neT (a := 1) n1_1 (by decide); have h2 := lv_neT (a := 2) n1_2 (by decide); have h3 := lv_neT (a := 3) n1_3 (by decide); omega) (by decide) ?_
          refine lv_iload_n hx hb dX7_fits_64 rfl (lv_at hl 1 rfl) ?_
          refine lv_bipush (v := 50) hx hb dX7_fits_65 (by decide) ?_
          refine lv_sipush (v := 2000) hx hb dX7_fits_67 (by decide) ?_
          replace hf := zb_s hf
          obtain ⟨r70, hr70, hf⟩ := hf
          refine z_Si (rest := []) C0 kX7_30 (c_X7_within l D G p1 50 2000 r70 hr70) (List.Perm.refl _) (List.Perm.refl _) rfl ⟨Nat.le_of_ble_eq_true rfl, Nat.le_of_ble_eq_true rfl⟩ (Nat.le_of_ble_eq_true rfl) rfl hl.1 hP hD hS dX7_fits_70 (fun H locs hP hD hS => ?_)
          replace hf := zq_s hf
          obtain ⟨hq, hf⟩ := hf
          obtain rfl := zo hf
          exact hret _ _ _ _ _ hP hD hS rfl (z_nb hq) dX7_fits_73
noncomputable def q_X7_spotsMany_L4 (u : tX7) (p1 : Int32) (v4 : Int32 × Int32) : Option ((Int32 × Int32) ⊕ (Int32)) :=
  (if (u.1 2) ≤ v4.2 then some (Sum.inr (v4.1)) else zb (q_X7_spotSpan u v4.2) fun r17 => (if r17 = p1 then some (Sum.inl ((v4.1 + 1), (v4.2 + 1))) else some (Sum.inl ((v4.1 + 0), (v4.2 + 1)))))
noncomputable def q_X7_spotsMany (u : tX7) (p1 : Int32) : Option (Int32) :=
  zb (zl 1000000 (q_X7_spotsMany_L4 u p1) (0, 0)) (fun b4 => some (b4))
set_option maxRecDepth 100000 in
set_option maxHeartbeats 4000000 in
theorem c_X7_spotsMany (l : Launch) (D : va_G) (G : zG) (ad : Nat → Nat) (b : Nat) (u : tX7) (p1 : Int32) (res : Int32) (hf : q_X7_spotsMany u p1 = some res) : zMi l yX7_spotsMany cX7_spotsMany 4 (some .int) 1 21 D G (wX7 G ad b u) (wX7 G ad b u) [.ref (ad b), .int p1] res := by
  refine zs_i (plainFor_of_name (by decide)) (Nat.le_of_ble_eq_true rfl) ?_
  intro p e s m args below meth c A Q H ls C0 hret hP hD hS hl
  obtain ⟨hx, hb, hml, hown, hW, hK, hlocks, hF, hr, hA⟩ := id C0
  replace hl : lv_has ls 4 [(0, .ref (ad b)), (1, .int p1)] := hl
  unfold q_X7_spotsMany at hf
  refine lv_iconst (v := 0) hx hb dX7_spotsMany_0 (by decide) ?_
  refine lv_istore_n (lv' := [(2, .int 0), (0, .ref (ad b)), (1, .int p1)]) hx hb dX7_spotsMany_1 rfl hl (by decide) rfl (fun ls hl => ?_)
  refine lv_iconst (v := 0) hx hb dX7_spotsMany_2 (by decide) ?_
  refine lv_istore_n (lv' := [(3, .int 0), (2, .int 0), (0, .ref (ad b)), (1, .int p1)]) hx hb dX7_spotsMany_3 rfl hl (by decide) rfl (fun ls hl => ?_)
  replace hf := zb_s hf
  obtain ⟨b4, hz4, hk4⟩ := hf
  have L4 : ∀ (n4 : Nat) (v4 : Int32 × Int32) (hz4 : zl n4 (q_X7_spotsMany_L4 u p1) v4 = some b4) (H : Heap) (locs : List Loc) (hP : va_P D vwCl (wX7 G ad b u) H) (hD : va_D A (wX7 G ad b u)) (hS : va_S A s.heap H locs) (ls : Array Slot) (hl : lv_has ls 4 [(0, .ref (ad b)), (1, .int p1), (2, .int v4.1), (3, .int v4.2)]), W p l e (zRm 1 21) s m args below meth c H locs 0 0 Q (F0 m 4 ls []) := by
    intro n4
    induction n4 with
    | zero => intro v4 hz4; exact (zl_0 hz4).elim
    | succ n4 ih4 =>
      intro v4 hz4 H locs hP hD hS ls hl
      obtain ⟨o4, hf, hz4⟩ := zl_s hz4
      unfold q_X7_spotsMany_L4 at hf
      refine lv_iload_n hx hb dX7_spotsMany_4 rfl (lv_at hl 3 rfl) ?_
      refine lv_aload_n hx hb dX7_spotsMany_5 rfl (lv_at hl 0 rfl) ?_
      refine va_get (D := D) (ci := 8) (v := .ref (ad (b + 1))) (C := RX7) (T := TX7) (N := 11) hx hb hW inlX7 hown hK hP 0 rfl rfl 0 (by decide) (hW _ wd_127) (fun _ h9 => h9) rfl dX7_spotsMany_6 ?_
      refine lv_iconst (v := 2) hx hb dX7_spotsMany_9 (by decide) ?_
      refine z_iald (v := (u.1 2)) hx hb hK hP 1 0 rfl rfl (z_in rfl) rfl dX7_spotsMany_10 ?_
      refine lv_icmp_ge (tgt := 37) hx hb dX7_spotsMany_11 (by decide) (fun c11 => ?_) (fun c11 => ?_)
      · replace hf := zi_p hf c11
        have hb4 := zk_r hf hz4
        subst hb4
        replace hf := hk4
        refine lv_iload_n hx hb dX7_spotsMany_37 rfl (lv_at hl 2 rfl) ?_
        obtain rfl := zo hf
        exact hret _ _ _ _ _ hP hD hS rfl dX7_spotsMany_38
      · replace hf := zi_n hf c11
        refine lv_iload_n hx hb dX7_spotsMany_14 rfl (lv_at hl 2 rfl) ?_
        refine lv_aload_n hx hb dX7_spotsMany_15 rfl (lv_at hl 0 rfl) ?_
        refine lv_iload_n hx hb dX7_spotsMany_16 rfl (lv_at hl 3 rfl) ?_
        replace hf := zb_s hf
        obtain ⟨r17, hr17, hf⟩ := hf
        refine z_Vi (rest := [.int v4.1]) C0 kX7_73 (c_X7_spotSpan l D G ad (b) u v4.2 r17 hr17) z_pall z_pall.symm (ci := 8) (T := TX7) (N := 11) rfl rfl rfl ⟨Nat.le_of_ble_eq_true rfl, Nat.le_of_ble_eq_true rfl⟩ (Nat.le_of_ble_eq_true rfl) rfl hl.1 hP hD hS dX7_spotsMany_17 (fun H locs hP hD hS => ?_)
        refine lv_iload_n hx hb dX7_spotsMany_20 rfl (lv_at hl 1 rfl) ?_
        refine lv_icmp_ne (tgt := 28) hx hb dX7_spotsMany_21 (by decide) (fun c21 => ?_) (fun c21 => ?_)
        · replace hf := zi_n hf c21
          refine lv_iconst (v := 0) hx hb dX7_spotsMany_28 (by decide) ?_
          refine lv_iadd hx hb dX7_spotsMany_29 ?_
          refine lv_istore_n (lv' := [(2, .int (v4.1 + 0)), (0, .ref (ad b)), (1, .int p1), (3, .int v4.2)]) hx hb dX7_spotsMany_30 rfl hl (by decide) rfl (fun ls hl => ?_)
          refine lv_iinc (v := (v4.2 + 1)) (lv' := [(3, .int (v4.2 + 1)), (2, .int (v4.1 + 0)), (0, .ref (ad b)), (1, .int p1)]) hx hb dX7_spotsMany_31 hl (k := 3) rfl rfl (by decide) rfl (fun ls hl => ?_)
          refine lv_goto (tgt := 4) hx hb dX7_spotsMany_34 (by decide) ?_
          exact ih4 _ (zk_l hf hz4) _ _ hP hD hS _ (lv_sub hl [2, 3, 1, 0] rfl)
        · replace hf := zi_p hf c21
          refine lv_iconst (v := 1) hx hb dX7_spotsMany_24 (by decide) ?_
          refine lv_goto (tgt := 29) hx hb dX7_spotsMany_25 (by decide) ?_
          refine lv_iadd hx hb dX7_spotsMany_29 ?_
          refine lv_istore_n (lv' := [(2, .int (v4.1 + 1)), (0, .ref (ad b)), (1, .int p1), (3, .int v4.2)]) hx hb dX7_spotsMany_30 rfl hl (by decide) rfl (fun ls hl => ?_)
          refine lv_iinc (v := (v4.2 + 1)) (lv' := [(3, .int (v4.2 + 1)), (2, .int (v4.1 + 1)), (0, .ref (ad b)), (1, .int p1)]) hx hb dX7_spotsMany_31 hl (k := 3) rfl rfl (by decide) rfl (fun ls hl => ?_)
          refine lv_goto (tgt := 4) hx hb dX7_spotsMany_34 (by decide) ?_
          exact ih4 _ (zk_l hf hz4) _ _ hP hD hS _ (lv_sub hl [2, 3, 1, 0] rfl)
  exact L4 _ _ hz4 _ _ hP hD hS _ (lv_sub hl [2, 3, 1, 0] rfl)
theorem kX7_125 : zLkS RX7 125 yX7_isSpan cX7_isSpan 1 (some .boolean) 1 := ⟨⟨wd_251, wd_252, wd_5, wd_253⟩, by decide +kernel⟩
noncomputable def q_X7_whyNotSpot (u : tX7) (p1 : Int32) (p2 : Int32) : Option (Int32) :=
  zb (q_X7_isSpan p1) fun r1 => (if r1 = 0 then some ((-1)) else zb (q_X7_within p2 1 9) fun r15 => (if r15 = 0 then some ((-2)) else (if (u.1 2) = 20 then some ((-4)) else some (0))))
set_option maxRecDepth 100000 in
set_option maxHeartbeats 4000000 in
theorem c_X7_whyNotSpot (l : Launch) (D : va_G) (G : zG) (ad : Nat → Nat) (b : Nat) (u : tX7) (p1 : Int32) (p2 : Int32) (res : Int32) (hf : q_X7_whyNotSpot u p1 p2 = some res) : zMi l yX7_whyNotSpot cX7_whyNotSpot 3 (some .int) 2 42 D G (wX7 G ad b u) (wX7 G ad b u) [.ref (ad b), .int p1, .int p2] res := by
  refine zs_i (plainFor_of_name (by decide)) (Nat.le_of_ble_eq_true rfl) ?_
  intro p e s m args below meth c A Q H ls C0 hret hP hD hS hl
  obtain ⟨hx, hb, hml, hown, hW, hK, hlocks, hF, hr, hA⟩ := id C0
  replace hl : lv_has ls 3 [(0, .ref (ad b)), (1, .int p1), (2, .int p2)] := hl
  unfold q_X7_whyNotSpot at hf
  refine lv_iload_n hx hb dX7_whyNotSpot_0 rfl (lv_at hl 1 rfl) ?_
  replace hf := zb_s hf
  obtain ⟨r1, hr1, hf⟩ := hf
  refine z_Si (rest := []) C0 kX7_125 (c_X7_isSpan l D G p1 r1 hr1) (List.Perm.refl _) (List.Perm.refl _) rfl ⟨Nat.le_of_ble_eq_true rfl, Nat.le_of_ble_eq_true rfl⟩ (Nat.le_of_ble_eq_true rfl) rfl hl.1 hP hD hS dX7_whyNotSpot_1 (fun H locs hP hD hS => ?_)
  refine lv_if_ne (tgt := 11) hx hb dX7_whyNotSpot_4 (by decide) (fun c4 => ?_) (fun c4 => ?_)
  · replace hf := zi_n hf c4
    refine lv_iload_n hx hb dX7_whyNotSpot_11 rfl (lv_at hl 2 rfl) ?_
    refine lv_iconst (v := 1) hx hb dX7_whyNotSpot_12 (by decide) ?_
    refine lv_bipush (v := 9) hx hb dX7_whyNotSpot_13 (by decide) ?_
    replace hf := zb_s hf
    obtain ⟨r15, hr15, hf⟩ := hf
    refine z_Si (rest := []) C0 kX7_30 (c_X7_within l D G p2 1 9 r15 hr15) (List.Perm.refl _) (List.Perm.refl _) rfl ⟨Nat.le_of_ble_eq_true rfl, Nat.le_of_ble_eq_true rfl⟩ (Nat.le_of_ble_eq_true rfl) rfl hl.1 hP hD hS dX7_whyNotSpot_15 (fun H locs hP hD hS => ?_)
    refine lv_if_ne (tgt := 26) hx hb dX7_whyNotSpot_18 (by decide) (fun c18 => ?_) (fun c18 => ?_)
    · replace hf := zi_n hf c18
      refine lv_aload_n hx hb dX7_whyNotSpot_26 rfl (lv_at hl 0 rfl) ?_
      refine va_get (D := D) (ci := 8) (v := .ref (ad (b + 1))) (C := RX7) (T := TX7) (N := 11) hx hb hW inlX7 hown hK hP 0 rfl rfl 0 (by decide) (hW _ wd_127) (fun _ h9 => h9) rfl dX7_whyNotSpot_27 ?_
      refine lv_iconst (v := 2) hx hb dX7_whyNotSpot_30 (by decide) ?_
      refine z_iald (v := (u.1 2)) hx hb hK hP 1 0 rfl rfl (z_in rfl) rfl dX7_whyNotSpot_31 ?_
      refine lv_bipush (v := 20) hx hb dX7_whyNotSpot_32 (by decide) ?_
      refine lv_icmp_ne (tgt := 42) hx hb dX7_whyNotSpot_34 (by decide) (fun c34 => ?_) (fun c34 => ?_)
      · replace hf := zi_n hf c34
        refine lv_iconst (v := 0) hx hb dX7_whyNotSpot_42 (by decide) ?_
        obtain rfl := zo hf
        exact hret _ _ _ _ _ hP hD hS rfl dX7_whyNotSpot_43
      · replace hf := zi_p hf c34
        refine lv_bipush (v := (-4)) hx hb dX7_whyNotSpot_37 (by decide) ?_
        refine lv_goto (tgt := 43) hx hb dX7_whyNotSpot_39 (by decide) ?_
        obtain rfl := zo hf
        exact hret _ _ _ _ _ hP hD hS rfl dX7_whyNotSpot_43
    · replace hf := zi_p hf c18
      refine lv_bipush (v := (-2)) hx hb dX7_whyNotSpot_21 (by decide) ?_
      refine lv_goto (tgt := 43) hx hb dX7_whyNotSpot_23 (by decide) ?_
      obtain rfl := zo hf
      exact hret _ _ _ _ _ hP hD hS rfl dX7_whyNotSpot_43
  · replace hf := zi_p hf c4
    refine lv_iconst (v := (-1)) hx hb dX7_whyNotSpot_7 (by decide) ?_
    refine lv_goto (tgt := 43) hx hb dX7_whyNotSpot_8 (by decide) ?_
    obtain rfl := zo hf
    exact hret _ _ _ _ _ hP hD hS rfl dX7_whyNotSpot_43
theorem kX7_128 : zLkV RX7 128 yX7_spotsMany cX7_spotsMany 4 (some .int) 1 := ⟨⟨wd_258, wd_259, wd_260, wd_5, wd_261⟩, by decide +kernel⟩
noncomputable def q_X7_adds (u : tX7) (p1 : Int32) (p2 : Int32) : Option (Int32 × (Nat → Int32)) :=
  zs 104 u.1 (34 + (2 * (u.1 2))) p1 fun s16 => zs 104 s16 ((34 + (2 * (s16 2))) + 1) p2 fun s35 => zn (upd s35 2 ((s35 2) + 1)) fun s45 => zb (q_X7_spotsMany (s45, u.2.1, u.2.2.1, u.2.2.2.1, u.2.2.2.2.1, u.2.2.2.2.2.1, u.2.2.2.2.2.2.1, u.2.2.2.2.2.2.2.1, u.2.2.2.2.2.2.2.2.1, u.2.2.2.2.2.2.2.2.2.1, u.2.2.2.2.2.2.2.2.2.2) p1) fun r48 => some (r48, s45)
set_option maxRecDepth 100000 in
set_option maxHeartbeats 4000000 in
theorem c_X7_adds (l : Launch) (D : va_G) (G : zG) (ad : Nat → Nat) (b : Nat) (u : tX7) (p1 : Int32) (p2 : Int32) (res : Int32 × (Nat → Int32)) (hf : q_X7_adds u p1 p2 = some res) : zMi l yX7_adds cX7_adds 3 (some .int) 2 44 D G (wX7 G ad b u) (wX7 G ad b (res.2, u.2.1, u.2.2.1, u.2.2.2.1, u.2.2.2.2.1, u.2.2.2.2.2.1, u.2.2.2.2.2.2.1, u.2.2.2.2.2.2.2.1, u.2.2.2.2.2.2.2.2.1, u.2.2.2.2.2.2.2.2.2.1, u.2.2.2.2.2.2.2.2.2.2)) [.ref (ad b), .int p1, .int p2] res.1 := by
  refine zs_i (plainFor_of_name (by decide)) (Nat.le_of_ble_eq_true rfl) ?_
  intro p e s m args below meth c A Q H ls C0 hret hP hD hS hl
  obtain ⟨hx, hb, hml, hown, hW, hK, hlocks, hF, hr, hA⟩ := id C0
  replace hl : lv_has ls 3 [(0, .ref (ad b)), (1, .int p1), (2, .int p2)] := hl
  unfold q_X7_adds at hf
  refine lv_aload_n hx hb dX7_adds_0 rfl (lv_at hl 0 rfl) ?_
  refine va_get (D := D) (ci := 8) (v := .ref (ad (b + 1))) (C := RX7) (T := TX7) (N := 11) hx hb hW inlX7 hown hK hP 0 rfl rfl 0 (by decide) (hW _ wd_127) (fun _ h9 => h9) rfl dX7_adds_1 ?_
  refine lv_bipush (v := 34) hx hb dX7_adds_4 (by decide) ?_
  refine lv_iconst (v := 2) hx hb dX7_adds_6 (by decide) ?_
  refine lv_aload_n hx hb dX7_adds_7 rfl (lv_at hl 0 rfl) ?_
  refine va_get (D := D) (ci := 8) (v := .ref (ad (b + 1))) (C := RX7) (T := TX7) (N := 11) hx hb hW inlX7 hown hK hP 0 rfl rfl 0 (by decide) (hW _ wd_127) (fun _ h9 => h9) rfl dX7_adds_8 ?_
  refine lv_iconst (v := 2) hx hb dX7_adds_11 (by decide) ?_
  refine z_iald (v := (u.1 2)) hx hb hK hP 1 0 rfl rfl (z_in rfl) rfl dX7_adds_12 ?_
  refine lv_imul hx hb dX7_adds_13 ?_
  refine lv_iadd hx hb dX7_adds_14 ?_
  refine lv_iload_n hx hb dX7_adds_15 rfl (lv_at hl 1 rfl) ?_
  replace hf := zs_s hf
  obtain ⟨hi16, s16, es16, hf⟩ := hf
  refine z_iast (ws' := wX7 G ad b (s16, u.2.1, u.2.2.1, u.2.2.2.1, u.2.2.2.2.1, u.2.2.2.2.2.1, u.2.2.2.2.2.2.1, u.2.2.2.2.2.2.2.1, u.2.2.2.2.2.2.2.2.1, u.2.2.2.2.2.2.2.2.2.1, u.2.2.2.2.2.2.2.2.2.2)) hx hb hK hP hD hS 1 0 rfl rfl hi16 es16 rfl dX7_adds_16 (fun H locs hP hD hS => ?_)
  refine lv_aload_n hx hb dX7_adds_17 rfl (lv_at hl 0 rfl) ?_
  refine va_get (D := D) (ci := 8) (v := .ref (ad (b + 1))) (C := RX7) (T := TX7) (N := 11) hx hb hW inlX7 hown hK hP 0 rfl rfl 0 (by decide) (hW _ wd_127) (fun _ h9 => h9) rfl dX7_adds_18 ?_
  refine lv_bipush (v := 34) hx hb dX7_adds_21 (by decide) ?_
  refine lv_iconst (v := 2) hx hb dX7_adds_23 (by decide) ?_
  refine lv_aload_n hx hb dX7_adds_24 rfl (lv_at hl 0 rfl) ?_
  refine va_get (D := D) (ci := 8) (v := .ref (ad (b + 1))) (C := RX7) (T := TX7) (N := 11) hx hb hW inlX7 hown hK hP 0 rfl rfl 0 (by decide) (hW _ wd_127) (fun _ h9 => h9) rfl dX7_adds_25 ?_
  refine lv_iconst (v := 2) hx hb dX7_adds_28 (by decide) ?_
  refine z_iald (v := (s16 2)) hx hb hK hP 1 0 rfl rfl (z_in rfl) rfl dX7_adds_29 ?_
  refine lv_imul hx hb dX7_adds_30 ?_
  refine lv_iadd hx hb dX7_adds_31 ?_
  refine lv_iconst (v := 1) hx hb dX7_adds_32 (by decide) ?_
  refine lv_iadd hx hb dX7_adds_33 ?_
  refine lv_iload_n hx hb dX7_adds_34 rfl (lv_at hl 2 rfl) ?_
  replace hf := zs_s hf
  obtain ⟨hi35, s35, es35, hf⟩ := hf
  refine z_iast (ws' := wX7 G ad b (s35, u.2.1, u.2.2.1, u.2.2.2.1, u.2.2.2.2.1, u.2.2.2.2.2.1, u.2.2.2.2.2.2.1, u.2.2.2.2.2.2.2.1, u.2.2.2.2.2.2.2.2.1, u.2.2.2.2.2.2.2.2.2.1, u.2.2.2.2.2.2.2.2.2.2)) hx hb hK hP hD hS 1 0 rfl rfl hi35 es35 rfl dX7_adds_35 (fun H locs hP hD hS => ?_)
  refine lv_aload_n hx hb dX7_adds_36 rfl (lv_at hl 0 rfl) ?_
  refine va_get (D := D) (ci := 8) (v := .ref (ad (b + 1))) (C := RX7) (T := TX7) (N := 11) hx hb hW inlX7 hown hK hP 0 rfl rfl 0 (by decide) (hW _ wd_127) (fun _ h9 => h9) rfl dX7_adds_37 ?_
  refine lv_iconst (v := 2) hx hb dX7_adds_40 (by decide) ?_
  refine lv_dup2_11 hx hb dX7_adds_41 rfl rfl ?_
  refine z_iald (v := (s35 2)) hx hb hK hP 1 0 rfl rfl (z_in rfl) rfl dX7_adds_42 ?_
  refine lv_iconst (v := 1) hx hb dX7_adds_43 (by decide) ?_
  refine lv_iadd hx hb dX7_adds_44 ?_
  replace hf := zn_s hf
  obtain ⟨s45, es45, hf⟩ := hf
  refine z_iast (ws' := wX7 G ad b (s45, u.2.1, u.2.2.1, u.2.2.2.1, u.2.2.2.2.1, u.2.2.2.2.2.1, u.2.2.2.2.2.2.1, u.2.2.2.2.2.2.2.1, u.2.2.2.2.2.2.2.2.1, u.2.2.2.2.2.2.2.2.2.1, u.2.2.2.2.2.2.2.2.2.2)) hx hb hK hP hD hS 1 0 rfl rfl (z_in rfl) es45 rfl dX7_adds_45 (fun H locs hP hD hS => ?_)
  refine lv_aload_n hx hb dX7_adds_46 rfl (lv_at hl 0 rfl) ?_
  refine lv_iload_n hx hb dX7_adds_47 rfl (lv_at hl 1 rfl) ?_
  replace hf := zb_s hf
  obtain ⟨r48, hr48, hf⟩ := hf
  refine z_Vi (rest := []) C0 kX7_128 (c_X7_spotsMany l D G ad (b) (s45, u.2.1, u.2.2.1, u.2.2.2.1, u.2.2.2.2.1, u.2.2.2.2.2.1, u.2.2.2.2.2.2.1, u.2.2.2.2.2.2.2.1, u.2.2.2.2.2.2.2.2.1, u.2.2.2.2.2.2.2.2.2.1, u.2.2.2.2.2.2.2.2.2.2) p1 r48 hr48) z_pall z_pall.symm (ci := 8) (T := TX7) (N := 11) rfl rfl rfl ⟨Nat.le_of_ble_eq_true rfl, Nat.le_of_ble_eq_true rfl⟩ (Nat.le_of_ble_eq_true rfl) rfl hl.1 hP hD hS dX7_adds_48 (fun H locs hP hD hS => ?_)
  obtain rfl := zo hf
  exact hret _ _ _ _ _ hP hD hS rfl dX7_adds_51
