theorem kX1_85 : zLkV RX1 85 yX5_copyFrom cX5_copyFrom 2 none 1 := ⟨⟨wd_146, wd_147, wd_148, wd_35, wd_149⟩, by decide +kernel⟩
theorem kX1_89 : zLkV RX1 89 yX0_copyFrom cX0_copyFrom 2 none 1 := ⟨⟨wd_151, wd_152, wd_153, wd_39, wd_154⟩, by decide +kernel⟩
theorem kX1_92 : zLkV RX1 92 yX3_copyFrom cX3_copyFrom 2 none 1 := ⟨⟨wd_156, wd_157, wd_158, wd_43, wd_159⟩, by decide +kernel⟩
noncomputable def q_X1_copyFrom (u : tX1) (u1 : tX1) : Option (tX1) :=
  zn (va_cpy u1.1 u.1 0 0 5) fun s11 => zn (va_cpy u1.2.1 u.2.1 0 0 8) fun s26 => zb (q_X5_copyFrom u.2.2.1 u1.2.2.1) fun r37 => zb (q_X0_copyFrom u.2.2.2.1 u1.2.2.2.1) fun r48 => zb (q_X3_copyFrom u.2.2.2.2.1 u1.2.2.2.2.1) fun r59 => some ((s11, s26, r37, r48, r59, u1.2.2.2.2.2.1, u1.2.2.2.2.2.2.1, u1.2.2.2.2.2.2.2.1, u1.2.2.2.2.2.2.2.2.1, u1.2.2.2.2.2.2.2.2.2.1, u1.2.2.2.2.2.2.2.2.2.2.1, u1.2.2.2.2.2.2.2.2.2.2.2.1, u1.2.2.2.2.2.2.2.2.2.2.2.2.1, u1.2.2.2.2.2.2.2.2.2.2.2.2.2.1, u1.2.2.2.2.2.2.2.2.2.2.2.2.2.2.1, u1.2.2.2.2.2.2.2.2.2.2.2.2.2.2.2.1, u1.2.2.2.2.2.2.2.2.2.2.2.2.2.2.2.2))
set_option maxRecDepth 100000 in
set_option maxHeartbeats 4000000 in
theorem c_X1_copyFrom (l : Launch) (D : va_G) (G : zG) (ad : Nat → Nat) (b : Nat) (ad1 : Nat → Nat) (b1 : Nat) (u : tX1) (u1 : tX1) (res : tX1) (hf : q_X1_copyFrom u u1 = some res) : zMv l yX1_copyFrom cX1_copyFrom 2 none 2 47 D G (wX1 G ad b u ++ wX1 G ad1 b1 u1) (wX1 G ad b res ++ wX1 G ad1 b1 u1) [.ref (ad b), .ref (ad1 b1)] := by
  refine zs_v (plainFor_of_name (by decide)) (Nat.le_of_ble_eq_true rfl) ?_
  intro p e s m args below meth c A Q H ls C0 hret hP hD hS hl
  obtain ⟨hx, hb, hml, hown, hW, hK, hlocks, hF, hr, hA⟩ := id C0
  replace hl : lv_has ls 2 [(0, .ref (ad b)), (1, .ref (ad1 b1))] := hl
  unfold q_X1_copyFrom at hf
  refine lv_aload_n hx hb dX1_copyFrom_0 rfl (lv_at hl 1 rfl) ?_
  refine va_get (D := D) (ci := 2) (v := .ref (ad1 (b1 + 1))) (C := RX1) (T := TX1) (N := 17) hx hb hW inlX1 hown hK hP 12 rfl rfl 0 (by decide) (hW _ wd_31) (fun _ h9 => h9) rfl dX1_copyFrom_1 ?_
  refine lv_iconst (v := 0) hx hb dX1_copyFrom_4 (by decide) ?_
  refine lv_aload_n hx hb dX1_copyFrom_5 rfl (lv_at hl 0 rfl) ?_
  refine va_get (D := D) (ci := 2) (v := .ref (ad (b + 1))) (C := RX1) (T := TX1) (N := 17) hx hb hW inlX1 hown hK hP 0 rfl rfl 0 (by decide) (hW _ wd_31) (fun _ h9 => h9) rfl dX1_copyFrom_6 ?_
  refine lv_iconst (v := 0) hx hb dX1_copyFrom_9 (by decide) ?_
  refine lv_iconst (v := 5) hx hb dX1_copyFrom_10 (by decide) ?_
  replace hf := zn_s hf
  obtain ⟨s11, es11, hf⟩ := hf
  refine z_copyi (ws' := wX1 G ad b (s11, u.2.1, u.2.2.1, u.2.2.2.1, u.2.2.2.2.1, u.2.2.2.2.2.1, u.2.2.2.2.2.2.1, u.2.2.2.2.2.2.2.1, u.2.2.2.2.2.2.2.2.1, u.2.2.2.2.2.2.2.2.2.1, u.2.2.2.2.2.2.2.2.2.2.1, u.2.2.2.2.2.2.2.2.2.2.2.1, u.2.2.2.2.2.2.2.2.2.2.2.2.1, u.2.2.2.2.2.2.2.2.2.2.2.2.2.1, u.2.2.2.2.2.2.2.2.2.2.2.2.2.2.1, u.2.2.2.2.2.2.2.2.2.2.2.2.2.2.2.1, u.2.2.2.2.2.2.2.2.2.2.2.2.2.2.2.2) ++ wX1 G ad1 b1 u1) hx hb (hml.trans hl.1.symm) hown (hW _ wd_57) (hW _ wd_58) (hW _ wd_59) (hW _ wd_60) hK hP hD hS 13 1 0 rfl rfl rfl (by decide) (k := 5) (by decide) (by decide) (by decide) es11 rfl (Nat.le_of_ble_eq_true rfl) (Nat.le_of_ble_eq_true rfl) dX1_copyFrom_11 (fun H locs hP hD hS => ?_)
  refine lv_aload_n hx hb dX1_copyFrom_14 rfl (lv_at hl 1 rfl) ?_
  refine va_get (D := D) (ci := 2) (v := .ref (ad1 (b1 + 2))) (C := RX1) (T := TX1) (N := 17) hx hb hW inlX1 hown hK hP 12 rfl rfl 1 (by decide) (hW _ wd_32) (fun _ h9 => h9) rfl dX1_copyFrom_15 ?_
  refine lv_iconst (v := 0) hx hb dX1_copyFrom_18 (by decide) ?_
  refine lv_aload_n hx hb dX1_copyFrom_19 rfl (lv_at hl 0 rfl) ?_
  refine va_get (D := D) (ci := 2) (v := .ref (ad (b + 2))) (C := RX1) (T := TX1) (N := 17) hx hb hW inlX1 hown hK hP 0 rfl rfl 1 (by decide) (hW _ wd_32) (fun _ h9 => h9) rfl dX1_copyFrom_20 ?_
  refine lv_iconst (v := 0) hx hb dX1_copyFrom_23 (by decide) ?_
  refine lv_bipush (v := 8) hx hb dX1_copyFrom_24 (by decide) ?_
  replace hf := zn_s hf
  obtain ⟨s26, es26, hf⟩ := hf
  refine z_copyi (ws' := wX1 G ad b (s11, s26, u.2.2.1, u.2.2.2.1, u.2.2.2.2.1, u.2.2.2.2.2.1, u.2.2.2.2.2.2.1, u.2.2.2.2.2.2.2.1, u.2.2.2.2.2.2.2.2.1, u.2.2.2.2.2.2.2.2.2.1, u.2.2.2.2.2.2.2.2.2.2.1, u.2.2.2.2.2.2.2.2.2.2.2.1, u.2.2.2.2.2.2.2.2.2.2.2.2.1, u.2.2.2.2.2.2.2.2.2.2.2.2.2.1, u.2.2.2.2.2.2.2.2.2.2.2.2.2.2.1, u.2.2.2.2.2.2.2.2.2.2.2.2.2.2.2.1, u.2.2.2.2.2.2.2.2.2.2.2.2.2.2.2.2) ++ wX1 G ad1 b1 u1) hx hb (hml.trans hl.1.symm) hown (hW _ wd_57) (hW _ wd_58) (hW _ wd_59) (hW _ wd_60) hK hP hD hS 14 2 0 rfl rfl rfl (by decide) (k := 8) (by decide) (by decide) (by decide) es26 rfl (Nat.le_of_ble_eq_true rfl) (Nat.le_of_ble_eq_true rfl) dX1_copyFrom_26 (fun H locs hP hD hS => ?_)
  refine lv_aload_n hx hb dX1_copyFrom_29 rfl (lv_at hl 0 rfl) ?_
  refine va_get (D := D) (ci := 2) (v := .ref (ad (b + 3))) (C := RX1) (T := TX1) (N := 17) hx hb hW inlX1 hown hK hP 0 rfl rfl 2 (by decide) (hW _ wd_36) (fun _ h9 => h9) rfl dX1_copyFrom_30 ?_
  refine lv_aload_n hx hb dX1_copyFrom_33 rfl (lv_at hl 1 rfl) ?_
  refine va_get (D := D) (ci := 2) (v := .ref (ad1 (b1 + 3))) (C := RX1) (T := TX1) (N := 17) hx hb hW inlX1 hown hK hP 12 rfl rfl 2 (by decide) (hW _ wd_36) (fun _ h9 => h9) rfl dX1_copyFrom_34 ?_
  replace hf := zb_s hf
  obtain ⟨r37, hr37, hf⟩ := hf
  refine z_Vv (rest := []) C0 kX1_85 (c_X5_copyFrom l D G ad (b + 3) ad1 (b1 + 3) u.2.2.1 u1.2.2.1 r37 hr37) (z_p2 (pmX1_spots G ad (b) (s11, s26, u.2.2.1, u.2.2.2.1, u.2.2.2.2.1, u.2.2.2.2.2.1, u.2.2.2.2.2.2.1, u.2.2.2.2.2.2.2.1, u.2.2.2.2.2.2.2.2.1, u.2.2.2.2.2.2.2.2.2.1, u.2.2.2.2.2.2.2.2.2.2.1, u.2.2.2.2.2.2.2.2.2.2.2.1, u.2.2.2.2.2.2.2.2.2.2.2.2.1, u.2.2.2.2.2.2.2.2.2.2.2.2.2.1, u.2.2.2.2.2.2.2.2.2.2.2.2.2.2.1, u.2.2.2.2.2.2.2.2.2.2.2.2.2.2.2.1, u.2.2.2.2.2.2.2.2.2.2.2.2.2.2.2.2)) (pmX1_spots G ad1 (b1) u1)) (z_p2b (pnX1_spots G ad (b) (s11, s26, u.2.2.1, u.2.2.2.1, u.2.2.2.2.1, u.2.2.2.2.2.1, u.2.2.2.2.2.2.1, u.2.2.2.2.2.2.2.1, u.2.2.2.2.2.2.2.2.1, u.2.2.2.2.2.2.2.2.2.1, u.2.2.2.2.2.2.2.2.2.2.1, u.2.2.2.2.2.2.2.2.2.2.2.1, u.2.2.2.2.2.2.2.2.2.2.2.2.1, u.2.2.2.2.2.2.2.2.2.2.2.2.2.1, u.2.2.2.2.2.2.2.2.2.2.2.2.2.2.1, u.2.2.2.2.2.2.2.2.2.2.2.2.2.2.2.1, u.2.2.2.2.2.2.2.2.2.2.2.2.2.2.2.2) r37) (pnX1_spots G ad1 (b1) u1 u1.2.2.1)) (ci := 6) (T := TX5) (N := 3) rfl rfl rfl ⟨Nat.le_of_ble_eq_true rfl, Nat.le_of_ble_eq_true rfl⟩ (Nat.le_of_ble_eq_true rfl) rfl hl.1 hP hD hS dX1_copyFrom_37 (fun H locs hP hD hS => ?_)
  replace hP : va_P D vwCl (wX1 G ad b (s11, s26, r37, u.2.2.2.1, u.2.2.2.2.1, u.2.2.2.2.2.1, u.2.2.2.2.2.2.1, u.2.2.2.2.2.2.2.1, u.2.2.2.2.2.2.2.2.1, u.2.2.2.2.2.2.2.2.2.1, u.2.2.2.2.2.2.2.2.2.2.1, u.2.2.2.2.2.2.2.2.2.2.2.1, u.2.2.2.2.2.2.2.2.2.2.2.2.1, u.2.2.2.2.2.2.2.2.2.2.2.2.2.1, u.2.2.2.2.2.2.2.2.2.2.2.2.2.2.1, u.2.2.2.2.2.2.2.2.2.2.2.2.2.2.2.1, u.2.2.2.2.2.2.2.2.2.2.2.2.2.2.2.2) ++ wX1 G ad1 b1 u1) H := hP
  replace hD : va_D A (wX1 G ad b (s11, s26, r37, u.2.2.2.1, u.2.2.2.2.1, u.2.2.2.2.2.1, u.2.2.2.2.2.2.1, u.2.2.2.2.2.2.2.1, u.2.2.2.2.2.2.2.2.1, u.2.2.2.2.2.2.2.2.2.1, u.2.2.2.2.2.2.2.2.2.2.1, u.2.2.2.2.2.2.2.2.2.2.2.1, u.2.2.2.2.2.2.2.2.2.2.2.2.1, u.2.2.2.2.2.2.2.2.2.2.2.2.2.1, u.2.2.2.2.2.2.2.2.2.2.2.2.2.2.1, u.2.2.2.2.2.2.2.2.2.2.2.2.2.2.2.1, u.2.2.2.2.2.2.2.2.2.2.2.2.2.2.2.2) ++ wX1 G ad1 b1 u1) := hD
  refine lv_aload_n hx hb dX1_copyFrom_40 rfl (lv_at hl 0 rfl) ?_
  refine va_get (D := D) (ci := 2) (v := .ref (ad (b + 6))) (C := RX1) (T := TX1) (N := 17) hx hb hW inlX1 hown hK hP 0 rfl rfl 3 (by decide) (hW _ wd_40) (fun _ h9 => h9) rfl dX1_copyFrom_41 ?_
  refine lv_aload_n hx hb dX1_copyFrom_44 rfl (lv_at hl 1 rfl) ?_
  refine va_get (D := D) (ci := 2) (v := .ref (ad1 (b1 + 6))) (C := RX1) (T := TX1) (N := 17) hx hb hW inlX1 hown hK hP 12 rfl rfl 3 (by decide) (hW _ wd_40) (fun _ h9 => h9) rfl dX1_copyFrom_45 ?_
  replace hf := zb_s hf
  obtain ⟨r48, hr48, hf⟩ := hf
  refine z_Vv (rest := []) C0 kX1_89 (c_X0_copyFrom l D G ad (b + 6) ad1 (b1 + 6) u.2.2.2.1 u1.2.2.2.1 r48 hr48) (z_p2 (pmX1_asked G ad (b) (s11, s26, r37, u.2.2.2.1, u.2.2.2.2.1, u.2.2.2.2.2.1, u.2.2.2.2.2.2.1, u.2.2.2.2.2.2.2.1, u.2.2.2.2.2.2.2.2.1, u.2.2.2.2.2.2.2.2.2.1, u.2.2.2.2.2.2.2.2.2.2.1, u.2.2.2.2.2.2.2.2.2.2.2.1, u.2.2.2.2.2.2.2.2.2.2.2.2.1, u.2.2.2.2.2.2.2.2.2.2.2.2.2.1, u.2.2.2.2.2.2.2.2.2.2.2.2.2.2.1, u.2.2.2.2.2.2.2.2.2.2.2.2.2.2.2.1, u.2.2.2.2.2.2.2.2.2.2.2.2.2.2.2.2)) (pmX1_asked G ad1 (b1) u1)) (z_p2b (pnX1_asked G ad (b) (s11, s26, r37, u.2.2.2.1, u.2.2.2.2.1, u.2.2.2.2.2.1, u.2.2.2.2.2.2.1, u.2.2.2.2.2.2.2.1, u.2.2.2.2.2.2.2.2.1, u.2.2.2.2.2.2.2.2.2.1, u.2.2.2.2.2.2.2.2.2.2.1, u.2.2.2.2.2.2.2.2.2.2.2.1, u.2.2.2.2.2.2.2.2.2.2.2.2.1, u.2.2.2.2.2.2.2.2.2.2.2.2.2.1, u.2.2.2.2.2.2.2.2.2.2.2.2.2.2.1, u.2.2.2.2.2.2.2.2.2.2.2.2.2.2.2.1, u.2.2.2.2.2.2.2.2.2.2.2.2.2.2.2.2) r48) (pnX1_asked G ad1 (b1) u1 u1.2.2.2.1)) (ci := 1) (T := TX0) (N := 2) rfl rfl rfl ⟨Nat.le_of_ble_eq_true rfl, Nat.le_of_ble_eq_true rfl⟩ (Nat.le_of_ble_eq_true rfl) rfl hl.1 hP hD hS dX1_copyFrom_48 (fun H locs hP hD hS => ?_)
  replace hP : va_P D vwCl (wX1 G ad b (s11, s26, r37, r48, u.2.2.2.2.1, u.2.2.2.2.2.1, u.2.2.2.2.2.2.1, u.2.2.2.2.2.2.2.1, u.2.2.2.2.2.2.2.2.1, u.2.2.2.2.2.2.2.2.2.1, u.2.2.2.2.2.2.2.2.2.2.1, u.2.2.2.2.2.2.2.2.2.2.2.1, u.2.2.2.2.2.2.2.2.2.2.2.2.1, u.2.2.2.2.2.2.2.2.2.2.2.2.2.1, u.2.2.2.2.2.2.2.2.2.2.2.2.2.2.1, u.2.2.2.2.2.2.2.2.2.2.2.2.2.2.2.1, u.2.2.2.2.2.2.2.2.2.2.2.2.2.2.2.2) ++ wX1 G ad1 b1 u1) H := hP
  replace hD : va_D A (wX1 G ad b (s11, s26, r37, r48, u.2.2.2.2.1, u.2.2.2.2.2.1, u.2.2.2.2.2.2.1, u.2.2.2.2.2.2.2.1, u.2.2.2.2.2.2.2.2.1, u.2.2.2.2.2.2.2.2.2.1, u.2.2.2.2.2.2.2.2.2.2.1, u.2.2.2.2.2.2.2.2.2.2.2.1, u.2.2.2.2.2.2.2.2.2.2.2.2.1, u.2.2.2.2.2.2.2.2.2.2.2.2.2.1, u.2.2.2.2.2.2.2.2.2.2.2.2.2.2.1, u.2.2.2.2.2.2.2.2.2.2.2.2.2.2.2.1, u.2.2.2.2.2.2.2.2.2.2.2.2.2.2.2.2) ++ wX1 G ad1 b1 u1) := hD
  refine lv_aload_n hx hb dX1_copyFrom_51 rfl (lv_at hl 0 rfl) ?_
  refine va_get (D := D) (ci := 2) (v := .ref (ad (b + 8))) (C := RX1) (T := TX1) (N := 17) hx hb hW inlX1 hown hK hP 0 rfl rfl 4 (by decide) (hW _ wd_44) (fun _ h9 => h9) rfl dX1_copyFrom_52 ?_
  refine lv_aload_n hx hb dX1_copyFrom_55 rfl (lv_at hl 1 rfl) ?_
  refine va_get (D := D) (ci := 2) (v := .ref (ad1 (b1 + 8))) (C := RX1) (T := TX1) (N := 17) hx hb hW inlX1 hown hK hP 12 rfl rfl 4 (by decide) (hW _ wd_44) (fun _ h9 => h9) rfl dX1_copyFrom_56 ?_
  replace hf := zb_s hf
  obtain ⟨r59, hr59, hf⟩ := hf
  refine z_Vv (rest := []) C0 kX1_92 (c_X3_copyFrom l D G ad (b + 8) ad1 (b1 + 8) u.2.2.2.2.1 u1.2.2.2.2.1 r59 hr59) (z_p2 (pmX1_log G ad (b) (s11, s26, r37, r48, u.2.2.2.2.1, u.2.2.2.2.2.1, u.2.2.2.2.2.2.1, u.2.2.2.2.2.2.2.1, u.2.2.2.2.2.2.2.2.1, u.2.2.2.2.2.2.2.2.2.1, u.2.2.2.2.2.2.2.2.2.2.1, u.2.2.2.2.2.2.2.2.2.2.2.1, u.2.2.2.2.2.2.2.2.2.2.2.2.1, u.2.2.2.2.2.2.2.2.2.2.2.2.2.1, u.2.2.2.2.2.2.2.2.2.2.2.2.2.2.1, u.2.2.2.2.2.2.2.2.2.2.2.2.2.2.2.1, u.2.2.2.2.2.2.2.2.2.2.2.2.2.2.2.2)) (pmX1_log G ad1 (b1) u1)) (z_p2b (pnX1_log G ad (b) (s11, s26, r37, r48, u.2.2.2.2.1, u.2.2.2.2.2.1, u.2.2.2.2.2.2.1, u.2.2.2.2.2.2.2.1, u.2.2.2.2.2.2.2.2.1, u.2.2.2.2.2.2.2.2.2.1, u.2.2.2.2.2.2.2.2.2.2.1, u.2.2.2.2.2.2.2.2.2.2.2.1, u.2.2.2.2.2.2.2.2.2.2.2.2.1, u.2.2.2.2.2.2.2.2.2.2.2.2.2.1, u.2.2.2.2.2.2.2.2.2.2.2.2.2.2.1, u.2.2.2.2.2.2.2.2.2.2.2.2.2.2.2.1, u.2.2.2.2.2.2.2.2.2.2.2.2.2.2.2.2) r59) (pnX1_log G ad1 (b1) u1 u1.2.2.2.2.1)) (ci := 4) (T := TX3) (N := 5) rfl rfl rfl ⟨Nat.le_of_ble_eq_true rfl, Nat.le_of_ble_eq_true rfl⟩ (Nat.le_of_ble_eq_true rfl) rfl hl.1 hP hD hS dX1_copyFrom_59 (fun H locs hP hD hS => ?_)
  replace hP : va_P D vwCl (wX1 G ad b (s11, s26, r37, r48, r59, u.2.2.2.2.2.1, u.2.2.2.2.2.2.1, u.2.2.2.2.2.2.2.1, u.2.2.2.2.2.2.2.2.1, u.2.2.2.2.2.2.2.2.2.1, u.2.2.2.2.2.2.2.2.2.2.1, u.2.2.2.2.2.2.2.2.2.2.2.1, u.2.2.2.2.2.2.2.2.2.2.2.2.1, u.2.2.2.2.2.2.2.2.2.2.2.2.2.1, u.2.2.2.2.2.2.2.2.2.2.2.2.2.2.1, u.2.2.2.2.2.2.2.2.2.2.2.2.2.2.2.1, u.2.2.2.2.2.2.2.2.2.2.2.2.2.2.2.2) ++ wX1 G ad1 b1 u1) H := hP
  replace hD : va_D A (wX1 G ad b (s11, s26, r37, r48, r59, u.2.2.2.2.2.1, u.2.2.2.2.2.2.1, u.2.2.2.2.2.2.2.1, u.2.2.2.2.2.2.2.2.1, u.2.2.2.2.2.2.2.2.2.1, u.2.2.2.2.2.2.2.2.2.2.1, u.2.2.2.2.2.2.2.2.2.2.2.1, u.2.2.2.2.2.2.2.2.2.2.2.2.1, u.2.2.2.2.2.2.2.2.2.2.2.2.2.1, u.2.2.2.2.2.2.2.2.2.2.2.2.2.2.1, u.2.2.2.2.2.2.2.2.2.2.2.2.2.2.2.1, u.2.2.2.2.2.2.2.2.2.2.2.2.2.2.2.2) ++ wX1 G ad1 b1 u1) := hD
  refine lv_aload_n hx hb dX1_copyFrom_62 rfl (lv_at hl 0 rfl) ?_
  refine lv_aload_n hx hb dX1_copyFrom_63 rfl (lv_at hl 1 rfl) ?_
  refine va_get (D := D) (ci := 2) (v := .int u1.2.2.2.2.2.1) (C := RX1) (T := TX1) (N := 17) hx hb hW inlX1 hown hK hP 12 rfl rfl 5 (by decide) (hW _ wd_45) (fun _ h9 => h9) rfl dX1_copyFrom_64 ?_
  refine z_put (ws' := wX1 G ad b (s11, s26, r37, r48, r59, u1.2.2.2.2.2.1, u.2.2.2.2.2.2.1, u.2.2.2.2.2.2.2.1, u.2.2.2.2.2.2.2.2.1, u.2.2.2.2.2.2.2.2.2.1, u.2.2.2.2.2.2.2.2.2.2.1, u.2.2.2.2.2.2.2.2.2.2.2.1, u.2.2.2.2.2.2.2.2.2.2.2.2.1, u.2.2.2.2.2.2.2.2.2.2.2.2.2.1, u.2.2.2.2.2.2.2.2.2.2.2.2.2.2.1, u.2.2.2.2.2.2.2.2.2.2.2.2.2.2.2.1, u.2.2.2.2.2.2.2.2.2.2.2.2.2.2.2.2) ++ wX1 G ad1 b1 u1) (ci := 2) (C := RX1) (T := TX1) (N := 17) hx hb hW inlX1 tyX1 tyX1_ok nmX1 hown hK hP hD hS 0 rfl rfl 5 (by decide) (hW _ wd_45) rfl rfl (Nat.le_of_ble_eq_true rfl) rfl dX1_copyFrom_67 (fun H locs hP hD hS => ?_)
  refine lv_aload_n hx hb dX1_copyFrom_70 rfl (lv_at hl 0 rfl) ?_
  refine lv_aload_n hx hb dX1_copyFrom_71 rfl (lv_at hl 1 rfl) ?_
  refine va_get (D := D) (ci := 2) (v := .int u1.2.2.2.2.2.2.1) (C := RX1) (T := TX1) (N := 17) hx hb hW inlX1 hown hK hP 12 rfl rfl 6 (by decide) (hW _ wd_46) (fun _ h9 => h9) rfl dX1_copyFrom_72 ?_
  refine z_put (ws' := wX1 G ad b (s11, s26, r37, r48, r59, u1.2.2.2.2.2.1, u1.2.2.2.2.2.2.1, u.2.2.2.2.2.2.2.1, u.2.2.2.2.2.2.2.2.1, u.2.2.2.2.2.2.2.2.2.1, u.2.2.2.2.2.2.2.2.2.2.1, u.2.2.2.2.2.2.2.2.2.2.2.1, u.2.2.2.2.2.2.2.2.2.2.2.2.1, u.2.2.2.2.2.2.2.2.2.2.2.2.2.1, u.2.2.2.2.2.2.2.2.2.2.2.2.2.2.1, u.2.2.2.2.2.2.2.2.2.2.2.2.2.2.2.1, u.2.2.2.2.2.2.2.2.2.2.2.2.2.2.2.2) ++ wX1 G ad1 b1 u1) (ci := 2) (C := RX1) (T := TX1) (N := 17) hx hb hW inlX1 tyX1 tyX1_ok nmX1 hown hK hP hD hS 0 rfl rfl 6 (by decide) (hW _ wd_46) rfl rfl (Nat.le_of_ble_eq_true rfl) rfl dX1_copyFrom_75 (fun H locs hP hD hS => ?_)
  refine lv_aload_n hx hb dX1_copyFrom_78 rfl (lv_at hl 0 rfl) ?_
  refine lv_aload_n hx hb dX1_copyFrom_79 rfl (lv_at hl 1 rfl) ?_
  refine va_get (D := D) (ci := 2) (v := .int u1.2.2.2.2.2.2.2.1) (C := RX1) (T := TX1) (N := 17) hx hb hW inlX1 hown hK hP 12 rfl rfl 7 (by decide) (hW _ wd_47) (fun _ h9 => h9) rfl dX1_copyFrom_80 ?_
  refine z_put (ws' := wX1 G ad b (s11, s26, r37, r48, r59, u1.2.2.2.2.2.1, u1.2.2.2.2.2.2.1, u1.2.2.2.2.2.2.2.1, u.2.2.2.2.2.2.2.2.1, u.2.2.2.2.2.2.2.2.2.1, u.2.2.2.2.2.2.2.2.2.2.1, u.2.2.2.2.2.2.2.2.2.2.2.1, u.2.2.2.2.2.2.2.2.2.2.2.2.1, u.2.2.2.2.2.2.2.2.2.2.2.2.2.1, u.2.2.2.2.2.2.2.2.2.2.2.2.2.2.1, u.2.2.2.2.2.2.2.2.2.2.2.2.2.2.2.1, u.2.2.2.2.2.2.2.2.2.2.2.2.2.2.2.2) ++ wX1 G ad1 b1 u1) (ci := 2) (C := RX1) (T := TX1) (N := 17) hx hb hW inlX1 tyX1 tyX1_ok nmX1 hown hK hP hD hS 0 rfl rfl 7 (by decide) (hW _ wd_47) rfl rfl (Nat.le_of_ble_eq_true rfl) rfl dX1_copyFrom_83 (fun H locs hP hD hS => ?_)
  refine lv_aload_n hx hb dX1_copyFrom_86 rfl (lv_at hl 0 rfl) ?_
  refine lv_aload_n hx hb dX1_copyFrom_87 rfl (lv_at hl 1 rfl) ?_
  refine va_get (D := D) (ci := 2) (v := .int u1.2.2.2.2.2.2.2.2.1) (C := RX1) (T := TX1) (N := 17) hx hb hW inlX1 hown hK hP 12 rfl rfl 8 (by decide) (hW _ wd_48) (fun _ h9 => h9) rfl dX1_copyFrom_88 ?_
  refine z_put (ws' := wX1 G ad b (s11, s26, r37, r48, r59, u1.2.2.2.2.2.1, u1.2.2.2.2.2.2.1, u1.2.2.2.2.2.2.2.1, u1.2.2.2.2.2.2.2.2.1, u.2.2.2.2.2.2.2.2.2.1, u.2.2.2.2.2.2.2.2.2.2.1, u.2.2.2.2.2.2.2.2.2.2.2.1, u.2.2.2.2.2.2.2.2.2.2.2.2.1, u.2.2.2.2.2.2.2.2.2.2.2.2.2.1, u.2.2.2.2.2.2.2.2.2.2.2.2.2.2.1, u.2.2.2.2.2.2.2.2.2.2.2.2.2.2.2.1, u.2.2.2.2.2.2.2.2.2.2.2.2.2.2.2.2) ++ wX1 G ad1 b1 u1) (ci := 2) (C := RX1) (T := TX1) (N := 17) hx hb hW inlX1 tyX1 tyX1_ok nmX1 hown hK hP hD hS 0 rfl rfl 8 (by decide) (hW _ wd_48) rfl rfl (Nat.le_of_ble_eq_true rfl) rfl dX1_copyFrom_91 (fun H locs hP hD hS => ?_)
  refine lv_aload_n hx hb dX1_copyFrom_94 rfl (lv_at hl 0 rfl) ?_
  refine lv_aload_n hx hb dX1_copyFrom_95 rfl (lv_at hl 1 rfl) ?_
  refine va_get (D := D) (ci := 2) (v := .int u1.2.2.2.2.2.2.2.2.2.1) (C := RX1) (T := TX1) (N := 17) hx hb hW inlX1 hown hK hP 12 rfl rfl 9 (by decide) (hW _ wd_49) (fun _ h9 => h9) rfl dX1_copyFrom_96 ?_
  refine z_put (ws' := wX1 G ad b (s11, s26, r37, r48, r59, u1.2.2.2.2.2.1, u1.2.2.2.2.2.2.1, u1.2.2.2.2.2.2.2.1, u1.2.2.2.2.2.2.2.2.1, u1.2.2.2.2.2.2.2.2.2.1, u.2.2.2.2.2.2.2.2.2.2.1, u.2.2.2.2.2.2.2.2.2.2.2.1, u.2.2.2.2.2.2.2.2.2.2.2.2.1, u.2.2.2.2.2.2.2.2.2.2.2.2.2.1, u.2.2.2.2.2.2.2.2.2.2.2.2.2.2.1, u.2.2.2.2.2.2.2.2.2.2.2.2.2.2.2.1, u.2.2.2.2.2.2.2.2.2.2.2.2.2.2.2.2) ++ wX1 G ad1 b1 u1) (ci := 2) (C := RX1) (T := TX1) (N := 17) hx hb hW inlX1 tyX1 tyX1_ok nmX1 hown hK hP hD hS 0 rfl rfl 9 (by decide) (hW _ wd_49) rfl rfl (Nat.le_of_ble_eq_true rfl) rfl dX1_copyFrom_99 (fun H locs hP hD hS => ?_)
  refine lv_aload_n hx hb dX1_copyFrom_102 rfl (lv_at hl 0 rfl) ?_
  refine lv_aload_n hx hb dX1_copyFrom_103 rfl (lv_at hl 1 rfl) ?_
  refine va_get (D := D) (ci := 2) (v := .int u1.2.2.2.2.2.2.2.2.2.2.1) (C := RX1) (T := TX1) (N := 17) hx hb hW inlX1 hown hK hP 12 rfl rfl 10 (by decide) (hW _ wd_50) (fun _ h9 => h9) rfl dX1_copyFrom_104 ?_
  refine z_put (ws' := wX1 G ad b (s11, s26, r37, r48, r59, u1.2.2.2.2.2.1, u1.2.2.2.2.2.2.1, u1.2.2.2.2.2.2.2.1, u1.2.2.2.2.2.2.2.2.1, u1.2.2.2.2.2.2.2.2.2.1, u1.2.2.2.2.2.2.2.2.2.2.1, u.2.2.2.2.2.2.2.2.2.2.2.1, u.2.2.2.2.2.2.2.2.2.2.2.2.1, u.2.2.2.2.2.2.2.2.2.2.2.2.2.1, u.2.2.2.2.2.2.2.2.2.2.2.2.2.2.1, u.2.2.2.2.2.2.2.2.2.2.2.2.2.2.2.1, u.2.2.2.2.2.2.2.2.2.2.2.2.2.2.2.2) ++ wX1 G ad1 b1 u1) (ci := 2) (C := RX1) (T := TX1) (N := 17) hx hb hW inlX1 tyX1 tyX1_ok nmX1 hown hK hP hD hS 0 rfl rfl 10 (by decide) (hW _ wd_50) rfl rfl (Nat.le_of_ble_eq_true rfl) rfl dX1_copyFrom_107 (fun H locs hP hD hS => ?_)
  refine lv_aload_n hx hb dX1_copyFrom_110 rfl (lv_at hl 0 rfl) ?_
  refine lv_aload_n hx hb dX1_copyFrom_111 rfl (lv_at hl 1 rfl) ?_
  refine va_get (D := D) (ci := 2) (v := .int u1.2.2.2.2.2.2.2.2.2.2.2.1) (C := RX1) (T := TX1) (N := 17) hx hb hW inlX1 hown hK hP 12 rfl rfl 11 (by decide) (hW _ wd_51) (fun _ h9 => h9) rfl dX1_copyFrom_112 ?_
  refine z_put (ws' := wX1 G ad b (s11, s26, r37, r48, r59, u1.2.2.2.2.2.1, u1.2.2.2.2.2.2.1, u1.2.2.2.2.2.2.2.1, u1.2.2.2.2.2.2.2.2.1, u1.2.2.2.2.2.2.2.2.2.1, u1.2.2.2.2.2.2.2.2.2.2.1, u1.2.2.2.2.2.2.2.2.2.2.2.1, u.2.2.2.2.2.2.2.2.2.2.2.2.1, u.2.2.2.2.2.2.2.2.2.2.2.2.2.1, u.2.2.2.2.2.2.2.2.2.2.2.2.2.2.1, u.2.2.2.2.2.2.2.2.2.2.2.2.2.2.2.1, u.2.2.2.2.2.2.2.2.2.2.2.2.2.2.2.2) ++ wX1 G ad1 b1 u1) (ci := 2) (C := RX1) (T := TX1) (N := 17) hx hb hW inlX1 tyX1 tyX1_ok nmX1 hown hK hP hD hS 0 rfl rfl 11 (by decide) (hW _ wd_51) rfl rfl (Nat.le_of_ble_eq_true rfl) rfl dX1_copyFrom_115 (fun H locs hP hD hS => ?_)
  refine lv_aload_n hx hb dX1_copyFrom_118 rfl (lv_at hl 0 rfl) ?_
  refine lv_aload_n hx hb dX1_copyFrom_119 rfl (lv_at hl 1 rfl) ?_
  refine va_get (D := D) (ci := 2) (v := .int u1.2.2.2.2.2.2.2.2.2.2.2.2.1) (C := RX1) (T := TX1) (N := 17) hx hb hW inlX1 hown hK hP 12 rfl rfl 12 (by decide) (hW _ wd_52) (fun _ h9 => h9) rfl dX1_copyFrom_120 ?_
  refine z_put (ws' := wX1 G ad b (s11, s26, r37, r48, r59, u1.2.2.2.2.2.1, u1.2.2.2.2.2.2.1, u1.2.2.2.2.2.2.2.1, u1.2.2.2.2.2.2.2.2.1, u1.2.2.2.2.2.2.2.2.2.1, u1.2.2.2.2.2.2.2.2.2.2.1, u1.2.2.2.2.2.2.2.2.2.2.2.1, u1.2.2.2.2.2.2.2.2.2.2.2.2.1, u.2.2.2.2.2.2.2.2.2.2.2.2.2.1, u.2.2.2.2.2.2.2.2.2.2.2.2.2.2.1, u.2.2.2.2.2.2.2.2.2.2.2.2.2.2.2.1, u.2.2.2.2.2.2.2.2.2.2.2.2.2.2.2.2) ++ wX1 G ad1 b1 u1) (ci := 2) (C := RX1) (T := TX1) (N := 17) hx hb hW inlX1 tyX1 tyX1_ok nmX1 hown hK hP hD hS 0 rfl rfl 12 (by decide) (hW _ wd_52) rfl rfl (Nat.le_of_ble_eq_true rfl) rfl dX1_copyFrom_123 (fun H locs hP hD hS => ?_)
  refine lv_aload_n hx hb dX1_copyFrom_126 rfl (lv_at hl 0 rfl) ?_
  refine lv_aload_n hx hb dX1_copyFrom_127 rfl (lv_at hl 1 rfl) ?_
  refine va_get (D := D) (ci := 2) (v := .int u1.2.2.2.2.2.2.2.2.2.2.2.2.2.1) (C := RX1) (T := TX1) (N := 17) hx hb hW inlX1 hown hK hP 12 rfl rfl 13 (by decide) (hW _ wd_53) (fun _ h9 => h9) rfl dX1_copyFrom_128 ?_
  refine z_put (ws' := wX1 G ad b (s11, s26, r37, r48, r59, u1.2.2.2.2.2.1, u1.2.2.2.2.2.2.1, u1.2.2.2.2.2.2.2.1, u1.2.2.2.2.2.2.2.2.1, u1.2.2.2.2.2.2.2.2.2.1, u1.2.2.2.2.2.2.2.2.2.2.1, u1.2.2.2.2.2.2.2.2.2.2.2.1, u1.2.2.2.2.2.2.2.2.2.2.2.2.1, u1.2.2.2.2.2.2.2.2.2.2.2.2.2.1, u.2.2.2.2.2.2.2.2.2.2.2.2.2.2.1, u.2.2.2.2.2.2.2.2.2.2.2.2.2.2.2.1, u.2.2.2.2.2.2.2.2.2.2.2.2.2.2.2.2) ++ wX1 G ad1 b1 u1) (ci := 2) (C := RX1) (T := TX1) (N := 17) hx hb hW inlX1 tyX1 tyX1_ok nmX1 hown hK hP hD hS 0 rfl rfl 13 (by decide) (hW _ wd_53) rfl rfl (Nat.le_of_ble_eq_true rfl) rfl dX1_copyFrom_131 (fun H locs hP hD hS => ?_)
  refine lv_aload_n hx hb dX1_copyFrom_134 rfl (lv_at hl 0 rfl) ?_
  refine lv_aload_n hx hb dX1_copyFrom_135 rfl (lv_at hl 1 rfl) ?_
  refine va_get (D := D) (ci := 2) (v := .int u1.2.2.2.2.2.2.2.2.2.2.2.2.2.2.1) (C := RX1) (T := TX1) (N := 17) hx hb hW inlX1 hown hK hP 12 rfl rfl 14 (by decide) (hW _ wd_54) (fun _ h9 => h9) rfl dX1_copyFrom_136 ?_
  refine z_put (ws' := wX1 G ad b (s11, s26, r37, r48, r59, u1.2.2.2.2.2.1, u1.2.2.2.2.2.2.1, u1.2.2.2.2.2.2.2.1, u1.2.2.2.2.2.2.2.2.1, u1.2.2.2.2.2.2.2.2.2.1, u1.2.2.2.2.2.2.2.2.2.2.1, u1.2.2.2.2.2.2.2.2.2.2.2.1, u1.2.2.2.2.2.2.2.2.2.2.2.2.1, u1.2.2.2.2.2.2.2.2.2.2.2.2.2.1, u1.2.2.2.2.2.2.2.2.2.2.2.2.2.2.1, u.2.2.2.2.2.2.2.2.2.2.2.2.2.2.2.1, u.2.2.2.2.2.2.2.2.2.2.2.2.2.2.2.2) ++ wX1 G ad1 b1 u1) (ci := 2) (C := RX1) (T := TX1) (N := 17) hx hb hW inlX1 tyX1 tyX1_ok nmX1 hown hK hP hD hS 0 rfl rfl 14 (by decide) (hW _ wd_54) rfl rfl (Nat.le_of_ble_eq_true rfl) rfl dX1_copyFrom_139 (fun H locs hP hD hS => ?_)
  refine lv_aload_n hx hb dX1_copyFrom_142 rfl (lv_at hl 0 rfl) ?_
  refine lv_aload_n hx hb dX1_copyFrom_143 rfl (lv_at hl 1 rfl) ?_
  refine va_get (D := D) (ci := 2) (v := .int u1.2.2.2.2.2.2.2.2.2.2.2.2.2.2.2.1) (C := RX1) (T := TX1) (N := 17) hx hb hW inlX1 hown hK hP 12 rfl rfl 15 (by decide) (hW _ wd_55) (fun _ h9 => h9) rfl dX1_copyFrom_144 ?_
  refine z_put (ws' := wX1 G ad b (s11, s26, r37, r48, r59, u1.2.2.2.2.2.1, u1.2.2.2.2.2.2.1, u1.2.2.2.2.2.2.2.1, u1.2.2.2.2.2.2.2.2.1, u1.2.2.2.2.2.2.2.2.2.1, u1.2.2.2.2.2.2.2.2.2.2.1, u1.2.2.2.2.2.2.2.2.2.2.2.1, u1.2.2.2.2.2.2.2.2.2.2.2.2.1, u1.2.2.2.2.2.2.2.2.2.2.2.2.2.1, u1.2.2.2.2.2.2.2.2.2.2.2.2.2.2.1, u1.2.2.2.2.2.2.2.2.2.2.2.2.2.2.2.1, u.2.2.2.2.2.2.2.2.2.2.2.2.2.2.2.2) ++ wX1 G ad1 b1 u1) (ci := 2) (C := RX1) (T := TX1) (N := 17) hx hb hW inlX1 tyX1 tyX1_ok nmX1 hown hK hP hD hS 0 rfl rfl 15 (by decide) (hW _ wd_55) rfl rfl (Nat.le_of_ble_eq_true rfl) rfl dX1_copyFrom_147 (fun H locs hP hD hS => ?_)
  refine lv_aload_n hx hb dX1_copyFrom_150 rfl (lv_at hl 0 rfl) ?_
  refine lv_aload_n hx hb dX1_copyFrom_151 rfl (lv_at hl 1 rfl) ?_
  refine va_get (D := D) (ci := 2) (v := .int u1.2.2.2.2.2.2.2.2.2.2.2.2.2.2.2.2) (C := RX1) (T := TX1) (N := 17) hx hb hW inlX1 hown hK hP 12 rfl rfl 16 (by decide) (hW _ wd_56) (fun _ h9 => h9) rfl dX1_copyFrom_152 ?_
  refine z_put (ws' := wX1 G ad b (s11, s26, r37, r48, r59, u1.2.2.2.2.2.1, u1.2.2.2.2.2.2.1, u1.2.2.2.2.2.2.2.1, u1.2.2.2.2.2.2.2.2.1, u1.2.2.2.2.2.2.2.2.2.1, u1.2.2.2.2.2.2.2.2.2.2.1, u1.2.2.2.2.2.2.2.2.2.2.2.1, u1.2.2.2.2.2.2.2.2.2.2.2.2.1, u1.2.2.2.2.2.2.2.2.2.2.2.2.2.1, u1.2.2.2.2.2.2.2.2.2.2.2.2.2.2.1, u1.2.2.2.2.2.2.2.2.2.2.2.2.2.2.2.1, u1.2.2.2.2.2.2.2.2.2.2.2.2.2.2.2.2) ++ wX1 G ad1 b1 u1) (ci := 2) (C := RX1) (T := TX1) (N := 17) hx hb hW inlX1 tyX1 tyX1_ok nmX1 hown hK hP hD hS 0 rfl rfl 16 (by decide) (hW _ wd_56) rfl rfl (Nat.le_of_ble_eq_true rfl) rfl dX1_copyFrom_155 (fun H locs hP hD hS => ?_)
  obtain rfl := zo hf
  exact hret _ _ _ _ hP hD hS dX1_copyFrom_158
theorem kX1_95 : zLkN RX1 95 yX6_isSetting cX6_isSetting 1 (some .boolean) 1 := ⟨⟨by decide +kernel, wd_343, wd_2, wd_344⟩, by decide +kernel⟩
noncomputable def q_X1_changeSetting (u : tX1) (p1 : Int32) (p2 : Int32) : Option (Int32 × (Nat → Int32)) :=
  zb (q_X6_isSetting p1) fun r1 => (if r1 = 0 then some ((-1), u.1) else zg 5 zLowI p1 fun a14 => (if p2 < a14 then some ((-2), u.1) else zg 5 zHighI p1 fun a23 => (if p2 ≤ a23 then zg 5 u.1 p1 fun a35 => zs 5 u.1 p1 p2 fun s43 => some (a35, s43) else some ((-2), u.1))))
set_option maxRecDepth 100000 in
set_option maxHeartbeats 4000000 in
theorem c_X1_changeSetting (l : Launch) (D : va_G) (G : zG) (ad : Nat → Nat) (b : Nat) (u : tX1) (p1 : Int32) (p2 : Int32) (res : Int32 × (Nat → Int32)) (hf : q_X1_changeSetting u p1 p2 = some res) : zMi l yX1_changeSetting cX1_changeSetting 4 (some .int) 1 20 D G (wX1 G ad b u) (wX1 G ad b (res.2, u.2.1, u.2.2.1, u.2.2.2.1, u.2.2.2.2.1, u.2.2.2.2.2.1, u.2.2.2.2.2.2.1, u.2.2.2.2.2.2.2.1, u.2.2.2.2.2.2.2.2.1, u.2.2.2.2.2.2.2.2.2.1, u.2.2.2.2.2.2.2.2.2.2.1, u.2.2.2.2.2.2.2.2.2.2.2.1, u.2.2.2.2.2.2.2.2.2.2.2.2.1, u.2.2.2.2.2.2.2.2.2.2.2.2.2.1, u.2.2.2.2.2.2.2.2.2.2.2.2.2.2.1, u.2.2.2.2.2.2.2.2.2.2.2.2.2.2.2.1, u.2.2.2.2.2.2.2.2.2.2.2.2.2.2.2.2)) [.ref (ad b), .int p1, .int p2] res.1 := by
  refine zs_i (plainFor_of_name (by decide)) (Nat.le_of_ble_eq_true rfl) ?_
  intro p e s m args below meth c A Q H ls C0 hret hP hD hS hl
  obtain ⟨hx, hb, hml, hown, hW, hK, hlocks, hF, hr, hA⟩ := id C0
  replace hl : lv_has ls 4 [(0, .ref (ad b)), (1, .int p1), (2, .int p2)] := hl
  unfold q_X1_changeSetting at hf
  refine lv_iload_n hx hb dX1_changeSetting_0 rfl (lv_at hl 1 rfl) ?_
  replace hf := zb_s hf
  obtain ⟨r1, hr1, hf⟩ := hf
  refine z_Ni (rest := []) C0 kX1_95 (c_X6_isSetting l D G p1 r1 hr1) (List.Perm.refl _) (List.Perm.refl _) rfl ⟨Nat.le_of_ble_eq_true rfl, Nat.le_of_ble_eq_true rfl⟩ (Nat.le_of_ble_eq_true rfl) rfl hl.1 hP hD hS dX1_changeSetting_1 (fun H locs hP hD hS => ?_)
  refine lv_if_ne (tgt := 9) hx hb dX1_changeSetting_4 (by decide) (fun c4 => ?_) (fun c4 => ?_)
  · replace hf := zi_n hf c4
    refine lv_iload_n hx hb dX1_changeSetting_9 rfl (lv_at hl 2 rfl) ?_
    refine va_getsN (ref := "QuietChecks") (host := "QuietChecks") hx hb hF.2.1.1 hS hown (va_Nw.use rfl (hF.1 _ (by decide +kernel : Cond.fieldLinkNest "QuietChecks$Disk" 99 "QuietChecks" "LOWEST_SETTING" "[I" "QuietChecks" ∈ zNest))) (fun _ h9 => h9) dX1_changeSetting_10 ?_
    refine lv_iload_n hx hb dX1_changeSetting_13 rfl (lv_at hl 1 rfl) ?_
    replace hf := zg_s hf
    obtain ⟨hi14, a14, ea14, hf⟩ := hf
    refine z_ti (f := zLowI) hx hb hF.2.1.2 hS hi14 ea14 dX1_changeSetting_14 ?_
    refine lv_icmp_lt (tgt := 27) hx hb dX1_changeSetting_15 (by decide) (fun c15 => ?_) (fun c15 => ?_)
    · replace hf := zi_p hf c15
      refine lv_bipush (v := (-2)) hx hb dX1_changeSetting_27 (by decide) ?_
      obtain rfl := zo hf
      exact hret _ _ _ _ _ hP hD hS rfl dX1_changeSetting_29
    · replace hf := zi_n hf c15
      refine lv_iload_n hx hb dX1_changeSetting_18 rfl (lv_at hl 2 rfl) ?_
      refine va_getsN (ref := "QuietChecks") (host := "QuietChecks") hx hb hF.2.2.1.1 hS hown (va_Nw.use rfl (hF.1 _ (by decide +kernel : Cond.fieldLinkNest "QuietChecks$Disk" 102 "QuietChecks" "HIGHEST_SETTING" "[I" "QuietChecks" ∈ zNest))) (fun _ h9 => h9) dX1_changeSetting_19 ?_
      refine lv_iload_n hx hb dX1_changeSetting_22 rfl (lv_at hl 1 rfl) ?_
      replace hf := zg_s hf
      obtain ⟨hi23, a23, ea23, hf⟩ := hf
      refine z_ti (f := zHighI) hx hb hF.2.2.1.2 hS hi23 ea23 dX1_changeSetting_23 ?_
      refine lv_icmp_le (tgt := 30) hx hb dX1_changeSetting_24 (by decide) (fun c24 => ?_) (fun c24 => ?_)
      · replace hf := zi_p hf c24
        refine lv_aload_n hx hb dX1_changeSetting_30 rfl (lv_at hl 0 rfl) ?_
        refine va_get (D := D) (ci := 2) (v := .ref (ad (b + 1))) (C := RX1) (T := TX1) (N := 17) hx hb hW inlX1 hown hK hP 0 rfl rfl 0 (by decide) (hW _ wd_31) (fun _ h9 => h9) rfl dX1_changeSetting_31 ?_
        refine lv_iload_n hx hb dX1_changeSetting_34 rfl (lv_at hl 1 rfl) ?_
        replace hf := zg_s hf
        obtain ⟨hi35, a35, ea35, hf⟩ := hf
        refine z_iald hx hb hK hP 1 0 rfl rfl hi35 ea35 dX1_changeSetting_35 ?_
        refine lv_istore_n (lv' := [(3, .int a35), (0, .ref (ad b)), (1, .int p1), (2, .int p2)]) hx hb dX1_changeSetting_36 rfl hl (by decide) rfl (fun ls hl => ?_)
        refine lv_aload_n hx hb dX1_changeSetting_37 rfl (lv_at hl 1 rfl) ?_
        refine va_get (D := D) (ci := 2) (v := .ref (ad (b + 1))) (C := RX1) (T := TX1) (N := 17) hx hb hW inlX1 hown hK hP 0 rfl rfl 0 (by decide) (hW _ wd_31) (fun _ h9 => h9) rfl dX1_changeSetting_38 ?_
        refine lv_iload_n hx hb dX1_changeSetting_41 rfl (lv_at hl 2 rfl) ?_
        refine lv_iload_n hx hb dX1_changeSetting_42 rfl (lv_at hl 3 rfl) ?_
        replace hf := zs_s hf
        obtain ⟨hi43, s43, es43, hf⟩ := hf
        refine z_iast (ws' := wX1 G ad b (s43, u.2.1, u.2.2.1, u.2.2.2.1, u.2.2.2.2.1, u.2.2.2.2.2.1, u.2.2.2.2.2.2.1, u.2.2.2.2.2.2.2.1, u.2.2.2.2.2.2.2.2.1, u.2.2.2.2.2.2.2.2.2.1, u.2.2.2.2.2.2.2.2.2.2.1, u.2.2.2.2.2.2.2.2.2.2.2.1, u.2.2.2.2.2.2.2.2.2.2.2.2.1, u.2.2.2.2.2.2.2.2.2.2.2.2.2.1, u.2.2.2.2.2.2.2.2.2.2.2.2.2.2.1, u.2.2.2.2.2.2.2.2.2.2.2.2.2.2.2.1, u.2.2.2.2.2.2.2.2.2.2.2.2.2.2.2.2)) hx hb hK hP hD hS 1 0 rfl rfl hi43 es43 rfl dX1_changeSetting_43 (fun H locs hP hD hS => ?_)
        refine lv_iload_n hx hb dX1_changeSetting_44 rfl (lv_at hl 0 rfl) ?_
        obtain rfl := zo hf
        exact hret _ _ _ _ _ hP hD hS rfl dX1_changeSetting_45
      · replace hf := zi_n hf c24
        refine lv_bipush (v := (-2)) hx hb dX1_changeSetting_27 (by decide) ?_
        obtain rfl := zo hf
        exact hret _ _ _ _ _ hP hD hS rfl dX1_changeSetting_29
  · replace hf := zi_p hf c4
    refine lv_iconst (v := (-1)) hx hb dX1_changeSetting_7 (by decide) ?_
    obtain rfl := zo hf
    exact hret _ _ _ _ _ hP hD hS rfl dX1_changeSetting_8
noncomputable def q_X1_changeWay (u : tX1) (p1 : Int32) : Option (Int32 × Int32) :=
  (if p1 < 0 then some ((-2), u.2.2.2.2.2.1) else (if p1 < 3 then some (u.2.2.2.2.2.1, p1) else some ((-2), u.2.2.2.2.2.1)))
set_option maxRecDepth 100000 in
set_option maxHeartbeats 4000000 in
theorem c_X1_changeWay (l : Launch) (D : va_G) (G : zG) (ad : Nat → Nat) (b : Nat) (u : tX1) (p1 : Int32) (res : Int32 × Int32) (hf : q_X1_changeWay u p1 = some res) : zMi l yX1_changeWay cX1_changeWay 3 (some .int) 0 0 D G (wX1 G ad b u) (wX1 G ad b (u.1, u.2.1, u.2.2.1, u.2.2.2.1, u.2.2.2.2.1, res.2, u.2.2.2.2.2.2.1, u.2.2.2.2.2.2.2.1, u.2.2.2.2.2.2.2.2.1, u.2.2.2.2.2.2.2.2.2.1, u.2.2.2.2.2.2.2.2.2.2.1, u.2.2.2.2.2.2.2.2.2.2.2.1, u.2.2.2.2.2.2.2.2.2.2.2.2.1, u.2.2.2.2.2.2.2.2.2.2.2.2.2.1, u.2.2.2.2.2.2.2.2.2.2.2.2.2.2.1, u.2.2.2.2.2.2.2.2.2.2.2.2.2.2.2.1, u.2.2.2.2.2.2.2.2.2.2.2.2.2.2.2.2)) [.ref (ad b), .int p1] res.1 := by
  refine zs_i (plainFor_of_name (by decide)) (Nat.le_of_ble_eq_true rfl) ?_
  intro p e s m args below meth c A Q H ls C0 hret hP hD hS hl
  obtain ⟨hx, hb, hml, hown, hW, hK, hlocks, hF, hr, hA⟩ := id C0
  replace hl : lv_has ls 3 [(0, .ref (ad b)), (1, .int p1)] := hl
  unfold q_X1_changeWay at hf
  refine lv_iload_n hx hb dX1_changeWay_0 rfl (lv_at hl 1 rfl) ?_
  refine lv_if_lt (tgt := 9) hx hb dX1_changeWay_1 (by decide) (fun c1 => ?_) (fun c1 => ?_)
  · replace hf := zi_p hf c1
    refine lv_bipush (v := (-2)) hx hb dX1_changeWay_9 (by decide) ?_
    obtain rfl := zo hf
    exact hret _ _ _ _ _ hP hD hS rfl dX1_changeWay_11
  · replace hf := zi_n hf c1
    refine lv_iload_n hx hb dX1_changeWay_4 rfl (lv_at hl 1 rfl) ?_
    refine lv_iconst (v := 3) hx hb dX1_changeWay_5 (by decide) ?_
    refine lv_icmp_lt (tgt := 12) hx hb dX1_changeWay_6 (by decide) (fun c6 => ?_) (fun c6 => ?_)
    · replace hf := zi_p hf c6
      refine lv_aload_n hx hb dX1_changeWay_12 rfl (lv_at hl 0 rfl) ?_
      refine va_get (D := D) (ci := 2) (v := .int u.2.2.2.2.2.1) (C := RX1) (T := TX1) (N := 17) hx hb hW inlX1 hown hK hP 0 rfl rfl 5 (by decide) (hW _ wd_45) (fun _ h9 => h9) rfl dX1_changeWay_13 ?_
      refine lv_istore_n (lv' := [(2, .int u.2.2.2.2.2.1), (0, .ref (ad b)), (1, .int p1)]) hx hb dX1_changeWay_16 rfl hl (by decide) rfl (fun ls hl => ?_)
      refine lv_aload_n hx hb dX1_changeWay_17 rfl (lv_at hl 1 rfl) ?_
      refine lv_iload_n hx hb dX1_changeWay_18 rfl (lv_at hl 2 rfl) ?_
      refine z_put (ws' := wX1 G ad b (u.1, u.2.1, u.2.2.1, u.2.2.2.1, u.2.2.2.2.1, p1, u.2.2.2.2.2.2.1, u.2.2.2.2.2.2.2.1, u.2.2.2.2.2.2.2.2.1, u.2.2.2.2.2.2.2.2.2.1, u.2.2.2.2.2.2.2.2.2.2.1, u.2.2.2.2.2.2.2.2.2.2.2.1, u.2.2.2.2.2.2.2.2.2.2.2.2.1, u.2.2.2.2.2.2.2.2.2.2.2.2.2.1, u.2.2.2.2.2.2.2.2.2.2.2.2.2.2.1, u.2.2.2.2.2.2.2.2.2.2.2.2.2.2.2.1, u.2.2.2.2.2.2.2.2.2.2.2.2.2.2.2.2)) (ci := 2) (C := RX1) (T := TX1) (N := 17) hx hb hW inlX1 tyX1 tyX1_ok nmX1 hown hK hP hD hS 0 rfl rfl 5 (by decide) (hW _ wd_45) rfl rfl (Nat.le_of_ble_eq_true rfl) rfl dX1_changeWay_19 (fun H locs hP hD hS => ?_)
      refine lv_iload_n hx hb dX1_changeWay_22 rfl (lv_at hl 0 rfl) ?_
      obtain rfl := zo hf
      exact hret _ _ _ _ _ hP hD hS rfl dX1_changeWay_23
    · replace hf := zi_n hf c6
      refine lv_bipush (v := (-2)) hx hb dX1_changeWay_9 (by decide) ?_
      obtain rfl := zo hf
      exact hret _ _ _ _ _ hP hD hS rfl dX1_changeWay_11
noncomputable def q_X1_takeSpares (u : tX1) (p1 : Int32) : Option (Int32 × Int32) :=
  (if p1 < 1 then some ((-2), u.2.2.2.2.2.2.1) else (if p1 ≤ 9 then (if (u.2.2.2.2.2.2.1 + p1) ≤ 50 then zn (u.2.2.2.2.2.2.1 + p1) fun k35 => some (k35, k35) else some ((-4), u.2.2.2.2.2.2.1)) else some ((-2), u.2.2.2.2.2.2.1)))
set_option maxRecDepth 100000 in
set_option maxHeartbeats 4000000 in
theorem c_X1_takeSpares (l : Launch) (D : va_G) (G : zG) (ad : Nat → Nat) (b : Nat) (u : tX1) (p1 : Int32) (res : Int32 × Int32) (hf : q_X1_takeSpares u p1 = some res) : zMi l yX1_takeSpares cX1_takeSpares 2 (some .int) 0 0 D G (wX1 G ad b u) (wX1 G ad b (u.1, u.2.1, u.2.2.1, u.2.2.2.1, u.2.2.2.2.1, u.2.2.2.2.2.1, res.2, u.2.2.2.2.2.2.2.1, u.2.2.2.2.2.2.2.2.1, u.2.2.2.2.2.2.2.2.2.1, u.2.2.2.2.2.2.2.2.2.2.1, u.2.2.2.2.2.2.2.2.2.2.2.1, u.2.2.2.2.2.2.2.2.2.2.2.2.1, u.2.2.2.2.2.2.2.2.2.2.2.2.2.1, u.2.2.2.2.2.2.2.2.2.2.2.2.2.2.1, u.2.2.2.2.2.2.2.2.2.2.2.2.2.2.2.1, u.2.2.2.2.2.2.2.2.2.2.2.2.2.2.2.2)) [.ref (ad b), .int p1] res.1 := by
  refine zs_i (plainFor_of_name (by decide)) (Nat.le_of_ble_eq_true rfl) ?_
  intro p e s m args below meth c A Q H ls C0 hret hP hD hS hl
  obtain ⟨hx, hb, hml, hown, hW, hK, hlocks, hF, hr, hA⟩ := id C0
  replace hl : lv_has ls 2 [(0, .ref (ad b)), (1, .int p1)] := hl
  unfold q_X1_takeSpares at hf
  refine lv_iload_n hx hb dX1_takeSpares_0 rfl (lv_at hl 1 rfl) ?_
  refine lv_iconst (v := 1) hx hb dX1_takeSpares_1 (by decide) ?_
  refine lv_icmp_lt (tgt := 11) hx hb dX1_takeSpares_2 (by decide) (fun c2 => ?_) (fun c2 => ?_)
  · replace hf := zi_p hf c2
    refine lv_bipush (v := (-2)) hx hb dX1_takeSpares_11 (by decide) ?_
    obtain rfl := zo hf
    exact hret _ _ _ _ _ hP hD hS rfl dX1_takeSpares_13
  · replace hf := zi_n hf c2
    refine lv_iload_n hx hb dX1_takeSpares_5 rfl (lv_at hl 1 rfl) ?_
    refine lv_bipush (v := 9) hx hb dX1_takeSpares_6 (by decide) ?_
    refine lv_icmp_le (tgt := 14) hx hb dX1_takeSpares_8 (by decide) (fun c8 => ?_) (fun c8 => ?_)
    · replace hf := zi_p hf c8
      refine lv_aload_n hx hb dX1_takeSpares_14 rfl (lv_at hl 0 rfl) ?_
      refine va_get (D := D) (ci := 2) (v := .int u.2.2.2.2.2.2.1) (C := RX1) (T := TX1) (N := 17) hx hb hW inlX1 hown hK hP 0 rfl rfl 6 (by decide) (hW _ wd_46) (fun _ h9 => h9) rfl dX1_takeSpares_15 ?_
      refine lv_iload_n hx hb dX1_takeSpares_18 rfl (lv_at hl 1 rfl) ?_
      refine lv_iadd hx hb dX1_takeSpares_19 ?_
      refine lv_bipush (v := 50) hx hb dX1_takeSpares_20 (by decide) ?_
      refine lv_icmp_le (tgt := 28) hx hb dX1_takeSpares_22 (by decide) (fun c22 => ?_) (fun c22 => ?_)
      · replace hf := zi_p hf c22
        refine lv_aload_n hx hb dX1_takeSpares_28 rfl (lv_at hl 0 rfl) ?_
        refine lv_dup hx hb dX1_takeSpares_29 rfl ?_
        refine va_get (D := D) (ci := 2) (v := .int u.2.2.2.2.2.2.1) (C := RX1) (T := TX1) (N := 17) hx hb hW inlX1 hown hK hP 0 rfl rfl 6 (by decide) (hW _ wd_46) (fun _ h9 => h9) rfl dX1_takeSpares_30 ?_
        refine lv_iload_n hx hb dX1_takeSpares_33 rfl (lv_at hl 1 rfl) ?_
        refine lv_iadd hx hb dX1_takeSpares_34 ?_
        replace hf := zn_s hf
        obtain ⟨k35, ek35, hf⟩ := hf
        refine z_top ek35 ?_
        refine z_put (ws' := wX1 G ad b (u.1, u.2.1, u.2.2.1, u.2.2.2.1, u.2.2.2.2.1, u.2.2.2.2.2.1, k35, u.2.2.2.2.2.2.2.1, u.2.2.2.2.2.2.2.2.1, u.2.2.2.2.2.2.2.2.2.1, u.2.2.2.2.2.2.2.2.2.2.1, u.2.2.2.2.2.2.2.2.2.2.2.1, u.2.2.2.2.2.2.2.2.2.2.2.2.1, u.2.2.2.2.2.2.2.2.2.2.2.2.2.1, u.2.2.2.2.2.2.2.2.2.2.2.2.2.2.1, u.2.2.2.2.2.2.2.2.2.2.2.2.2.2.2.1, u.2.2.2.2.2.2.2.2.2.2.2.2.2.2.2.2)) (ci := 2) (C := RX1) (T := TX1) (N := 17) hx hb hW inlX1 tyX1 tyX1_ok nmX1 hown hK hP hD hS 0 rfl rfl 6 (by decide) (hW _ wd_46) rfl rfl (Nat.le_of_ble_eq_true rfl) rfl dX1_takeSpares_35 (fun H locs hP hD hS => ?_)
        refine lv_aload_n hx hb dX1_takeSpares_38 rfl (lv_at hl 0 rfl) ?_
        refine va_get (D := D) (ci := 2) (v := .int k35) (C := RX1) (T := TX1) (N := 17) hx hb hW inlX1 hown hK hP 0 rfl rfl 6 (by decide) (hW _ wd_46) (fun _ h9 => h9) rfl dX1_takeSpares_39 ?_
        obtain rfl := zo hf
        exact hret _ _ _ _ _ hP hD hS rfl dX1_takeSpares_42
      · replace hf := zi_n hf c22
        refine lv_bipush (v := (-4)) hx hb dX1_takeSpares_25 (by decide) ?_
        obtain rfl := zo hf
        exact hret _ _ _ _ _ hP hD hS rfl dX1_takeSpares_27
    · replace hf := zi_n hf c8
      refine lv_bipush (v := (-2)) hx hb dX1_takeSpares_11 (by decide) ?_
      obtain rfl := zo hf
      exact hret _ _ _ _ _ hP hD hS rfl dX1_takeSpares_13
theorem kX1_105 : zLkN RX1 105 yX6_isSpan cX6_isSpan 1 (some .boolean) 1 := ⟨⟨by decide +kernel, wd_165, wd_2, wd_166⟩, by decide +kernel⟩
theorem kX1_108 : zLkV RX1 108 yX5_append cX5_append 3 (some .boolean) 2 := ⟨⟨wd_167, wd_168, wd_169, wd_35, wd_170⟩, by decide +kernel⟩
theorem kX1_112 : zLkV RX1 112 yX5_sizeOf cX5_sizeOf 4 (some .int) 1 := ⟨⟨wd_171, wd_172, wd_173, wd_35, wd_174⟩, by decide +kernel⟩
noncomputable def q_X1_takeSpot (u : tX1) (p1 : Int32) (p2 : Int32) : Option (Int32 × tX5) :=
  zb (q_X6_isSpan p1) fun r1 => (if r1 = 0 then some ((-1), u.2.2.1) else (if p2 < 1 then some ((-2), u.2.2.1) else (if p2 ≤ 9 then zb (q_X5_append u.2.2.1 p1 p2) fun r29 => (if r29.1 = 0 then some ((-4), r29.2) else zb (q_X5_sizeOf r29.2 p1) fun r43 => some (r43, r29.2)) else some ((-2), u.2.2.1))))
set_option maxRecDepth 100000 in
set_option maxHeartbeats 4000000 in
theorem c_X1_takeSpot (l : Launch) (D : va_G) (G : zG) (ad : Nat → Nat) (b : Nat) (u : tX1) (p1 : Int32) (p2 : Int32) (res : Int32 × tX5) (hf : q_X1_takeSpot u p1 p2 = some res) : zMi l yX1_takeSpot cX1_takeSpot 3 (some .int) 1 23 D G (wX1 G ad b u) (wX1 G ad b (u.1, u.2.1, res.2, u.2.2.2.1, u.2.2.2.2.1, u.2.2.2.2.2.1, u.2.2.2.2.2.2.1, u.2.2.2.2.2.2.2.1, u.2.2.2.2.2.2.2.2.1, u.2.2.2.2.2.2.2.2.2.1, u.2.2.2.2.2.2.2.2.2.2.1, u.2.2.2.2.2.2.2.2.2.2.2.1, u.2.2.2.2.2.2.2.2.2.2.2.2.1, u.2.2.2.2.2.2.2.2.2.2.2.2.2.1, u.2.2.2.2.2.2.2.2.2.2.2.2.2.2.1, u.2.2.2.2.2.2.2.2.2.2.2.2.2.2.2.1, u.2.2.2.2.2.2.2.2.2.2.2.2.2.2.2.2)) [.ref (ad b), .int p1, .int p2] res.1 := by
  refine zs_i (plainFor_of_name (by decide)) (Nat.le_of_ble_eq_true rfl) ?_
  intro p e s m args below meth c A Q H ls C0 hret hP hD hS hl
  obtain ⟨hx, hb, hml, hown, hW, hK, hlocks, hF, hr, hA⟩ := id C0
  replace hl : lv_has ls 3 [(0, .ref (ad b)), (1, .int p1), (2, .int p2)] := hl
  unfold q_X1_takeSpot at hf
  refine lv_iload_n hx hb dX1_takeSpot_0 rfl (lv_at hl 1 rfl) ?_
  replace hf := zb_s hf
  obtain ⟨r1, hr1, hf⟩ := hf
  refine z_Ni (rest := []) C0 kX1_105 (c_X6_isSpan l D G p1 r1 hr1) (List.Perm.refl _) (List.Perm.refl _) rfl ⟨Nat.le_of_ble_eq_true rfl, Nat.le_of_ble_eq_true rfl⟩ (Nat.le_of_ble_eq_true rfl) rfl hl.1 hP hD hS dX1_takeSpot_1 (fun H locs hP hD hS => ?_)
  refine lv_if_ne (tgt := 9) hx hb dX1_takeSpot_4 (by decide) (fun c4 => ?_) (fun c4 => ?_)
  · replace hf := zi_n hf c4
    refine lv_iload_n hx hb dX1_takeSpot_9 rfl (lv_at hl 2 rfl) ?_
    refine lv_iconst (v := 1) hx hb dX1_takeSpot_10 (by decide) ?_
    refine lv_icmp_lt (tgt := 20) hx hb dX1_takeSpot_11 (by decide) (fun c11 => ?_) (fun c11 => ?_)
    · replace hf := zi_p hf c11
      refine lv_bipush (v := (-2)) hx hb dX1_takeSpot_20 (by decide) ?_
      obtain rfl := zo hf
      exact hret _ _ _ _ _ hP hD hS rfl dX1_takeSpot_22
    · replace hf := zi_n hf c11
      refine lv_iload_n hx hb dX1_takeSpot_14 rfl (lv_at hl 2 rfl) ?_
      refine lv_bipush (v := 9) hx hb dX1_takeSpot_15 (by decide) ?_
      refine lv_icmp_le (tgt := 23) hx hb dX1_takeSpot_17 (by decide) (fun c17 => ?_) (fun c17 => ?_)
      · replace hf := zi_p hf c17
        refine lv_aload_n hx hb dX1_takeSpot_23 rfl (lv_at hl 0 rfl) ?_
        refine va_get (D := D) (ci := 2) (v := .ref (ad (b + 3))) (C := RX1) (T := TX1) (N := 17) hx hb hW inlX1 hown hK hP 0 rfl rfl 2 (by decide) (hW _ wd_36) (fun _ h9 => h9) rfl dX1_takeSpot_24 ?_
        refine lv_iload_n hx hb dX1_takeSpot_27 rfl (lv_at hl 1 rfl) ?_
        refine lv_iload_n hx hb dX1_takeSpot_28 rfl (lv_at hl 2 rfl) ?_
        replace hf := zb_s hf
        obtain ⟨r29, hr29, hf⟩ := hf
        refine z_Vi (rest := []) C0 kX1_108 (c_X5_append l D G ad (b + 3) u.2.2.1 p1 p2 r29 hr29) (pmX1_spots G ad (b) u) (pnX1_spots G ad (b) u r29.2) (ci := 6) (T := TX5) (N := 3) rfl rfl rfl ⟨Nat.le_of_ble_eq_true rfl, Nat.le_of_ble_eq_true rfl⟩ (Nat.le_of_ble_eq_true rfl) rfl hl.1 hP hD hS dX1_takeSpot_29 (fun H locs hP hD hS => ?_)
        replace hP : va_P D vwCl (wX1 G ad b (u.1, u.2.1, r29.2, u.2.2.2.1, u.2.2.2.2.1, u.2.2.2.2.2.1, u.2.2.2.2.2.2.1, u.2.2.2.2.2.2.2.1, u.2.2.2.2.2.2.2.2.1, u.2.2.2.2.2.2.2.2.2.1, u.2.2.2.2.2.2.2.2.2.2.1, u.2.2.2.2.2.2.2.2.2.2.2.1, u.2.2.2.2.2.2.2.2.2.2.2.2.1, u.2.2.2.2.2.2.2.2.2.2.2.2.2.1, u.2.2.2.2.2.2.2.2.2.2.2.2.2.2.1, u.2.2.2.2.2.2.2.2.2.2.2.2.2.2.2.1, u.2.2.2.2.2.2.2.2.2.2.2.2.2.2.2.2)) H := hP
        replace hD : va_D A (wX1 G ad b (u.1, u.2.1, r29.2, u.2.2.2.1, u.2.2.2.2.1, u.2.2.2.2.2.1, u.2.2.2.2.2.2.1, u.2.2.2.2.2.2.2.1, u.2.2.2.2.2.2.2.2.1, u.2.2.2.2.2.2.2.2.2.1, u.2.2.2.2.2.2.2.2.2.2.1, u.2.2.2.2.2.2.2.2.2.2.2.1, u.2.2.2.2.2.2.2.2.2.2.2.2.1, u.2.2.2.2.2.2.2.2.2.2.2.2.2.1, u.2.2.2.2.2.2.2.2.2.2.2.2.2.2.1, u.2.2.2.2.2.2.2.2.2.2.2.2.2.2.2.1, u.2.2.2.2.2.2.2.2.2.2.2.2.2.2.2.2)) := hD
        refine lv_if_ne (tgt := 38) hx hb dX1_takeSpot_32 (by decide) (fun c32 => ?_) (fun c32 => ?_)
        · replace hf := zi_n hf c32
          refine lv_aload_n hx hb dX1_takeSpot_38 rfl (lv_at hl 0 rfl) ?_
          refine va_get (D := D) (ci := 2) (v := .ref (ad (b + 3))) (C := RX1) (T := TX1) (N := 17) hx hb hW inlX1 hown hK hP 0 rfl rfl 2 (by decide) (hW _ wd_36) (fun _ h9 => h9) rfl dX1_takeSpot_39 ?_
          refine lv_iload_n hx hb dX1_takeSpot_42 rfl (lv_at hl 1 rfl) ?_
          replace hf := zb_s hf
          obtain ⟨r43, hr43, hf⟩ := hf
          refine z_Vi (rest := []) C0 kX1_112 (c_X5_sizeOf l D G ad (b + 3) r29.2 p1 r43 hr43) (pmX1_spots G ad (b) (u.1, u.2.1, r29.2, u.2.2.2.1, u.2.2.2.2.1, u.2.2.2.2.2.1, u.2.2.2.2.2.2.1, u.2.2.2.2.2.2.2.1, u.2.2.2.2.2.2.2.2.1, u.2.2.2.2.2.2.2.2.2.1, u.2.2.2.2.2.2.2.2.2.2.1, u.2.2.2.2.2.2.2.2.2.2.2.1, u.2.2.2.2.2.2.2.2.2.2.2.2.1, u.2.2.2.2.2.2.2.2.2.2.2.2.2.1, u.2.2.2.2.2.2.2.2.2.2.2.2.2.2.1, u.2.2.2.2.2.2.2.2.2.2.2.2.2.2.2.1, u.2.2.2.2.2.2.2.2.2.2.2.2.2.2.2.2)) ((pmX1_spots G ad (b) (u.1, u.2.1, r29.2, u.2.2.2.1, u.2.2.2.2.1, u.2.2.2.2.2.1, u.2.2.2.2.2.2.1, u.2.2.2.2.2.2.2.1, u.2.2.2.2.2.2.2.2.1, u.2.2.2.2.2.2.2.2.2.1, u.2.2.2.2.2.2.2.2.2.2.1, u.2.2.2.2.2.2.2.2.2.2.2.1, u.2.2.2.2.2.2.2.2.2.2.2.2.1, u.2.2.2.2.2.2.2.2.2.2.2.2.2.1, u.2.2.2.2.2.2.2.2.2.2.2.2.2.2.1, u.2.2.2.2.2.2.2.2.2.2.2.2.2.2.2.1, u.2.2.2.2.2.2.2.2.2.2.2.2.2.2.2.2))).symm (ci := 6) (T := TX5) (N := 3) rfl rfl rfl ⟨Nat.le_of_ble_eq_true rfl, Nat.le_of_ble_eq_true rfl⟩ (Nat.le_of_ble_eq_true rfl) rfl hl.1 hP hD hS dX1_takeSpot_43 (fun H locs hP hD hS => ?_)
          obtain rfl := zo hf
          exact hret _ _ _ _ _ hP hD hS rfl dX1_takeSpot_46
        · replace hf := zi_p hf c32
          refine lv_bipush (v := (-4)) hx hb dX1_takeSpot_35 (by decide) ?_
          obtain rfl := zo hf
          exact hret _ _ _ _ _ hP hD hS rfl dX1_takeSpot_37
      · replace hf := zi_n hf c17
        refine lv_bipush (v := (-2)) hx hb dX1_takeSpot_20 (by decide) ?_
        obtain rfl := zo hf
        exact hret _ _ _ _ _ hP hD hS rfl dX1_takeSpot_22
  · replace hf := zi_p hf c4
    refine lv_iconst (v := (-1)) hx hb dX1_takeSpot_7 (by decide) ?_
    obtain rfl := zo hf
    exact hret _ _ _ _ _ hP hD hS rfl dX1_takeSpot_8
theorem kX1_116 : zLkV RX1 116 yX0_placeOf cX0_placeOf 3 (some .int) 1 := ⟨⟨wd_194, wd_195, wd_196, wd_39, wd_197⟩, by decide +kernel⟩
theorem kX1_119 : zLkV RX1 119 yX0_append cX0_append 2 (some .boolean) 1 := ⟨⟨wd_198, wd_199, wd_200, wd_39, wd_201⟩, by decide +kernel⟩
noncomputable def q_X1_askByHand (u : tX1) (p1 : Int32) : Option (Int32 × tX0) :=
  zb (q_X6_isSpan p1) fun r1 => (if r1 = 0 then some ((-1), u.2.2.2.1) else zb (q_X0_placeOf u.2.2.2.1 p1) fun r14 => (if r14 = (-6) then (if p1 = u.2.2.2.2.2.2.2.2.2.1 then some ((-3), u.2.2.2.1) else zb (q_X0_append u.2.2.2.1 p1) fun r38 => (if r38.1 = 0 then some ((-4), r38.2) else some ((r38.2.2 - 1), r38.2))) else some ((-3), u.2.2.2.1)))
set_option maxRecDepth 100000 in
set_option maxHeartbeats 4000000 in
theorem c_X1_askByHand (l : Launch) (D : va_G) (G : zG) (ad : Nat → Nat) (b : Nat) (u : tX1) (p1 : Int32) (res : Int32 × tX0) (hf : q_X1_askByHand u p1 = some res) : zMi l yX1_askByHand cX1_askByHand 2 (some .int) 1 22 D G (wX1 G ad b u) (wX1 G ad b (u.1, u.2.1, u.2.2.1, res.2, u.2.2.2.2.1, u.2.2.2.2.2.1, u.2.2.2.2.2.2.1, u.2.2.2.2.2.2.2.1, u.2.2.2.2.2.2.2.2.1, u.2.2.2.2.2.2.2.2.2.1, u.2.2.2.2.2.2.2.2.2.2.1, u.2.2.2.2.2.2.2.2.2.2.2.1, u.2.2.2.2.2.2.2.2.2.2.2.2.1, u.2.2.2.2.2.2.2.2.2.2.2.2.2.1, u.2.2.2.2.2.2.2.2.2.2.2.2.2.2.1, u.2.2.2.2.2.2.2.2.2.2.2.2.2.2.2.1, u.2.2.2.2.2.2.2.2.2.2.2.2.2.2.2.2)) [.ref (ad b), .int p1] res.1 := by
  refine zs_i (plainFor_of_name (by decide)) (Nat.le_of_ble_eq_true rfl) ?_
  intro p e s m args below meth c A Q H ls C0 hret hP hD hS hl
  obtain ⟨hx, hb, hml, hown, hW, hK, hlocks, hF, hr, hA⟩ := id C0
  replace hl : lv_has ls 2 [(0, .ref (ad b)), (1, .int p1)] := hl
  unfold q_X1_askByHand at hf
  refine lv_iload_n hx hb dX1_askByHand_0 rfl (lv_at hl 1 rfl) ?_
  replace hf := zb_s hf
  obtain ⟨r1, hr1, hf⟩ := hf
  refine z_Ni (rest := []) C0 kX1_105 (c_X6_isSpan l D G p1 r1 hr1) (List.Perm.refl _) (List.Perm.refl _) rfl ⟨Nat.le_of_ble_eq_true rfl, Nat.le_of_ble_eq_true rfl⟩ (Nat.le_of_ble_eq_true rfl) rfl hl.1 hP hD hS dX1_askByHand_1 (fun H locs hP hD hS => ?_)
  refine lv_if_ne (tgt := 9) hx hb dX1_askByHand_4 (by decide) (fun c4 => ?_) (fun c4 => ?_)
  · replace hf := zi_n hf c4
    refine lv_aload_n hx hb dX1_askByHand_9 rfl (lv_at hl 0 rfl) ?_
    refine va_get (D := D) (ci := 2) (v := .ref (ad (b + 6))) (C := RX1) (T := TX1) (N := 17) hx hb hW inlX1 hown hK hP 0 rfl rfl 3 (by decide) (hW _ wd_40) (fun _ h9 => h9) rfl dX1_askByHand_10 ?_
    refine lv_iload_n hx hb dX1_askByHand_13 rfl (lv_at hl 1 rfl) ?_
    replace hf := zb_s hf
    obtain ⟨r14, hr14, hf⟩ := hf
    refine z_Vi (rest := []) C0 kX1_116 (c_X0_placeOf l D G ad (b + 6) u.2.2.2.1 p1 r14 hr14) (pmX1_asked G ad (b) u) ((pmX1_asked G ad (b) u)).symm (ci := 1) (T := TX0) (N := 2) rfl rfl rfl ⟨Nat.le_of_ble_eq_true rfl, Nat.le_of_ble_eq_true rfl⟩ (Nat.le_of_ble_eq_true rfl) rfl hl.1 hP hD hS dX1_askByHand_14 (fun H locs hP hD hS => ?_)
    refine lv_bipush (v := (-6)) hx hb dX1_askByHand_17 (by decide) ?_
    refine lv_icmp_ne (tgt := 30) hx hb dX1_askByHand_19 (by decide) (fun c19 => ?_) (fun c19 => ?_)
    · replace hf := zi_n hf c19
      refine lv_bipush (v := (-3)) hx hb dX1_askByHand_30 (by decide) ?_
      obtain rfl := zo hf
      exact hret _ _ _ _ _ hP hD hS rfl dX1_askByHand_32
    · replace hf := zi_p hf c19
      refine lv_iload_n hx hb dX1_askByHand_22 rfl (lv_at hl 1 rfl) ?_
      refine lv_aload_n hx hb dX1_askByHand_23 rfl (lv_at hl 0 rfl) ?_
      refine va_get (D := D) (ci := 2) (v := .int u.2.2.2.2.2.2.2.2.2.1) (C := RX1) (T := TX1) (N := 17) hx hb hW inlX1 hown hK hP 0 rfl rfl 9 (by decide) (hW _ wd_49) (fun _ h9 => h9) rfl dX1_askByHand_24 ?_
      refine lv_icmp_ne (tgt := 33) hx hb dX1_askByHand_27 (by decide) (fun c27 => ?_) (fun c27 => ?_)
      · replace hf := zi_n hf c27
        refine lv_aload_n hx hb dX1_askByHand_33 rfl (lv_at hl 0 rfl) ?_
        refine va_get (D := D) (ci := 2) (v := .ref (ad (b + 6))) (C := RX1) (T := TX1) (N := 17) hx hb hW inlX1 hown hK hP 0 rfl rfl 3 (by decide) (hW _ wd_40) (fun _ h9 => h9) rfl dX1_askByHand_34 ?_
        refine lv_iload_n hx hb dX1_askByHand_37 rfl (lv_at hl 1 rfl) ?_
        replace hf := zb_s hf
        obtain ⟨r38, hr38, hf⟩ := hf
        refine z_Vi (rest := []) C0 kX1_119 (c_X0_append l D G ad (b + 6) u.2.2.2.1 p1 r38 hr38) (pmX1_asked G ad (b) u) (pnX1_asked G ad (b) u r38.2) (ci := 1) (T := TX0) (N := 2) rfl rfl rfl ⟨Nat.le_of_ble_eq_true rfl, Nat.le_of_ble_eq_true rfl⟩ (Nat.le_of_ble_eq_true rfl) rfl hl.1 hP hD hS dX1_askByHand_38 (fun H locs hP hD hS => ?_)
        replace hP : va_P D vwCl (wX1 G ad b (u.1, u.2.1, u.2.2.1, r38.2, u.2.2.2.2.1, u.2.2.2.2.2.1, u.2.2.2.2.2.2.1, u.2.2.2.2.2.2.2.1, u.2.2.2.2.2.2.2.2.1, u.2.2.2.2.2.2.2.2.2.1, u.2.2.2.2.2.2.2.2.2.2.1, u.2.2.2.2.2.2.2.2.2.2.2.1, u.2.2.2.2.2.2.2.2.2.2.2.2.1, u.2.2.2.2.2.2.2.2.2.2.2.2.2.1, u.2.2.2.2.2.2.2.2.2.2.2.2.2.2.1, u.2.2.2.2.2.2.2.2.2.2.2.2.2.2.2.1, u.2.2.2.2.2.2.2.2.2.2.2.2.2.2.2.2)) H := hP
        replace hD : va_D A (wX1 G ad b (u.1, u.2.1, u.2.2.1, r38.2, u.2.2.2.2.1, u.2.2.2.2.2.1, u.2.2.2.2.2.2.1, u.2.2.2.2.2.2.2.1, u.2.2.2.2.2.2.2.2.1, u.2.2.2.2.2.2.2.2.2.1, u.2.2.2.2.2.2.2.2.2.2.1, u.2.2.2.2.2.2.2.2.2.2.2.1, u.2.2.2.2.2.2.2.2.2.2.2.2.1, u.2.2.2.2.2.2.2.2.2.2.2.2.2.1, u.2.2.2.2.2.2.2.2.2.2.2.2.2.2.1, u.2.2.2.2.2.2.2.2.2.2.2.2.2.2.2.1, u.2.2.2.2.2.2.2.2.2.2.2.2.2.2.2.2)) := hD
        refine lv_if_ne (tgt := 47) hx hb dX1_askByHand_41 (by decide) (fun c41 => ?_) (fun c41 => ?_)
        · replace hf := zi_n hf c41
          refine lv_aload_n hx hb dX1_askByHand_47 rfl (lv_at hl 0 rfl) ?_
          refine va_get (D := D) (ci := 2) (v := .ref (ad (b + 6))) (C := RX1) (T := TX1) (N := 17) hx hb hW inlX1 hown hK hP 0 rfl rfl 3 (by decide) (hW _ wd_40) (fun _ h9 => h9) rfl dX1_askByHand_48 ?_
          refine va_getN (host := "QuietChecks") (D := D) (ci := 1) (v := .int r38.2.2) (C := RX0) (T := TX0) (N := 2) hx hb hW inlX0 hown hK hP 6 rfl rfl 1 (by decide) (va_Nw.use rfl (hF.1 _ (by decide +kernel : Cond.fieldLinkNest "QuietChecks$Disk" 121 "QuietChecks$Asked" "size" "I" "QuietChecks" ∈ zNest))) (fun _ h9 => h9) rfl dX1_askByHand_51 ?_
          refine lv_iconst (v := 1) hx hb dX1_askByHand_54 (by decide) ?_
          refine lv_isub hx hb dX1_askByHand_55 ?_
          obtain rfl := zo hf
          exact hret _ _ _ _ _ hP hD hS rfl dX1_askByHand_56
        · replace hf := zi_p hf c41
          refine lv_bipush (v := (-4)) hx hb dX1_askByHand_44 (by decide) ?_
          obtain rfl := zo hf
          exact hret _ _ _ _ _ hP hD hS rfl dX1_askByHand_46
      · replace hf := zi_p hf c27
        refine lv_bipush (v := (-3)) hx hb dX1_askByHand_30 (by decide) ?_
        obtain rfl := zo hf
        exact hret _ _ _ _ _ hP hD hS rfl dX1_askByHand_32
  · replace hf := zi_p hf c4
    refine lv_iconst (v := (-1)) hx hb dX1_askByHand_7 (by decide) ?_
    obtain rfl := zo hf
    exact hret _ _ _ _ _ hP hD hS rfl dX1_askByHand_8
theorem kX1_124 : zLkV RX1 124 yX0_drop cX0_drop 4 (some .boolean) 1 := ⟨⟨wd_213, wd_214, wd_215, wd_39, wd_216⟩, by decide +kernel⟩
noncomputable def q_X1_withdraw (u : tX1) (p1 : Int32) : Option (Int32 × tX0) :=
  zb (q_X6_isSpan p1) fun r1 => (if r1 = 0 then some ((-1), u.2.2.2.1) else zb (q_X0_drop u.2.2.2.1 p1) fun r14 => (if r14.1 = 0 then some ((-3), r14.2) else some (r14.2.2, r14.2)))
set_option maxRecDepth 100000 in
set_option maxHeartbeats 4000000 in
theorem c_X1_withdraw (l : Launch) (D : va_G) (G : zG) (ad : Nat → Nat) (b : Nat) (u : tX1) (p1 : Int32) (res : Int32 × tX0) (hf : q_X1_withdraw u p1 = some res) : zMi l yX1_withdraw cX1_withdraw 2 (some .int) 2 45 D G (wX1 G ad b u) (wX1 G ad b (u.1, u.2.1, u.2.2.1, res.2, u.2.2.2.2.1, u.2.2.2.2.2.1, u.2.2.2.2.2.2.1, u.2.2.2.2.2.2.2.1, u.2.2.2.2.2.2.2.2.1, u.2.2.2.2.2.2.2.2.2.1, u.2.2.2.2.2.2.2.2.2.2.1, u.2.2.2.2.2.2.2.2.2.2.2.1, u.2.2.2.2.2.2.2.2.2.2.2.2.1, u.2.2.2.2.2.2.2.2.2.2.2.2.2.1, u.2.2.2.2.2.2.2.2.2.2.2.2.2.2.1, u.2.2.2.2.2.2.2.2.2.2.2.2.2.2.2.1, u.2.2.2.2.2.2.2.2.2.2.2.2.2.2.2.2)) [.ref (ad b), .int p1] res.1 := by
  refine zs_i (plainFor_of_name (by decide)) (Nat.le_of_ble_eq_true rfl) ?_
  intro p e s m args below meth c A Q H ls C0 hret hP hD hS hl
  obtain ⟨hx, hb, hml, hown, hW, hK, hlocks, hF, hr, hA⟩ := id C0
  replace hl : lv_has ls 2 [(0, .ref (ad b)), (1, .int p1)] := hl
  unfold q_X1_withdraw at hf
  refine lv_iload_n hx hb dX1_withdraw_0 rfl (lv_at hl 1 rfl) ?_
  replace hf := zb_s hf
  obtain ⟨r1, hr1, hf⟩ := hf
  refine z_Ni (rest := []) C0 kX1_105 (c_X6_isSpan l D G p1 r1 hr1) (List.Perm.refl _) (List.Perm.refl _) rfl ⟨Nat.le_of_ble_eq_true rfl, Nat.le_of_ble_eq_true rfl⟩ (Nat.le_of_ble_eq_true rfl) rfl hl.1 hP hD hS dX1_withdraw_1 (fun H locs hP hD hS => ?_)
  refine lv_if_ne (tgt := 9) hx hb dX1_withdraw_4 (by decide) (fun c4 => ?_) (fun c4 => ?_)
  · replace hf := zi_n hf c4
    refine lv_aload_n hx hb dX1_withdraw_9 rfl (lv_at hl 0 rfl) ?_
    refine va_get (D := D) (ci := 2) (v := .ref (ad (b + 6))) (C := RX1) (T := TX1) (N := 17) hx hb hW inlX1 hown hK hP 0 rfl rfl 3 (by decide) (hW _ wd_40) (fun _ h9 => h9) rfl dX1_withdraw_10 ?_
    refine lv_iload_n hx hb dX1_withdraw_13 rfl (lv_at hl 1 rfl) ?_
    replace hf := zb_s hf
    obtain ⟨r14, hr14, hf⟩ := hf
    refine z_Vi (rest := []) C0 kX1_124 (c_X0_drop l D G ad (b + 6) u.2.2.2.1 p1 r14 hr14) (pmX1_asked G ad (b) u) (pnX1_asked G ad (b) u r14.2) (ci := 1) (T := TX0) (N := 2) rfl rfl rfl ⟨Nat.le_of_ble_eq_true rfl, Nat.le_of_ble_eq_true rfl⟩ (Nat.le_of_ble_eq_true rfl) rfl hl.1 hP hD hS dX1_withdraw_14 (fun H locs hP hD hS => ?_)
    replace hP : va_P D vwCl (wX1 G ad b (u.1, u.2.1, u.2.2.1, r14.2, u.2.2.2.2.1, u.2.2.2.2.2.1, u.2.2.2.2.2.2.1, u.2.2.2.2.2.2.2.1, u.2.2.2.2.2.2.2.2.1, u.2.2.2.2.2.2.2.2.2.1, u.2.2.2.2.2.2.2.2.2.2.1, u.2.2.2.2.2.2.2.2.2.2.2.1, u.2.2.2.2.2.2.2.2.2.2.2.2.1, u.2.2.2.2.2.2.2.2.2.2.2.2.2.1, u.2.2.2.2.2.2.2.2.2.2.2.2.2.2.1, u.2.2.2.2.2.2.2.2.2.2.2.2.2.2.2.1, u.2.2.2.2.2.2.2.2.2.2.2.2.2.2.2.2)) H := hP
    replace hD : va_D A (wX1 G ad b (u.1, u.2.1, u.2.2.1, r14.2, u.2.2.2.2.1, u.2.2.2.2.2.1, u.2.2.2.2.2.2.1, u.2.2.2.2.2.2.2.1, u.2.2.2.2.2.2.2.2.1, u.2.2.2.2.2.2.2.2.2.1, u.2.2.2.2.2.2.2.2.2.2.1, u.2.2.2.2.2.2.2.2.2.2.2.1, u.2.2.2.2.2.2.2.2.2.2.2.2.1, u.2.2.2.2.2.2.2.2.2.2.2.2.2.1, u.2.2.2.2.2.2.2.2.2.2.2.2.2.2.1, u.2.2.2.2.2.2.2.2.2.2.2.2.2.2.2.1, u.2.2.2.2.2.2.2.2.2.2.2.2.2.2.2.2)) := hD
    refine lv_if_ne (tgt := 23) hx hb dX1_withdraw_17 (by decide) (fun c17 => ?_) (fun c17 => ?_)
    · replace hf := zi_n hf c17
      refine lv_aload_n hx hb dX1_withdraw_23 rfl (lv_at hl 0 rfl) ?_
      refine va_get (D := D) (ci := 2) (v := .ref (ad (b + 6))) (C := RX1) (T := TX1) (N := 17) hx hb hW inlX1 hown hK hP 0 rfl rfl 3 (by decide) (hW _ wd_40) (fun _ h9 => h9) rfl dX1_withdraw_24 ?_
      refine va_getN (host := "QuietChecks") (D := D) (ci := 1) (v := .int r14.2.2) (C := RX0) (T := TX0) (N := 2) hx hb hW inlX0 hown hK hP 6 rfl rfl 1 (by decide) (va_Nw.use rfl (hF.1 _ (by decide +kernel : Cond.fieldLinkNest "QuietChecks$Disk" 121 "QuietChecks$Asked" "size" "I" "QuietChecks" ∈ zNest))) (fun _ h9 => h9) rfl dX1_withdraw_27 ?_
      obtain rfl := zo hf
      exact hret _ _ _ _ _ hP hD hS rfl dX1_withdraw_30
    · replace hf := zi_p hf c17
      refine lv_bipush (v := (-3)) hx hb dX1_withdraw_20 (by decide) ?_
      obtain rfl := zo hf
      exact hret _ _ _ _ _ hP hD hS rfl dX1_withdraw_22
  · replace hf := zi_p hf c4
    refine lv_iconst (v := (-1)) hx hb dX1_withdraw_7 (by decide) ?_
    obtain rfl := zo hf
    exact hret _ _ _ _ _ hP hD hS rfl dX1_withdraw_8
theorem kX1_134 : zLkV RX1 134 yX3_append cX3_append 4 none 3 := ⟨⟨wd_238, wd_239, wd_240, wd_43, wd_241⟩, by decide +kernel⟩
noncomputable def q_X1_pauseCheck (u : tX1) : Option (tX3 × Int32 × Int32) :=
  zn (if 0 < (u.2.2.2.2.2.2.2.2.2.2.1 - 2) then (u.2.2.2.2.2.2.2.2.2.2.1 - 2) else 0) fun k8 => zn (u.2.2.2.2.2.2.2.2.2.2.2.2.2.2.1 + 1) fun k21 => zb (q_X3_append u.2.2.2.2.1 u.2.2.2.2.2.2.2.1 2 u.2.2.2.2.2.2.2.2.2.1) fun r37 => some (r37, k8, k21)
set_option maxRecDepth 100000 in
set_option maxHeartbeats 4000000 in
theorem c_X1_pauseCheck (l : Launch) (D : va_G) (G : zG) (ad : Nat → Nat) (b : Nat) (u : tX1) (res : tX3 × Int32 × Int32) (hf : q_X1_pauseCheck u = some res) : zMv l yX1_pauseCheck cX1_pauseCheck 1 none 1 32 D G (wX1 G ad b u) (wX1 G ad b (u.1, u.2.1, u.2.2.1, u.2.2.2.1, res.1, u.2.2.2.2.2.1, u.2.2.2.2.2.2.1, u.2.2.2.2.2.2.2.1, u.2.2.2.2.2.2.2.2.1, u.2.2.2.2.2.2.2.2.2.1, res.2.1, u.2.2.2.2.2.2.2.2.2.2.2.1, u.2.2.2.2.2.2.2.2.2.2.2.2.1, u.2.2.2.2.2.2.2.2.2.2.2.2.2.1, res.2.2, u.2.2.2.2.2.2.2.2.2.2.2.2.2.2.2.1, u.2.2.2.2.2.2.2.2.2.2.2.2.2.2.2.2)) [.ref (ad b)] := by
  refine zs_v (plainFor_of_name (by decide)) (Nat.le_of_ble_eq_true rfl) ?_
  intro p e s m args below meth c A Q H ls C0 hret hP hD hS hl
  obtain ⟨hx, hb, hml, hown, hW, hK, hlocks, hF, hr, hA⟩ := id C0
  replace hl : lv_has ls 1 [(0, .ref (ad b))] := hl
  unfold q_X1_pauseCheck at hf
  refine lv_aload_n hx hb dX1_pauseCheck_0 rfl (lv_at hl 0 rfl) ?_
  refine lv_iconst (v := 0) hx hb dX1_pauseCheck_1 (by decide) ?_
  refine lv_aload_n hx hb dX1_pauseCheck_2 rfl (lv_at hl 0 rfl) ?_
  refine va_get (D := D) (ci := 2) (v := .int u.2.2.2.2.2.2.2.2.2.2.1) (C := RX1) (T := TX1) (N := 17) hx hb hW inlX1 hown hK hP 0 rfl rfl 10 (by decide) (hW _ wd_50) (fun _ h9 => h9) rfl dX1_pauseCheck_3 ?_
  refine lv_iconst (v := 2) hx hb dX1_pauseCheck_6 (by decide) ?_
  refine lv_isub hx hb dX1_pauseCheck_7 ?_
  refine va_mmax hx hb (hml.trans hl.1.symm) hown (hW _ wd_234) (hW _ wd_235) (hW _ wd_236) (hW _ wd_237) (Nat.le_of_ble_eq_true rfl) (Nat.le_of_ble_eq_true rfl) (Nat.zero_le _) (Nat.zero_le _) dX1_pauseCheck_8 ?_
  replace hf := zn_s hf
  obtain ⟨k8, ek8, hf⟩ := hf
  refine z_top ek8 ?_
  refine z_put (ws' := wX1 G ad b (u.1, u.2.1, u.2.2.1, u.2.2.2.1, u.2.2.2.2.1, u.2.2.2.2.2.1, u.2.2.2.2.2.2.1, u.2.2.2.2.2.2.2.1, u.2.2.2.2.2.2.2.2.1, u.2.2.2.2.2.2.2.2.2.1, k8, u.2.2.2.2.2.2.2.2.2.2.2.1, u.2.2.2.2.2.2.2.2.2.2.2.2.1, u.2.2.2.2.2.2.2.2.2.2.2.2.2.1, u.2.2.2.2.2.2.2.2.2.2.2.2.2.2.1, u.2.2.2.2.2.2.2.2.2.2.2.2.2.2.2.1, u.2.2.2.2.2.2.2.2.2.2.2.2.2.2.2.2)) (ci := 2) (C := RX1) (T := TX1) (N := 17) hx hb hW inlX1 tyX1 tyX1_ok nmX1 hown hK hP hD hS 0 rfl rfl 10 (by decide) (hW _ wd_50) rfl rfl (Nat.le_of_ble_eq_true rfl) rfl dX1_pauseCheck_11 (fun H locs hP hD hS => ?_)
  refine lv_aload_n hx hb dX1_pauseCheck_14 rfl (lv_at hl 0 rfl) ?_
  refine lv_dup hx hb dX1_pauseCheck_15 rfl ?_
  refine va_get (D := D) (ci := 2) (v := .int u.2.2.2.2.2.2.2.2.2.2.2.2.2.2.1) (C := RX1) (T := TX1) (N := 17) hx hb hW inlX1 hown hK hP 0 rfl rfl 14 (by decide) (hW _ wd_54) (fun _ h9 => h9) rfl dX1_pauseCheck_16 ?_
  refine lv_iconst (v := 1) hx hb dX1_pauseCheck_19 (by decide) ?_
  refine lv_iadd hx hb dX1_pauseCheck_20 ?_
  replace hf := zn_s hf
  obtain ⟨k21, ek21, hf⟩ := hf
  refine z_top ek21 ?_
  refine z_put (ws' := wX1 G ad b (u.1, u.2.1, u.2.2.1, u.2.2.2.1, u.2.2.2.2.1, u.2.2.2.2.2.1, u.2.2.2.2.2.2.1, u.2.2.2.2.2.2.2.1, u.2.2.2.2.2.2.2.2.1, u.2.2.2.2.2.2.2.2.2.1, k8, u.2.2.2.2.2.2.2.2.2.2.2.1, u.2.2.2.2.2.2.2.2.2.2.2.2.1, u.2.2.2.2.2.2.2.2.2.2.2.2.2.1, k21, u.2.2.2.2.2.2.2.2.2.2.2.2.2.2.2.1, u.2.2.2.2.2.2.2.2.2.2.2.2.2.2.2.2)) (ci := 2) (C := RX1) (T := TX1) (N := 17) hx hb hW inlX1 tyX1 tyX1_ok nmX1 hown hK hP hD hS 0 rfl rfl 14 (by decide) (hW _ wd_54) rfl rfl (Nat.le_of_ble_eq_true rfl) rfl dX1_pauseCheck_21 (fun H locs hP hD hS => ?_)
  refine lv_aload_n hx hb dX1_pauseCheck_24 rfl (lv_at hl 0 rfl) ?_
  refine va_get (D := D) (ci := 2) (v := .ref (ad (b + 8))) (C := RX1) (T := TX1) (N := 17) hx hb hW inlX1 hown hK hP 0 rfl rfl 4 (by decide) (hW _ wd_44) (fun _ h9 => h9) rfl dX1_pauseCheck_25 ?_
  refine lv_aload_n hx hb dX1_pauseCheck_28 rfl (lv_at hl 0 rfl) ?_
  refine va_get (D := D) (ci := 2) (v := .int u.2.2.2.2.2.2.2.1) (C := RX1) (T := TX1) (N := 17) hx hb hW inlX1 hown hK hP 0 rfl rfl 7 (by decide) (hW _ wd_47) (fun _ h9 => h9) rfl dX1_pauseCheck_29 ?_
  refine lv_iconst (v := 2) hx hb dX1_pauseCheck_32 (by decide) ?_
  refine lv_aload_n hx hb dX1_pauseCheck_33 rfl (lv_at hl 0 rfl) ?_
  refine va_get (D := D) (ci := 2) (v := .int u.2.2.2.2.2.2.2.2.2.1) (C := RX1) (T := TX1) (N := 17) hx hb hW inlX1 hown hK hP 0 rfl rfl 9 (by decide) (hW _ wd_49) (fun _ h9 => h9) rfl dX1_pauseCheck_34 ?_
  replace hf := zb_s hf
  obtain ⟨r37, hr37, hf⟩ := hf
  refine z_Vv (rest := []) C0 kX1_134 (c_X3_append l D G ad (b + 8) u.2.2.2.2.1 u.2.2.2.2.2.2.2.1 2 u.2.2.2.2.2.2.2.2.2.1 r37 hr37) (pmX1_log G ad (b) (u.1, u.2.1, u.2.2.1, u.2.2.2.1, u.2.2.2.2.1, u.2.2.2.2.2.1, u.2.2.2.2.2.2.1, u.2.2.2.2.2.2.2.1, u.2.2.2.2.2.2.2.2.1, u.2.2.2.2.2.2.2.2.2.1, k8, u.2.2.2.2.2.2.2.2.2.2.2.1, u.2.2.2.2.2.2.2.2.2.2.2.2.1, u.2.2.2.2.2.2.2.2.2.2.2.2.2.1, k21, u.2.2.2.2.2.2.2.2.2.2.2.2.2.2.2.1, u.2.2.2.2.2.2.2.2.2.2.2.2.2.2.2.2)) (pnX1_log G ad (b) (u.1, u.2.1, u.2.2.1, u.2.2.2.1, u.2.2.2.2.1, u.2.2.2.2.2.1, u.2.2.2.2.2.2.1, u.2.2.2.2.2.2.2.1, u.2.2.2.2.2.2.2.2.1, u.2.2.2.2.2.2.2.2.2.1, k8, u.2.2.2.2.2.2.2.2.2.2.2.1, u.2.2.2.2.2.2.2.2.2.2.2.2.1, u.2.2.2.2.2.2.2.2.2.2.2.2.2.1, k21, u.2.2.2.2.2.2.2.2.2.2.2.2.2.2.2.1, u.2.2.2.2.2.2.2.2.2.2.2.2.2.2.2.2) r37) (ci := 4) (T := TX3) (N := 5) rfl rfl rfl ⟨Nat.le_of_ble_eq_true rfl, Nat.le_of_ble_eq_true rfl⟩ (Nat.le_of_ble_eq_true rfl) rfl hl.1 hP hD hS dX1_pauseCheck_37 (fun H locs hP hD hS => ?_)
  replace hP : va_P D vwCl (wX1 G ad b (u.1, u.2.1, u.2.2.1, u.2.2.2.1, r37, u.2.2.2.2.2.1, u.2.2.2.2.2.2.1, u.2.2.2.2.2.2.2.1, u.2.2.2.2.2.2.2.2.1, u.2.2.2.2.2.2.2.2.2.1, k8, u.2.2.2.2.2.2.2.2.2.2.2.1, u.2.2.2.2.2.2.2.2.2.2.2.2.1, u.2.2.2.2.2.2.2.2.2.2.2.2.2.1, k21, u.2.2.2.2.2.2.2.2.2.2.2.2.2.2.2.1, u.2.2.2.2.2.2.2.2.2.2.2.2.2.2.2.2)) H := hP
  replace hD : va_D A (wX1 G ad b (u.1, u.2.1, u.2.2.1, u.2.2.2.1, r37, u.2.2.2.2.2.1, u.2.2.2.2.2.2.1, u.2.2.2.2.2.2.2.1, u.2.2.2.2.2.2.2.2.1, u.2.2.2.2.2.2.2.2.2.1, k8, u.2.2.2.2.2.2.2.2.2.2.2.1, u.2.2.2.2.2.2.2.2.2.2.2.2.1, u.2.2.2.2.2.2.2.2.2.2.2.2.2.1, k21, u.2.2.2.2.2.2.2.2.2.2.2.2.2.2.2.1, u.2.2.2.2.2.2.2.2.2.2.2.2.2.2.2.2)) := hD
  obtain rfl := zo hf
  exact hret _ _ _ _ hP hD hS dX1_pauseCheck_40
theorem kX1_131 : zLkV RX1 131 yX5_hasWeak cX5_hasWeak 4 (some .boolean) 2 := ⟨⟨wd_242, wd_243, wd_244, wd_35, wd_245⟩, by decide +kernel⟩
theorem kX1_137 : zLkV RX1 137 yX1_askByHand cX1_askByHand 2 (some .int) 1 := ⟨⟨wd_246, wd_191, wd_192, wd_12, wd_193⟩, by decide +kernel⟩
theorem kX1_128 : zLkV RX1 128 yX1_pauseCheck cX1_pauseCheck 1 none 0 := ⟨⟨wd_230, wd_231, wd_232, wd_12, wd_233⟩, by decide +kernel⟩
noncomputable def q_X1_hostReads_J66 (u : tX1) (p1 : Int32) (k50 : Int32) (w66_0 : tX3) (w66_1 : Int32) (w66_2 : Int32) : Option (Int32 × tX1) :=
  zb (q_X5_hasWeak u.2.2.1 p1 (u.1 3)) fun r77 => (if r77 = 0 then some (0, (u.1, u.2.1, u.2.2.1, u.2.2.2.1, w66_0, u.2.2.2.2.2.1, u.2.2.2.2.2.2.1, k50, 0, u.2.2.2.2.2.2.2.2.2.1, w66_1, u.2.2.2.2.2.2.2.2.2.2.2.1, u.2.2.2.2.2.2.2.2.2.2.2.2.1, u.2.2.2.2.2.2.2.2.2.2.2.2.2.1, w66_2, u.2.2.2.2.2.2.2.2.2.2.2.2.2.2.2.1, u.2.2.2.2.2.2.2.2.2.2.2.2.2.2.2.2)) else zn (u.2.2.2.2.2.2.2.2.2.2.2.2.2.2.2.2 + 1) fun k92 => zb (q_X3_append w66_0 k50 6 p1) fun r106 => zb (q_X1_askByHand (u.1, u.2.1, u.2.2.1, u.2.2.2.1, r106, u.2.2.2.2.2.1, u.2.2.2.2.2.2.1, k50, 0, u.2.2.2.2.2.2.2.2.2.1, w66_1, u.2.2.2.2.2.2.2.2.2.2.2.1, u.2.2.2.2.2.2.2.2.2.2.2.2.1, u.2.2.2.2.2.2.2.2.2.2.2.2.2.1, w66_2, u.2.2.2.2.2.2.2.2.2.2.2.2.2.2.2.1, k92) p1) fun r111 => some (1, (u.1, u.2.1, u.2.2.1, r111.2, r106, u.2.2.2.2.2.1, u.2.2.2.2.2.2.1, k50, 0, u.2.2.2.2.2.2.2.2.2.1, w66_1, u.2.2.2.2.2.2.2.2.2.2.2.1, u.2.2.2.2.2.2.2.2.2.2.2.2.1, u.2.2.2.2.2.2.2.2.2.2.2.2.2.1, w66_2, u.2.2.2.2.2.2.2.2.2.2.2.2.2.2.2.1, k92)))
noncomputable def q_X1_hostReads (u : tX1) (p1 : Int32) (p2 : Int32) : Option (Int32 × tX1) :=
  zb (q_X6_isSpan p1) fun r1 => (if r1 = 0 then some ((-1), u) else (if p2 < 1 then some ((-2), u) else (if p2 ≤ 200 then (if (u.2.2.2.2.2.2.2.1 + p2) ≤ 99999 then zn (u.2.2.2.2.2.2.2.1 + p2) fun k50 => (if u.2.2.2.2.2.2.2.2.2.1 = (-6) then q_X1_hostReads_J66 u p1 k50 u.2.2.2.2.1 u.2.2.2.2.2.2.2.2.2.2.1 u.2.2.2.2.2.2.2.2.2.2.2.2.2.2.1 else zb (q_X1_pauseCheck (u.1, u.2.1, u.2.2.1, u.2.2.2.1, u.2.2.2.2.1, u.2.2.2.2.2.1, u.2.2.2.2.2.2.1, k50, 0, u.2.2.2.2.2.2.2.2.2.1, u.2.2.2.2.2.2.2.2.2.2.1, u.2.2.2.2.2.2.2.2.2.2.2.1, u.2.2.2.2.2.2.2.2.2.2.2.2.1, u.2.2.2.2.2.2.2.2.2.2.2.2.2.1, u.2.2.2.2.2.2.2.2.2.2.2.2.2.2.1, u.2.2.2.2.2.2.2.2.2.2.2.2.2.2.2.1, u.2.2.2.2.2.2.2.2.2.2.2.2.2.2.2.2)) fun r63 => q_X1_hostReads_J66 u p1 k50 r63.1 r63.2.1 r63.2.2) else some ((-4), u)) else some ((-2), u))))
set_option maxRecDepth 100000 in
set_option maxHeartbeats 4000000 in
theorem c_X1_hostReads (l : Launch) (D : va_G) (G : zG) (ad : Nat → Nat) (b : Nat) (u : tX1) (p1 : Int32) (p2 : Int32) (res : Int32 × tX1) (hf : q_X1_hostReads u p1 p2 = some res) : zMi l yX1_hostReads cX1_hostReads 3 (some .int) 2 52 D G (wX1 G ad b u) (wX1 G ad b res.2) [.ref (ad b), .int p1, .int p2] res.1 := by
  refine zs_i (plainFor_of_name (by decide)) (Nat.le_of_ble_eq_true rfl) ?_
  intro p e s m args below meth c A Q H ls C0 hret hP hD hS hl
  obtain ⟨hx, hb, hml, hown, hW, hK, hlocks, hF, hr, hA⟩ := id C0
  replace hl : lv_has ls 3 [(0, .ref (ad b)), (1, .int p1), (2, .int p2)] := hl
  unfold q_X1_hostReads at hf
  refine lv_iload_n hx hb dX1_hostReads_0 rfl (lv_at hl 1 rfl) ?_
  replace hf := zb_s hf
  obtain ⟨r1, hr1, hf⟩ := hf
  refine z_Ni (rest := []) C0 kX1_105 (c_X6_isSpan l D G p1 r1 hr1) (List.Perm.refl _) (List.Perm.refl _) rfl ⟨Nat.le_of_ble_eq_true rfl, Nat.le_of_ble_eq_true rfl⟩ (Nat.le_of_ble_eq_true rfl) rfl hl.1 hP hD hS dX1_hostReads_1 (fun H locs hP hD hS => ?_)
  refine lv_if_ne (tgt := 9) hx hb dX1_hostReads_4 (by decide) (fun c4 => ?_) (fun c4 => ?_)
  · replace hf := zi_n hf c4
    refine lv_iload_n hx hb dX1_hostReads_9 rfl (lv_at hl 2 rfl) ?_
    refine lv_iconst (v := 1) hx hb dX1_hostReads_10 (by decide) ?_
    refine lv_icmp_lt (tgt := 21) hx hb dX1_hostReads_11 (by decide) (fun c11 => ?_) (fun c11 => ?_)
    · replace hf := zi_p hf c11
      refine lv_bipush (v := (-2)) hx hb dX1_hostReads_21 (by decide) ?_
      obtain rfl := zo hf
      exact hret _ _ _ _ _ hP hD hS rfl dX1_hostReads_23
    · replace hf := zi_n hf c11
      refine lv_iload_n hx hb dX1_hostReads_14 rfl (lv_at hl 2 rfl) ?_
      refine lv_sipush (v := 200) hx hb dX1_hostReads_15 (by decide) ?_
      refine lv_icmp_le (tgt := 24) hx hb dX1_hostReads_18 (by decide) (fun c18 => ?_) (fun c18 => ?_)
      · replace hf := zi_p hf c18
        refine lv_aload_n hx hb dX1_hostReads_24 rfl (lv_at hl 0 rfl) ?_
        refine va_get (D := D) (ci := 2) (v := .int u.2.2.2.2.2.2.2.1) (C := RX1) (T := TX1) (N := 17) hx hb hW inlX1 hown hK hP 0 rfl rfl 7 (by decide) (hW _ wd_47) (fun _ h9 => h9) rfl dX1_hostReads_25 ?_
        refine lv_iload_n hx hb dX1_hostReads_28 rfl (lv_at hl 2 rfl) ?_
        refine lv_iadd hx hb dX1_hostReads_29 ?_
        refine lv_ldc hx hb hown (hW _ wd_229) dX1_hostReads_30 ?_
        refine lv_icmp_le (tgt := 38) hx hb dX1_hostReads_32 (by decide) (fun c32 => ?_) (fun c32 => ?_)
        · replace hf := zi_p hf c32
          refine lv_aload_n hx hb dX1_hostReads_38 rfl (lv_at hl 0 rfl) ?_
          refine lv_iconst (v := 0) hx hb dX1_hostReads_39 (by decide) ?_
          refine z_put (ws' := wX1 G ad b (u.1, u.2.1, u.2.2.1, u.2.2.2.1, u.2.2.2.2.1, u.2.2.2.2.2.1, u.2.2.2.2.2.2.1, u.2.2.2.2.2.2.2.1, 0, u.2.2.2.2.2.2.2.2.2.1, u.2.2.2.2.2.2.2.2.2.2.1, u.2.2.2.2.2.2.2.2.2.2.2.1, u.2.2.2.2.2.2.2.2.2.2.2.2.1, u.2.2.2.2.2.2.2.2.2.2.2.2.2.1, u.2.2.2.2.2.2.2.2.2.2.2.2.2.2.1, u.2.2.2.2.2.2.2.2.2.2.2.2.2.2.2.1, u.2.2.2.2.2.2.2.2.2.2.2.2.2.2.2.2)) (ci := 2) (C := RX1) (T := TX1) (N := 17) hx hb hW inlX1 tyX1 tyX1_ok nmX1 hown hK hP hD hS 0 rfl rfl 8 (by decide) (hW _ wd_48) rfl rfl (Nat.le_of_ble_eq_true rfl) rfl dX1_hostReads_40 (fun H locs hP hD hS => ?_)
          refine lv_aload_n hx hb dX1_hostReads_43 rfl (lv_at hl 0 rfl) ?_
          refine lv_dup hx hb dX1_hostReads_44 rfl ?_
          refine va_get (D := D) (ci := 2) (v := .int u.2.2.2.2.2.2.2.1) (C := RX1) (T := TX1) (N := 17) hx hb hW inlX1 hown hK hP 0 rfl rfl 7 (by decide) (hW _ wd_47) (fun _ h9 => h9) rfl dX1_hostReads_45 ?_
          refine lv_iload_n hx hb dX1_hostReads_48 rfl (lv_at hl 2 rfl) ?_
          refine lv_iadd hx hb dX1_hostReads_49 ?_
          replace hf := zn_s hf
          obtain ⟨k50, ek50, hf⟩ := hf
          refine z_top ek50 ?_
          refine z_put (ws' := wX1 G ad b (u.1, u.2.1, u.2.2.1, u.2.2.2.1, u.2.2.2.2.1, u.2.2.2.2.2.1, u.2.2.2.2.2.2.1, k50, 0, u.2.2.2.2.2.2.2.2.2.1, u.2.2.2.2.2.2.2.2.2.2.1, u.2.2.2.2.2.2.2.2.2.2.2.1, u.2.2.2.2.2.2.2.2.2.2.2.2.1, u.2.2.2.2.2.2.2.2.2.2.2.2.2.1, u.2.2.2.2.2.2.2.2.2.2.2.2.2.2.1, u.2.2.2.2.2.2.2.2.2.2.2.2.2.2.2.1, u.2.2.2.2.2.2.2.2.2.2.2.2.2.2.2.2)) (ci := 2) (C := RX1) (T := TX1) (N := 17) hx hb hW inlX1 tyX1 tyX1_ok nmX1 hown hK hP hD hS 0 rfl rfl 7 (by decide) (hW _ wd_47) rfl rfl (Nat.le_of_ble_eq_true rfl) rfl dX1_hostReads_50 (fun H locs hP hD hS => ?_)
          refine lv_aload_n hx hb dX1_hostReads_53 rfl (lv_at hl 0 rfl) ?_
          refine va_get (D := D) (ci := 2) (v := .int u.2.2.2.2.2.2.2.2.2.1) (C := RX1) (T := TX1) (N := 17) hx hb hW inlX1 hown hK hP 0 rfl rfl 9 (by decide) (hW _ wd_49) (fun _ h9 => h9) rfl dX1_hostReads_54 ?_
          refine lv_bipush (v := (-6)) hx hb dX1_hostReads_57 (by decide) ?_
          have J66 : ∀ (w66_0 : tX3) (w66_1 : Int32) (w66_2 : Int32) (hf : q_X1_hostReads_J66 u p1 k50 w66_0 w66_1 w66_2 = some res) (H : Heap) (locs : List Loc) (hP : va_P D vwCl (wX1 G ad b (u.1, u.2.1, u.2.2.1, u.2.2.2.1, w66_0, u.2.2.2.2.2.1, u.2.2.2.2.2.2.1, k50, 0, u.2.2.2.2.2.2.2.2.2.1, w66_1, u.2.2.2.2.2.2.2.2.2.2.2.1, u.2.2.2.2.2.2.2.2.2.2.2.2.1, u.2.2.2.2.2.2.2.2.2.2.2.2.2.1, w66_2, u.2.2.2.2.2.2.2.2.2.2.2.2.2.2.2.1, u.2.2.2.2.2.2.2.2.2.2.2.2.2.2.2.2)) H) (hD : va_D A (wX1 G ad b (u.1, u.2.1, u.2.2.1, u.2.2.2.1, w66_0, u.2.2.2.2.2.1, u.2.2.2.2.2.2.1, k50, 0, u.2.2.2.2.2.2.2.2.2.1, w66_1, u.2.2.2.2.2.2.2.2.2.2.2.1, u.2.2.2.2.2.2.2.2.2.2.2.2.1, u.2.2.2.2.2.2.2.2.2.2.2.2.2.1, w66_2, u.2.2.2.2.2.2.2.2.2.2.2.2.2.2.2.1, u.2.2.2.2.2.2.2.2.2.2.2.2.2.2.2.2))) (hS : va_S A s.heap H locs) (ls : Array Slot) (hl : lv_has ls 3 [(0, .ref (ad b)), (1, .int p1)]), W p l e (zRm 2 52) s m args below meth c H locs 0 0 Q (F0 m 66 ls []) := by
            intro w66_0 w66_1 w66_2 hf H locs hP hD hS ls hl
            unfold q_X1_hostReads_J66 at hf
            refine lv_aload_n hx hb dX1_hostReads_66 rfl (lv_at hl 0 rfl) ?_
            refine va_get (D := D) (ci := 2) (v := .ref (ad (b + 3))) (C := RX1) (T := TX1) (N := 17) hx hb hW inlX1 hown hK hP 0 rfl rfl 2 (by decide) (hW _ wd_36) (fun _ h9 => h9) rfl dX1_hostReads_67 ?_
            refine lv_iload_n hx hb dX1_hostReads_70 rfl (lv_at hl 1 rfl) ?_
            refine lv_aload_n hx hb dX1_hostReads_71 rfl (lv_at hl 0 rfl) ?_
            refine va_get (D := D) (ci := 2) (v := .ref (ad (b + 1))) (C := RX1) (T := TX1) (N := 17) hx hb hW inlX1 hown hK hP 0 rfl rfl 0 (by decide) (hW _ wd_31) (fun _ h9 => h9) rfl dX1_hostReads_72 ?_
            refine lv_iconst (v := 3) hx hb dX1_hostReads_75 (by decide) ?_
            refine z_iald (v := (u.1 3)) hx hb hK hP 1 0 rfl rfl (z_in rfl) rfl dX1_hostReads_76 ?_
            replace hf := zb_s hf
            obtain ⟨r77, hr77, hf⟩ := hf
            refine z_Vi (rest := []) C0 kX1_131 (c_X5_hasWeak l D G ad (b + 3) u.2.2.1 p1 (u.1 3) r77 hr77) (pmX1_spots G ad (b) (u.1, u.2.1, u.2.2.1, u.2.2.2.1, w66_0, u.2.2.2.2.2.1, u.2.2.2.2.2.2.1, k50, 0, u.2.2.2.2.2.2.2.2.2.1, w66_1, u.2.2.2.2.2.2.2.2.2.2.2.1, u.2.2.2.2.2.2.2.2.2.2.2.2.1, u.2.2.2.2.2.2.2.2.2.2.2.2.2.1, w66_2, u.2.2.2.2.2.2.2.2.2.2.2.2.2.2.2.1, u.2.2.2.2.2.2.2.2.2.2.2.2.2.2.2.2)) ((pmX1_spots G ad (b) (u.1, u.2.1, u.2.2.1, u.2.2.2.1, w66_0, u.2.2.2.2.2.1, u.2.2.2.2.2.2.1, k50, 0, u.2.2.2.2.2.2.2.2.2.1, w66_1, u.2.2.2.2.2.2.2.2.2.2.2.1, u.2.2.2.2.2.2.2.2.2.2.2.2.1, u.2.2.2.2.2.2.2.2.2.2.2.2.2.1, w66_2, u.2.2.2.2.2.2.2.2.2.2.2.2.2.2.2.1, u.2.2.2.2.2.2.2.2.2.2.2.2.2.2.2.2))).symm (ci := 6) (T := TX5) (N := 3) rfl rfl rfl ⟨Nat.le_of_ble_eq_true rfl, Nat.le_of_ble_eq_true rfl⟩ (Nat.le_of_ble_eq_true rfl) rfl hl.1 hP hD hS dX1_hostReads_77 (fun H locs hP hD hS => ?_)
            refine lv_if_ne (tgt := 85) hx hb dX1_hostReads_80 (by decide) (fun c80 => ?_) (fun c80 => ?_)
            · replace hf := zi_n hf c80
              refine lv_aload_n hx hb dX1_hostReads_85 rfl (lv_at hl 0 rfl) ?_
              refine lv_dup hx hb dX1_hostReads_86 rfl ?_
              refine va_get (D := D) (ci := 2) (v := .int u.2.2.2.2.2.2.2.2.2.2.2.2.2.2.2.2) (C := RX1) (T := TX1) (N := 17) hx hb hW inlX1 hown hK hP 0 rfl rfl 16 (by decide) (hW _ wd_56) (fun _ h9 => h9) rfl dX1_hostReads_87 ?_
              refine lv_iconst (v := 1) hx hb dX1_hostReads_90 (by decide) ?_
              refine lv_iadd hx hb dX1_hostReads_91 ?_
              replace hf := zn_s hf
              obtain ⟨k92, ek92, hf⟩ := hf
              refine z_top ek92 ?_
              refine z_put (ws' := wX1 G ad b (u.1, u.2.1, u.2.2.1, u.2.2.2.1, w66_0, u.2.2.2.2.2.1, u.2.2.2.2.2.2.1, k50, 0, u.2.2.2.2.2.2.2.2.2.1, w66_1, u.2.2.2.2.2.2.2.2.2.2.2.1, u.2.2.2.2.2.2.2.2.2.2.2.2.1, u.2.2.2.2.2.2.2.2.2.2.2.2.2.1, w66_2, u.2.2.2.2.2.2.2.2.2.2.2.2.2.2.2.1, k92)) (ci := 2) (C := RX1) (T := TX1) (N := 17) hx hb hW inlX1 tyX1 tyX1_ok nmX1 hown hK hP hD hS 0 rfl rfl 16 (by decide) (hW _ wd_56) rfl rfl (Nat.le_of_ble_eq_true rfl) rfl dX1_hostReads_92 (fun H locs hP hD hS => ?_)
              refine lv_aload_n hx hb dX1_hostReads_95 rfl (lv_at hl 0 rfl) ?_
              refine va_get (D := D) (ci := 2) (v := .ref (ad (b + 8))) (C := RX1) (T := TX1) (N := 17) hx hb hW inlX1 hown hK hP 0 rfl rfl 4 (by decide) (hW _ wd_44) (fun _ h9 => h9) rfl dX1_hostReads_96 ?_
              refine lv_aload_n hx hb dX1_hostReads_99 rfl (lv_at hl 0 rfl) ?_
              refine va_get (D := D) (ci := 2) (v := .int k50) (C := RX1) (T := TX1) (N := 17) hx hb hW inlX1 hown hK hP 0 rfl rfl 7 (by decide) (hW _ wd_47) (fun _ h9 => h9) rfl dX1_hostReads_100 ?_
              refine lv_bipush (v := 6) hx hb dX1_hostReads_103 (by decide) ?_
              refine lv_iload_n hx hb dX1_hostReads_105 rfl (lv_at hl 1 rfl) ?_
              replace hf := zb_s hf
              obtain ⟨r106, hr106, hf⟩ := hf
              refine z_Vv (rest := []) C0 kX1_134 (c_X3_append l D G ad (b + 8) w66_0 k50 6 p1 r106 hr106) (pmX1_log G ad (b) (u.1, u.2.1, u.2.2.1, u.2.2.2.1, w66_0, u.2.2.2.2.2.1, u.2.2.2.2.2.2.1, k50, 0, u.2.2.2.2.2.2.2.2.2.1, w66_1, u.2.2.2.2.2.2.2.2.2.2.2.1, u.2.2.2.2.2.2.2.2.2.2.2.2.1, u.2.2.2.2.2.2.2.2.2.2.2.2.2.1, w66_2, u.2.2.2.2.2.2.2.2.2.2.2.2.2.2.2.1, k92)) (pnX1_log G ad (b) (u.1, u.2.1, u.2.2.1, u.2.2.2.1, w66_0, u.2.2.2.2.2.1, u.2.2.2.2.2.2.1, k50, 0, u.2.2.2.2.2.2.2.2.2.1, w66_1, u.2.2.2.2.2.2.2.2.2.2.2.1, u.2.2.2.2.2.2.2.2.2.2.2.2.1, u.2.2.2.2.2.2.2.2.2.2.2.2.2.1, w66_2, u.2.2.2.2.2.2.2.2.2.2.2.2.2.2.2.1, k92) r106) (ci := 4) (T := TX3) (N := 5) rfl rfl rfl ⟨Nat.le_of_ble_eq_true rfl, Nat.le_of_ble_eq_true rfl⟩ (Nat.le_of_ble_eq_true rfl) rfl hl.1 hP hD hS dX1_hostReads_106 (fun H locs hP hD hS => ?_)
              replace hP : va_P D vwCl (wX1 G ad b (u.1, u.2.1, u.2.2.1, u.2.2.2.1, r106, u.2.2.2.2.2.1, u.2.2.2.2.2.2.1, k50, 0, u.2.2.2.2.2.2.2.2.2.1, w66_1, u.2.2.2.2.2.2.2.2.2.2.2.1, u.2.2.2.2.2.2.2.2.2.2.2.2.1, u.2.2.2.2.2.2.2.2.2.2.2.2.2.1, w66_2, u.2.2.2.2.2.2.2.2.2.2.2.2.2.2.2.1, k92)) H := hP
              replace hD : va_D A (wX1 G ad b (u.1, u.2.1, u.2.2.1, u.2.2.2.1, r106, u.2.2.2.2.2.1, u.2.2.2.2.2.2.1, k50, 0, u.2.2.2.2.2.2.2.2.2.1, w66_1, u.2.2.2.2.2.2.2.2.2.2.2.1, u.2.2.2.2.2.2.2.2.2.2.2.2.1, u.2.2.2.2.2.2.2.2.2.2.2.2.2.1, w66_2, u.2.2.2.2.2.2.2.2.2.2.2.2.2.2.2.1, k92)) := hD
              refine lv_aload_n hx hb dX1_hostReads_109 rfl (lv_at hl 0 rfl) ?_
              refine lv_iload_n hx hb dX1_hostReads_110 rfl (lv_at hl 1 rfl) ?_
              replace hf := zb_s hf
              obtain ⟨r111, hr111, hf⟩ := hf
              refine z_Vi (rest := []) C0 kX1_137 (c_X1_askByHand l D G ad (b) (u.1, u.2.1, u.2.2.1, u.2.2.2.1, r106, u.2.2.2.2.2.1, u.2.2.2.2.2.2.1, k50, 0, u.2.2.2.2.2.2.2.2.2.1, w66_1, u.2.2.2.2.2.2.2.2.2.2.2.1, u.2.2.2.2.2.2.2.2.2.2.2.2.1, u.2.2.2.2.2.2.2.2.2.2.2.2.2.1, w66_2, u.2.2.2.2.2.2.2.2.2.2.2.2.2.2.2.1, k92) p1 r111 hr111) z_pall z_pall.symm (ci := 2) (T := TX1) (N := 17) rfl rfl rfl ⟨Nat.le_of_ble_eq_true rfl, Nat.le_of_ble_eq_true rfl⟩ (Nat.le_of_ble_eq_true rfl) rfl hl.1 hP hD hS dX1_hostReads_111 (fun H locs hP hD hS => ?_)
              replace hP : va_P D vwCl (wX1 G ad b (u.1, u.2.1, u.2.2.1, r111.2, r106, u.2.2.2.2.2.1, u.2.2.2.2.2.2.1, k50, 0, u.2.2.2.2.2.2.2.2.2.1, w66_1, u.2.2.2.2.2.2.2.2.2.2.2.1, u.2.2.2.2.2.2.2.2.2.2.2.2.1, u.2.2.2.2.2.2.2.2.2.2.2.2.2.1, w66_2, u.2.2.2.2.2.2.2.2.2.2.2.2.2.2.2.1, k92)) H := hP
              replace hD : va_D A (wX1 G ad b (u.1, u.2.1, u.2.2.1, r111.2, r106, u.2.2.2.2.2.1, u.2.2.2.2.2.2.1, k50, 0, u.2.2.2.2.2.2.2.2.2.1, w66_1, u.2.2.2.2.2.2.2.2.2.2.2.1, u.2.2.2.2.2.2.2.2.2.2.2.2.1, u.2.2.2.2.2.2.2.2.2.2.2.2.2.1, w66_2, u.2.2.2.2.2.2.2.2.2.2.2.2.2.2.2.1, k92)) := hD
              refine lv_pop hx hb dX1_hostReads_114 rfl ?_
              refine lv_iconst (v := 1) hx hb dX1_hostReads_115 (by decide) ?_
              obtain rfl := zo hf
              exact hret _ _ _ _ _ hP hD hS rfl dX1_hostReads_116
            · replace hf := zi_p hf c80
              refine lv_iconst (v := 0) hx hb dX1_hostReads_83 (by decide) ?_
              obtain rfl := zo hf
              exact hret _ _ _ _ _ hP hD hS rfl dX1_hostReads_84
          refine lv_icmp_eq (tgt := 66) hx hb dX1_hostReads_59 (by decide) (fun c59 => ?_) (fun c59 => ?_)
          · replace hf := zi_p hf c59
            exact J66 u.2.2.2.2.1 u.2.2.2.2.2.2.2.2.2.2.1 u.2.2.2.2.2.2.2.2.2.2.2.2.2.2.1 hf _ _ hP hD hS _ (lv_sub hl [0, 1] rfl)
          · replace hf := zi_n hf c59
            refine lv_aload_n hx hb dX1_hostReads_62 rfl (lv_at hl 0 rfl) ?_
            replace hf := zb_s hf
            obtain ⟨r63, hr63, hf⟩ := hf
            refine z_Vv (rest := []) C0 kX1_128 (c_X1_pauseCheck l D G ad (b) (u.1, u.2.1, u.2.2.1, u.2.2.2.1, u.2.2.2.2.1, u.2.2.2.2.2.1, u.2.2.2.2.2.2.1, k50, 0, u.2.2.2.2.2.2.2.2.2.1, u.2.2.2.2.2.2.2.2.2.2.1, u.2.2.2.2.2.2.2.2.2.2.2.1, u.2.2.2.2.2.2.2.2.2.2.2.2.1, u.2.2.2.2.2.2.2.2.2.2.2.2.2.1, u.2.2.2.2.2.2.2.2.2.2.2.2.2.2.1, u.2.2.2.2.2.2.2.2.2.2.2.2.2.2.2.1, u.2.2.2.2.2.2.2.2.2.2.2.2.2.2.2.2) r63 hr63) z_pall z_pall.symm (ci := 2) (T := TX1) (N := 17) rfl rfl rfl ⟨Nat.le_of_ble_eq_true rfl, Nat.le_of_ble_eq_true rfl⟩ (Nat.le_of_ble_eq_true rfl) rfl hl.1 hP hD hS dX1_hostReads_63 (fun H locs hP hD hS => ?_)
            replace hP : va_P D vwCl (wX1 G ad b (u.1, u.2.1, u.2.2.1, u.2.2.2.1, r63.1, u.2.2.2.2.2.1, u.2.2.2.2.2.2.1, k50, 0, u.2.2.2.2.2.2.2.2.2.1, r63.2.1, u.2.2.2.2.2.2.2.2.2.2.2.1, u.2.2.2.2.2.2.2.2.2.2.2.2.1, u.2.2.2.2.2.2.2.2.2.2.2.2.2.1, r63.2.2, u.2.2.2.2.2.2.2.2.2.2.2.2.2.2.2.1, u.2.2.2.2.2.2.2.2.2.2.2.2.2.2.2.2)) H := hP
            replace hD : va_D A (wX1 G ad b (u.1, u.2.1, u.2.2.1, u.2.2.2.1, r63.1, u.2.2.2.2.2.1, u.2.2.2.2.2.2.1, k50, 0, u.2.2.2.2.2.2.2.2.2.1, r63.2.1, u.2.2.2.2.2.2.2.2.2.2.2.1, u.2.2.2.2.2.2.2.2.2.2.2.2.1, u.2.2.2.2.2.2.2.2.2.2.2.2.2.1, r63.2.2, u.2.2.2.2.2.2.2.2.2.2.2.2.2.2.2.1, u.2.2.2.2.2.2.2.2.2.2.2.2.2.2.2.2)) := hD
            exact J66 r63.1 r63.2.1 r63.2.2 hf _ _ hP hD hS _ (lv_sub hl [0, 1] rfl)
        · replace hf := zi_n hf c32
          refine lv_bipush (v := (-4)) hx hb dX1_hostReads_35 (by decide) ?_
          obtain rfl := zo hf
          exact hret _ _ _ _ _ hP hD hS rfl dX1_hostReads_37
      · replace hf := zi_n hf c18
        refine lv_bipush (v := (-2)) hx hb dX1_hostReads_21 (by decide) ?_
        obtain rfl := zo hf
        exact hret _ _ _ _ _ hP hD hS rfl dX1_hostReads_23
  · replace hf := zi_p hf c4
    refine lv_iconst (v := (-1)) hx hb dX1_hostReads_7 (by decide) ?_
    obtain rfl := zo hf
    exact hret _ _ _ _ _ hP hD hS rfl dX1_hostReads_8
noncomputable def q_X1_ageOf (u : tX1) (p1 : Int32) : Option (Int32) :=
  zb (q_X6_isSpan p1) fun r1 => (if r1 = 0 then some (0) else zg 8 u.2.1 p1 fun a18 => some ((u.2.2.2.2.2.2.2.1 - a18)))
set_option maxRecDepth 100000 in
set_option maxHeartbeats 4000000 in
theorem c_X1_ageOf (l : Launch) (D : va_G) (G : zG) (ad : Nat → Nat) (b : Nat) (u : tX1) (p1 : Int32) (res : Int32) (hf : q_X1_ageOf u p1 = some res) : zMi l yX1_ageOf cX1_ageOf 2 (some .int) 1 20 D G (wX1 G ad b u) (wX1 G ad b u) [.ref (ad b), .int p1] res := by
  refine zs_i (plainFor_of_name (by decide)) (Nat.le_of_ble_eq_true rfl) ?_
  intro p e s m args below meth c A Q H ls C0 hret hP hD hS hl
  obtain ⟨hx, hb, hml, hown, hW, hK, hlocks, hF, hr, hA⟩ := id C0
  replace hl : lv_has ls 2 [(0, .ref (ad b)), (1, .int p1)] := hl
  unfold q_X1_ageOf at hf
  refine lv_iload_n hx hb dX1_ageOf_0 rfl (lv_at hl 1 rfl) ?_
  replace hf := zb_s hf
  obtain ⟨r1, hr1, hf⟩ := hf
  refine z_Ni (rest := []) C0 kX1_105 (c_X6_isSpan l D G p1 r1 hr1) (List.Perm.refl _) (List.Perm.refl _) rfl ⟨Nat.le_of_ble_eq_true rfl, Nat.le_of_ble_eq_true rfl⟩ (Nat.le_of_ble_eq_true rfl) rfl hl.1 hP hD hS dX1_ageOf_1 (fun H locs hP hD hS => ?_)
  refine lv_if_ne (tgt := 9) hx hb dX1_ageOf_4 (by decide) (fun c4 => ?_) (fun c4 => ?_)
  · replace hf := zi_n hf c4
    refine lv_aload_n hx hb dX1_ageOf_9 rfl (lv_at hl 0 rfl) ?_
    refine va_get (D := D) (ci := 2) (v := .int u.2.2.2.2.2.2.2.1) (C := RX1) (T := TX1) (N := 17) hx hb hW inlX1 hown hK hP 0 rfl rfl 7 (by decide) (hW _ wd_47) (fun _ h9 => h9) rfl dX1_ageOf_10 ?_
    refine lv_aload_n hx hb dX1_ageOf_13 rfl (lv_at hl 0 rfl) ?_
    refine va_get (D := D) (ci := 2) (v := .ref (ad (b + 2))) (C := RX1) (T := TX1) (N := 17) hx hb hW inlX1 hown hK hP 0 rfl rfl 1 (by decide) (hW _ wd_32) (fun _ h9 => h9) rfl dX1_ageOf_14 ?_
    refine lv_iload_n hx hb dX1_ageOf_17 rfl (lv_at hl 1 rfl) ?_
    replace hf := zg_s hf
    obtain ⟨hi18, a18, ea18, hf⟩ := hf
    refine z_iald hx hb hK hP 2 0 rfl rfl hi18 ea18 dX1_ageOf_18 ?_
    refine lv_isub hx hb dX1_ageOf_19 ?_
    obtain rfl := zo hf
    exact hret _ _ _ _ _ hP hD hS rfl dX1_ageOf_20
  · replace hf := zi_p hf c4
    refine lv_iconst (v := 0) hx hb dX1_ageOf_7 (by decide) ?_
    obtain rfl := zo hf
    exact hret _ _ _ _ _ hP hD hS rfl dX1_ageOf_8
theorem kX1_166 : zLkV RX1 166 yX1_ageOf cX1_ageOf 2 (some .int) 1 := ⟨⟨wd_276, wd_277, wd_278, wd_12, wd_279⟩, by decide +kernel⟩
noncomputable def q_X1_isOverdue (u : tX1) (p1 : Int32) : Option (Int32) :=
  zb (q_X1_ageOf u p1) fun r2 => (if r2 ≤ (u.1 4) then some (0) else some (1))
set_option maxRecDepth 100000 in
set_option maxHeartbeats 4000000 in
theorem c_X1_isOverdue (l : Launch) (D : va_G) (G : zG) (ad : Nat → Nat) (b : Nat) (u : tX1) (p1 : Int32) (res : Int32) (hf : q_X1_isOverdue u p1 = some res) : zMi l yX1_isOverdue cX1_isOverdue 2 (some .boolean) 2 41 D G (wX1 G ad b u) (wX1 G ad b u) [.ref (ad b), .int p1] res := by
  refine zs_z (plainFor_of_name (by decide)) (Nat.le_of_ble_eq_true rfl) ?_
  intro p e s m args below meth c A Q H ls C0 hret hP hD hS hl
  obtain ⟨hx, hb, hml, hown, hW, hK, hlocks, hF, hr, hA⟩ := id C0
  replace hl : lv_has ls 2 [(0, .ref (ad b)), (1, .int p1)] := hl
  unfold q_X1_isOverdue at hf
  refine lv_aload_n hx hb dX1_isOverdue_0 rfl (lv_at hl 0 rfl) ?_
  refine lv_iload_n hx hb dX1_isOverdue_1 rfl (lv_at hl 1 rfl) ?_
  replace hf := zb_s hf
  obtain ⟨r2, hr2, hf⟩ := hf
  refine z_Vi (rest := []) C0 kX1_166 (c_X1_ageOf l D G ad (b) u p1 r2 hr2) z_pall z_pall.symm (ci := 2) (T := TX1) (N := 17) rfl rfl rfl ⟨Nat.le_of_ble_eq_true rfl, Nat.le_of_ble_eq_true rfl⟩ (Nat.le_of_ble_eq_true rfl) rfl hl.1 hP hD hS dX1_isOverdue_2 (fun H locs hP hD hS => ?_)
  refine lv_aload_n hx hb dX1_isOverdue_5 rfl (lv_at hl 0 rfl) ?_
  refine va_get (D := D) (ci := 2) (v := .ref (ad (b + 1))) (C := RX1) (T := TX1) (N := 17) hx hb hW inlX1 hown hK hP 0 rfl rfl 0 (by decide) (hW _ wd_31) (fun _ h9 => h9) rfl dX1_isOverdue_6 ?_
  refine lv_iconst (v := 4) hx hb dX1_isOverdue_9 (by decide) ?_
  refine z_iald (v := (u.1 4)) hx hb hK hP 1 0 rfl rfl (z_in rfl) rfl dX1_isOverdue_10 ?_
  refine lv_icmp_le (tgt := 18) hx hb dX1_isOverdue_11 (by decide) (fun c11 => ?_) (fun c11 => ?_)
  · replace hf := zi_p hf c11
    refine lv_iconst (v := 0) hx hb dX1_isOverdue_18 (by decide) ?_
    obtain rfl := zo hf
    exact hret _ _ _ _ _ hP hD hS rfl rfl dX1_isOverdue_19
  · replace hf := zi_n hf c11
    refine lv_iconst (v := 1) hx hb dX1_isOverdue_14 (by decide) ?_
    refine lv_goto (tgt := 19) hx hb dX1_isOverdue_15 (by decide) ?_
    obtain rfl := zo hf
    exact hret _ _ _ _ _ hP hD hS rfl rfl dX1_isOverdue_19
noncomputable def q_X1_isDue (u : tX1) (p1 : Int32) : Option (Int32) :=
  zb (q_X1_ageOf u p1) fun r2 => (if r2 < ((u.1 4) / 2) then some (0) else some (1))
set_option maxRecDepth 100000 in
set_option maxHeartbeats 4000000 in
theorem c_X1_isDue (l : Launch) (D : va_G) (G : zG) (ad : Nat → Nat) (b : Nat) (u : tX1) (p1 : Int32) (res : Int32) (hf : q_X1_isDue u p1 = some res) : zMi l yX1_isDue cX1_isDue 2 (some .boolean) 2 41 D G (wX1 G ad b u) (wX1 G ad b u) [.ref (ad b), .int p1] res := by
  refine zs_z (plainFor_of_name (by decide)) (Nat.le_of_ble_eq_true rfl) ?_
  intro p e s m args below meth c A Q H ls C0 hret hP hD hS hl
  obtain ⟨hx, hb, hml, hown, hW, hK, hlocks, hF, hr, hA⟩ := id C0
  replace hl : lv_has ls 2 [(0, .ref (ad b)), (1, .int p1)] := hl
  unfold q_X1_isDue at hf
  refine lv_aload_n hx hb dX1_isDue_0 rfl (lv_at hl 0 rfl) ?_
  refine lv_iload_n hx hb dX1_isDue_1 rfl (lv_at hl 1 rfl) ?_
  replace hf := zb_s hf
  obtain ⟨r2, hr2, hf⟩ := hf
  refine z_Vi (rest := []) C0 kX1_166 (c_X1_ageOf l D G ad (b) u p1 r2 hr2) z_pall z_pall.symm (ci := 2) (T := TX1) (N := 17) rfl rfl rfl ⟨Nat.le_of_ble_eq_true rfl, Nat.le_of_ble_eq_true rfl⟩ (Nat.le_of_ble_eq_true rfl) rfl hl.1 hP hD hS dX1_isDue_2 (fun H locs hP hD hS => ?_)
  refine lv_aload_n hx hb dX1_isDue_5 rfl (lv_at hl 0 rfl) ?_
  refine va_get (D := D) (ci := 2) (v := .ref (ad (b + 1))) (C := RX1) (T := TX1) (N := 17) hx hb hW inlX1 hown hK hP 0 rfl rfl 0 (by decide) (hW _ wd_31) (fun _ h9 => h9) rfl dX1_isDue_6 ?_
  refine lv_iconst (v := 4) hx hb dX1_isDue_9 (by decide) ?_
  refine z_iald (v := (u.1 4)) hx hb hK hP 1 0 rfl rfl (z_in rfl) rfl dX1_isDue_10 ?_
  refine lv_iconst (v := 2) hx hb dX1_isDue_11 (by decide) ?_
  refine lv_idiv hx hb dX1_isDue_12 (by decide) ?_
  refine lv_icmp_lt (tgt := 20) hx hb dX1_isDue_13 (by decide) (fun c13 => ?_) (fun c13 => ?_)
  · replace hf := zi_p hf c13
    refine lv_iconst (v := 0) hx hb dX1_isDue_20 (by decide) ?_
    obtain rfl := zo hf
    exact hret _ _ _ _ _ hP hD hS rfl rfl dX1_isDue_21
  · replace hf := zi_n hf c13
    refine lv_iconst (v := 1) hx hb dX1_isDue_16 (by decide) ?_
    refine lv_goto (tgt := 21) hx hb dX1_isDue_17 (by decide) ?_
    obtain rfl := zo hf
    exact hret _ _ _ _ _ hP hD hS rfl rfl dX1_isDue_21
theorem kX1_169 : zLkV RX1 169 yX5_sumOf cX5_sumOf 5 (some .int) 2 := ⟨⟨wd_284, wd_285, wd_286, wd_35, wd_287⟩, by decide +kernel⟩
noncomputable def q_X1_rankOf (u : tX1) (p1 : Int32) : Option (Int32) :=
  (if u.2.2.2.2.2.1 = 0 then zb (q_X1_ageOf u p1) fun r34 => some (r34) else if u.2.2.2.2.2.1 = 1 then zb (q_X5_sumOf u.2.2.1 p1 9) fun r45 => some (r45) else some (0))
set_option maxRecDepth 100000 in
set_option maxHeartbeats 4000000 in
theorem c_X1_rankOf (l : Launch) (D : va_G) (G : zG) (ad : Nat → Nat) (b : Nat) (u : tX1) (p1 : Int32) (res : Int32) (hf : q_X1_rankOf u p1 = some res) : zMi l yX1_rankOf cX1_rankOf 2 (some .int) 2 56 D G (wX1 G ad b u) (wX1 G ad b u) [.ref (ad b), .int p1] res := by
  refine zs_i (plainFor_of_name (by decide)) (Nat.le_of_ble_eq_true rfl) ?_
  intro p e s m args below meth c A Q H ls C0 hret hP hD hS hl
  obtain ⟨hx, hb, hml, hown, hW, hK, hlocks, hF, hr, hA⟩ := id C0
  replace hl : lv_has ls 2 [(0, .ref (ad b)), (1, .int p1)] := hl
  unfold q_X1_rankOf at hf
  refine lv_aload_n hx hb dX1_rankOf_0 rfl (lv_at hl 0 rfl) ?_
  refine va_get (D := D) (ci := 2) (v := .int u.2.2.2.2.2.1) (C := RX1) (T := TX1) (N := 17) hx hb hW inlX1 hown hK hP 0 rfl rfl 5 (by decide) (hW _ wd_45) (fun _ h9 => h9) rfl dX1_rankOf_1 ?_
  refine z_by (c := u.2.2.2.2.2.1 = 0) (fun c4_0 => ?_) (fun n4_0 => ?_)
  · replace hf := zi_p hf c4_0
    refine lv_lookup (tgt := 32) (off := 28) hx hb dX1_rankOf_4 (by decide) (by rw [c4_0]; decide) (by decide) ?_
    refine lv_aload_n hx hb dX1_rankOf_32 rfl (lv_at hl 0 rfl) ?_
    refine lv_iload_n hx hb dX1_rankOf_33 rfl (lv_at hl 1 rfl) ?_
    replace hf := zb_s hf
    obtain ⟨r34, hr34, hf⟩ := hf
    refine z_Vi (rest := []) C0 kX1_166 (c_X1_ageOf l D G ad (b) u p1 r34 hr34) z_pall z_pall.symm (ci := 2) (T := TX1) (N := 17) rfl rfl rfl ⟨Nat.le_of_ble_eq_true rfl, Nat.le_of_ble_eq_true rfl⟩ (Nat.le_of_ble_eq_true rfl) rfl hl.1 hP hD hS dX1_rankOf_34 (fun H locs hP hD hS => ?_)
    obtain rfl := zo hf
    exact hret _ _ _ _ _ hP hD hS rfl dX1_rankOf_37
  · replace hf := zi_n hf n4_0
    refine z_by (c := u.2.2.2.2.2.1 = 1) (fun c4_1 => ?_) (fun n4_1 => ?_)
    · replace hf := zi_p hf c4_1
      refine lv_lookup (tgt := 38) (off := 34) hx hb dX1_rankOf_4 (by decide) (by rw [c4_1]; decide) (by decide) ?_
      refine lv_aload_n hx hb dX1_rankOf_38 rfl (lv_at hl 0 rfl) ?_
      refine va_get (D := D) (ci := 2) (v := .ref (ad (b + 3))) (C := RX1) (T := TX1) (N := 17) hx hb hW inlX1 hown hK hP 0 rfl rfl 2 (by decide) (hW _ wd_36) (fun _ h9 => h9) rfl dX1_rankOf_39 ?_
      refine lv_iload_n hx hb dX1_rankOf_42 rfl (lv_at hl 1 rfl) ?_
      refine lv_bipush (v := 9) hx hb dX1_rankOf_43 (by decide) ?_
      replace hf := zb_s hf
      obtain ⟨r45, hr45, hf⟩ := hf
      refine z_Vi (rest := []) C0 kX1_169 (c_X5_sumOf l D G ad (b + 3) u.2.2.1 p1 9 r45 hr45) (pmX1_spots G ad (b) u) ((pmX1_spots G ad (b) u)).symm (ci := 6) (T := TX5) (N := 3) rfl rfl rfl ⟨Nat.le_of_ble_eq_true rfl, Nat.le_of_ble_eq_true rfl⟩ (Nat.le_of_ble_eq_true rfl) rfl hl.1 hP hD hS dX1_rankOf_45 (fun H locs hP hD hS => ?_)
      obtain rfl := zo hf
      exact hret _ _ _ _ _ hP hD hS rfl dX1_rankOf_48
    · replace hf := zi_n hf n4_1
      refine lv_lookup (tgt := 49) (off := 45) hx hb dX1_rankOf_4 (by decide) ((lv_osw n4_0 rfl).trans ((lv_osw n4_1 rfl).trans (rfl))) (by decide) ?_
      refine lv_iconst (v := 0) hx hb dX1_rankOf_49 (by decide) ?_
      obtain rfl := zo hf
      exact hret _ _ _ _ _ hP hD hS rfl dX1_rankOf_50
theorem kX1_160 : zLkV RX1 160 yX1_isDue cX1_isDue 2 (some .boolean) 1 := ⟨⟨wd_272, wd_273, wd_274, wd_12, wd_275⟩, by decide +kernel⟩
theorem kX1_163 : zLkV RX1 163 yX1_rankOf cX1_rankOf 2 (some .int) 1 := ⟨⟨wd_280, wd_281, wd_282, wd_12, wd_283⟩, by decide +kernel⟩
noncomputable def q_X1_chooseSpan_L45 (u : tX1) (y36_0 : Int32) (v45 : Int32 × Int32 × Int32) : Option ((Int32 × Int32 × Int32) ⊕ (Int32)) :=
  (if 8 ≤ v45.2.2 then some (Sum.inr (v45.1)) else zb (q_X1_isDue u ((y36_0 + v45.2.2) - (y36_0 + v45.2.2) / 8 * 8)) fun r64 => (if r64 = 0 then some (Sum.inl (v45.1, v45.2.1, (v45.2.2 + 1))) else zb (q_X1_rankOf u ((y36_0 + v45.2.2) - (y36_0 + v45.2.2) / 8 * 8)) fun r73 => (if r73 ≤ v45.2.1 then some (Sum.inl (v45.1, v45.2.1, (v45.2.2 + 1))) else zb (q_X1_rankOf u ((y36_0 + v45.2.2) - (y36_0 + v45.2.2) / 8 * 8)) fun r86 => some (Sum.inl (((y36_0 + v45.2.2) - (y36_0 + v45.2.2) / 8 * 8), r86, (v45.2.2 + 1))))))
noncomputable def q_X1_chooseSpan_J36 (u : tX1) (y36_0 : Int32) : Option (Int32) :=
  zb (zl 1000000 (q_X1_chooseSpan_L45 u y36_0) ((-6), (-1), 0)) (fun b45 => some (b45))
noncomputable def q_X1_chooseSpan (u : tX1) : Option (Int32) :=
  (if u.2.2.2.1.2 ≤ 0 then (if u.2.2.2.2.2.1 = 2 then q_X1_chooseSpan_J36 u u.2.2.2.2.2.2.2.2.2.2.2.2.1 else q_X1_chooseSpan_J36 u 0) else some ((u.2.2.2.1.1 0)))
set_option maxRecDepth 100000 in
set_option maxHeartbeats 4000000 in
theorem c_X1_chooseSpan (l : Launch) (D : va_G) (G : zG) (ad : Nat → Nat) (b : Nat) (u : tX1) (res : Int32) (hf : q_X1_chooseSpan u = some res) : zMi l yX1_chooseSpan cX1_chooseSpan 6 (some .int) 3 77 D G (wX1 G ad b u) (wX1 G ad b u) [.ref (ad b)] res := by
  refine zs_i (plainFor_of_name (by decide)) (Nat.le_of_ble_eq_true rfl) ?_
  intro p e s m args below meth c A Q H ls C0 hret hP hD hS hl
  obtain ⟨hx, hb, hml, hown, hW, hK, hlocks, hF, hr, hA⟩ := id C0
  replace hl : lv_has ls 6 [(0, .ref (ad b))] := hl
  unfold q_X1_chooseSpan at hf
  refine lv_aload_n hx hb dX1_chooseSpan_0 rfl (lv_at hl 0 rfl) ?_
  refine va_get (D := D) (ci := 2) (v := .ref (ad (b + 6))) (C := RX1) (T := TX1) (N := 17) hx hb hW inlX1 hown hK hP 0 rfl rfl 3 (by decide) (hW _ wd_40) (fun _ h9 => h9) rfl dX1_chooseSpan_1 ?_
  refine va_getN (host := "QuietChecks") (D := D) (ci := 1) (v := .int u.2.2.2.1.2) (C := RX0) (T := TX0) (N := 2) hx hb hW inlX0 hown hK hP 6 rfl rfl 1 (by decide) (va_Nw.use rfl (hF.1 _ (by decide +kernel : Cond.fieldLinkNest "QuietChecks$Disk" 121 "QuietChecks$Asked" "size" "I" "QuietChecks" ∈ zNest))) (fun _ h9 => h9) rfl dX1_chooseSpan_4 ?_
  refine lv_if_le (tgt := 20) hx hb dX1_chooseSpan_7 (by decide) (fun c7 => ?_) (fun c7 => ?_)
  · replace hf := zi_p hf c7
    refine lv_aload_n hx hb dX1_chooseSpan_20 rfl (lv_at hl 0 rfl) ?_
    refine va_get (D := D) (ci := 2) (v := .int u.2.2.2.2.2.1) (C := RX1) (T := TX1) (N := 17) hx hb hW inlX1 hown hK hP 0 rfl rfl 5 (by decide) (hW _ wd_45) (fun _ h9 => h9) rfl dX1_chooseSpan_21 ?_
    refine lv_iconst (v := 2) hx hb dX1_chooseSpan_24 (by decide) ?_
    have J36 : ∀ (y36_0 : Int32) (hf : q_X1_chooseSpan_J36 u y36_0 = some res) (H : Heap) (locs : List Loc) (hP : va_P D vwCl (wX1 G ad b u) H) (hD : va_D A (wX1 G ad b u)) (hS : va_S A s.heap H locs) (ls : Array Slot) (hl : lv_has ls 6 [(0, .ref (ad b))]), W p l e (zRm 3 77) s m args below meth c H locs 0 0 Q (F0 m 36 ls [.int y36_0]) := by
      intro y36_0 hf H locs hP hD hS ls hl
      unfold q_X1_chooseSpan_J36 at hf
      refine lv_istore_n (lv' := [(1, .int y36_0), (0, .ref (ad b))]) hx hb dX1_chooseSpan_36 rfl hl (by decide) rfl (fun ls hl => ?_)
      refine lv_bipush (v := (-6)) hx hb dX1_chooseSpan_37 (by decide) ?_
      refine lv_istore_n (lv' := [(2, .int (-6)), (1, .int y36_0), (0, .ref (ad b))]) hx hb dX1_chooseSpan_39 rfl hl (by decide) rfl (fun ls hl => ?_)
      refine lv_iconst (v := (-1)) hx hb dX1_chooseSpan_40 (by decide) ?_
      refine lv_istore_n (lv' := [(3, .int (-1)), (2, .int (-6)), (1, .int y36_0), (0, .ref (ad b))]) hx hb dX1_chooseSpan_41 rfl hl (by decide) rfl (fun ls hl => ?_)
      refine lv_iconst (v := 0) hx hb dX1_chooseSpan_42 (by decide) ?_
      refine lv_istore (lv' := [(4, .int 0), (3, .int (-1)), (2, .int (-6)), (1, .int y36_0), (0, .ref (ad b))]) hx hb dX1_chooseSpan_43 hl (by decide) rfl (fun ls hl => ?_)
      replace hf := zb_s hf
      obtain ⟨b45, hz45, hk45⟩ := hf
      have L45 : ∀ (n45 : Nat) (v45 : Int32 × Int32 × Int32) (hz45 : zl n45 (q_X1_chooseSpan_L45 u y36_0) v45 = some b45) (H : Heap) (locs : List Loc) (hP : va_P D vwCl (wX1 G ad b u) H) (hD : va_D A (wX1 G ad b u)) (hS : va_S A s.heap H locs) (ls : Array Slot) (hl : lv_has ls 6 [(0, .ref (ad b)), (1, .int y36_0), (2, .int v45.1), (3, .int v45.2.1), (4, .int v45.2.2)]), W p l e (zRm 3 77) s m args below meth c H locs 0 0 Q (F0 m 45 ls []) := by
        intro n45
        induction n45 with
        | zero => intro v45 hz45; exact (zl_0 hz45).elim
        | succ n45 ih45 =>
          intro v45 hz45 H locs hP hD hS ls hl
          obtain ⟨o45, hf, hz45⟩ := zl_s hz45
          unfold q_X1_chooseSpan_L45 at hf
          refine lv_iload hx hb dX1_chooseSpan_45 (lv_at hl 4 rfl) ?_
          refine lv_bipush (v := 8) hx hb dX1_chooseSpan_47 (by decide) ?_
          refine lv_icmp_ge (tgt := 96) hx hb dX1_chooseSpan_49 (by decide) (fun c49 => ?_) (fun c49 => ?_)
          · replace hf := zi_p hf c49
            have hb45 := zk_r hf hz45
            subst hb45
            replace hf := hk45
            refine lv_iload_n hx hb dX1_chooseSpan_96 rfl (lv_at hl 2 rfl) ?_
            obtain rfl := zo hf
            exact hret _ _ _ _ _ hP hD hS rfl dX1_chooseSpan_97
          · replace hf := zi_n hf c49
            refine lv_iload_n hx hb dX1_chooseSpan_52 rfl (lv_at hl 1 rfl) ?_
            refine lv_iload hx hb dX1_chooseSpan_53 (lv_at hl 4 rfl) ?_
            refine lv_iadd hx hb dX1_chooseSpan_55 ?_
            refine lv_bipush (v := 8) hx hb dX1_chooseSpan_56 (by decide) ?_
            refine lv_irem hx hb dX1_chooseSpan_58 (by decide) ?_
            refine lv_istore (lv' := [(5, .int ((y36_0 + v45.2.2) - (y36_0 + v45.2.2) / 8 * 8)), (0, .ref (ad b)), (1, .int y36_0), (2, .int v45.1), (3, .int v45.2.1), (4, .int v45.2.2)]) hx hb dX1_chooseSpan_59 hl (by decide) rfl (fun ls hl => ?_)
            refine lv_aload_n hx hb dX1_chooseSpan_61 rfl (lv_at hl 1 rfl) ?_
            refine lv_iload hx hb dX1_chooseSpan_62 (lv_at hl 0 rfl) ?_
            replace hf := zb_s hf
            obtain ⟨r64, hr64, hf⟩ := hf
            refine z_Vi (rest := []) C0 kX1_160 (c_X1_isDue l D G ad (b) u ((y36_0 + v45.2.2) - (y36_0 + v45.2.2) / 8 * 8) r64 hr64) z_pall z_pall.symm (ci := 2) (T := TX1) (N := 17) rfl rfl rfl ⟨Nat.le_of_ble_eq_true rfl, Nat.le_of_ble_eq_true rfl⟩ (Nat.le_of_ble_eq_true rfl) rfl hl.1 hP hD hS dX1_chooseSpan_64 (fun H locs hP hD hS => ?_)
            refine lv_if_eq (tgt := 90) hx hb dX1_chooseSpan_67 (by decide) (fun c67 => ?_) (fun c67 => ?_)
            · replace hf := zi_p hf c67
              refine lv_iinc (v := (v45.2.2 + 1)) (lv' := [(4, .int (v45.2.2 + 1)), (5, .int ((y36_0 + v45.2.2) - (y36_0 + v45.2.2) / 8 * 8)), (0, .ref (ad b)), (1, .int y36_0), (2, .int v45.1), (3, .int v45.2.1)]) hx hb dX1_chooseSpan_90 hl (k := 5) rfl rfl (by decide) rfl (fun ls hl => ?_)
              refine lv_goto (tgt := 45) hx hb dX1_chooseSpan_93 (by decide) ?_
              exact ih45 _ (zk_l hf hz45) _ _ hP hD hS _ (lv_sub hl [2, 3, 4, 5, 0] rfl)
            · replace hf := zi_n hf c67
              refine lv_aload_n hx hb dX1_chooseSpan_70 rfl (lv_at hl 1 rfl) ?_
              refine lv_iload hx hb dX1_chooseSpan_71 (lv_at hl 0 rfl) ?_
              replace hf := zb_s hf
              obtain ⟨r73, hr73, hf⟩ := hf
              refine z_Vi (rest := []) C0 kX1_163 (c_X1_rankOf l D G ad (b) u ((y36_0 + v45.2.2) - (y36_0 + v45.2.2) / 8 * 8) r73 hr73) z_pall z_pall.symm (ci := 2) (T := TX1) (N := 17) rfl rfl rfl ⟨Nat.le_of_ble_eq_true rfl, Nat.le_of_ble_eq_true rfl⟩ (Nat.le_of_ble_eq_true rfl) rfl hl.1 hP hD hS dX1_chooseSpan_73 (fun H locs hP hD hS => ?_)
              refine lv_iload_n hx hb dX1_chooseSpan_76 rfl (lv_at hl 4 rfl) ?_
              refine lv_icmp_le (tgt := 90) hx hb dX1_chooseSpan_77 (by decide) (fun c77 => ?_) (fun c77 => ?_)
              · replace hf := zi_p hf c77
                refine lv_iinc (v := (v45.2.2 + 1)) (lv' := [(4, .int (v45.2.2 + 1)), (5, .int ((y36_0 + v45.2.2) - (y36_0 + v45.2.2) / 8 * 8)), (0, .ref (ad b)), (1, .int y36_0), (2, .int v45.1), (3, .int v45.2.1)]) hx hb dX1_chooseSpan_90 hl (k := 5) rfl rfl (by decide) rfl (fun ls hl => ?_)
                refine lv_goto (tgt := 45) hx hb dX1_chooseSpan_93 (by decide) ?_
                exact ih45 _ (zk_l hf hz45) _ _ hP hD hS _ (lv_sub hl [2, 3, 4, 5, 0] rfl)
              · replace hf := zi_n hf c77
                refine lv_iload hx hb dX1_chooseSpan_80 (lv_at hl 0 rfl) ?_
                refine lv_istore_n (lv' := [(2, .int ((y36_0 + v45.2.2) - (y36_0 + v45.2.2) / 8 * 8)), (5, .int ((y36_0 + v45.2.2) - (y36_0 + v45.2.2) / 8 * 8)), (0, .ref (ad b)), (1, .int y36_0), (3, .int v45.2.1), (4, .int v45.2.2)]) hx hb dX1_chooseSpan_82 rfl hl (by decide) rfl (fun ls hl => ?_)
                refine lv_aload_n hx hb dX1_chooseSpan_83 rfl (lv_at hl 2 rfl) ?_
                refine lv_iload hx hb dX1_chooseSpan_84 (lv_at hl 1 rfl) ?_
                replace hf := zb_s hf
                obtain ⟨r86, hr86, hf⟩ := hf
                refine z_Vi (rest := []) C0 kX1_163 (c_X1_rankOf l D G ad (b) u ((y36_0 + v45.2.2) - (y36_0 + v45.2.2) / 8 * 8) r86 hr86) z_pall z_pall.symm (ci := 2) (T := TX1) (N := 17) rfl rfl rfl ⟨Nat.le_of_ble_eq_true rfl, Nat.le_of_ble_eq_true rfl⟩ (Nat.le_of_ble_eq_true rfl) rfl hl.1 hP hD hS dX1_chooseSpan_86 (fun H locs hP hD hS => ?_)
                refine lv_istore_n (lv' := [(3, .int r86), (2, .int ((y36_0 + v45.2.2) - (y36_0 + v45.2.2) / 8 * 8)), (5, .int ((y36_0 + v45.2.2) - (y36_0 + v45.2.2) / 8 * 8)), (0, .ref (ad b)), (1, .int y36_0), (4, .int v45.2.2)]) hx hb dX1_chooseSpan_89 rfl hl (by decide) rfl (fun ls hl => ?_)
                refine lv_iinc (v := (v45.2.2 + 1)) (lv' := [(4, .int (v45.2.2 + 1)), (3, .int r86), (2, .int ((y36_0 + v45.2.2) - (y36_0 + v45.2.2) / 8 * 8)), (5, .int ((y36_0 + v45.2.2) - (y36_0 + v45.2.2) / 8 * 8)), (0, .ref (ad b)), (1, .int y36_0)]) hx hb dX1_chooseSpan_90 hl (k := 5) rfl rfl (by decide) rfl (fun ls hl => ?_)
                refine lv_goto (tgt := 45) hx hb dX1_chooseSpan_93 (by decide) ?_
                exact ih45 _ (zk_l hf hz45) _ _ hP hD hS _ (lv_sub hl [4, 5, 2, 1, 0] rfl)
      exact L45 _ _ hz45 _ _ hP hD hS _ (lv_sub hl [4, 3, 2, 1, 0] rfl)
    refine lv_icmp_ne (tgt := 35) hx hb dX1_chooseSpan_25 (by decide) (fun c25 => ?_) (fun c25 => ?_)
    · replace hf := zi_n hf c25
      refine lv_iconst (v := 0) hx hb dX1_chooseSpan_35 (by decide) ?_
      exact J36 0 hf _ _ hP hD hS _ (lv_sub hl [0] rfl)
    · replace hf := zi_p hf c25
      refine lv_aload_n hx hb dX1_chooseSpan_28 rfl (lv_at hl 0 rfl) ?_
      refine va_get (D := D) (ci := 2) (v := .int u.2.2.2.2.2.2.2.2.2.2.2.2.1) (C := RX1) (T := TX1) (N := 17) hx hb hW inlX1 hown hK hP 0 rfl rfl 12 (by decide) (hW _ wd_52) (fun _ h9 => h9) rfl dX1_chooseSpan_29 ?_
      refine lv_goto (tgt := 36) hx hb dX1_chooseSpan_32 (by decide) ?_
      exact J36 u.2.2.2.2.2.2.2.2.2.2.2.2.1 hf _ _ hP hD hS _ (lv_sub hl [0] rfl)
  · replace hf := zi_n hf c7
    refine lv_aload_n hx hb dX1_chooseSpan_10 rfl (lv_at hl 0 rfl) ?_
    refine va_get (D := D) (ci := 2) (v := .ref (ad (b + 6))) (C := RX1) (T := TX1) (N := 17) hx hb hW inlX1 hown hK hP 0 rfl rfl 3 (by decide) (hW _ wd_40) (fun _ h9 => h9) rfl dX1_chooseSpan_11 ?_
    refine va_getN (host := "QuietChecks") (D := D) (ci := 1) (v := .ref (ad (b + 7))) (C := RX0) (T := TX0) (N := 2) hx hb hW inlX0 hown hK hP 6 rfl rfl 0 (by decide) (va_Nw.use rfl (hF.1 _ (by decide +kernel : Cond.fieldLinkNest "QuietChecks$Disk" 157 "QuietChecks$Asked" "spans" "[I" "QuietChecks" ∈ zNest))) (fun _ h9 => h9) rfl dX1_chooseSpan_14 ?_
    refine lv_iconst (v := 0) hx hb dX1_chooseSpan_17 (by decide) ?_
    refine z_iald (v := (u.2.2.2.1.1 0)) hx hb hK hP 7 0 rfl rfl (z_in rfl) rfl dX1_chooseSpan_18 ?_
    obtain rfl := zo hf
    exact hret _ _ _ _ _ hP hD hS rfl dX1_chooseSpan_19
noncomputable def q_X1_ticksOfCheck (u : tX1) (p1 : Int32) : Option (Int32) :=
  zb (q_X5_sumOf u.2.2.1 p1 (u.1 3)) fun r23 => some (((u.1 1) + ((u.1 2) * r23)))
set_option maxRecDepth 100000 in
set_option maxHeartbeats 4000000 in
theorem c_X1_ticksOfCheck (l : Launch) (D : va_G) (G : zG) (ad : Nat → Nat) (b : Nat) (u : tX1) (p1 : Int32) (res : Int32) (hf : q_X1_ticksOfCheck u p1 = some res) : zMi l yX1_ticksOfCheck cX1_ticksOfCheck 2 (some .int) 2 56 D G (wX1 G ad b u) (wX1 G ad b u) [.ref (ad b), .int p1] res := by
  refine zs_i (plainFor_of_name (by decide)) (Nat.le_of_ble_eq_true rfl) ?_
  intro p e s m args below meth c A Q H ls C0 hret hP hD hS hl
  obtain ⟨hx, hb, hml, hown, hW, hK, hlocks, hF, hr, hA⟩ := id C0
  replace hl : lv_has ls 2 [(0, .ref (ad b)), (1, .int p1)] := hl
  unfold q_X1_ticksOfCheck at hf
  refine lv_aload_n hx hb dX1_ticksOfCheck_0 rfl (lv_at hl 0 rfl) ?_
  refine va_get (D := D) (ci := 2) (v := .ref (ad (b + 1))) (C := RX1) (T := TX1) (N := 17) hx hb hW inlX1 hown hK hP 0 rfl rfl 0 (by decide) (hW _ wd_31) (fun _ h9 => h9) rfl dX1_ticksOfCheck_1 ?_
  refine lv_iconst (v := 1) hx hb dX1_ticksOfCheck_4 (by decide) ?_
  refine z_iald (v := (u.1 1)) hx hb hK hP 1 0 rfl rfl (z_in rfl) rfl dX1_ticksOfCheck_5 ?_
  refine lv_aload_n hx hb dX1_ticksOfCheck_6 rfl (lv_at hl 0 rfl) ?_
  refine va_get (D := D) (ci := 2) (v := .ref (ad (b + 1))) (C := RX1) (T := TX1) (N := 17) hx hb hW inlX1 hown hK hP 0 rfl rfl 0 (by decide) (hW _ wd_31) (fun _ h9 => h9) rfl dX1_ticksOfCheck_7 ?_
  refine lv_iconst (v := 2) hx hb dX1_ticksOfCheck_10 (by decide) ?_
  refine z_iald (v := (u.1 2)) hx hb hK hP 1 0 rfl rfl (z_in rfl) rfl dX1_ticksOfCheck_11 ?_
  refine lv_aload_n hx hb dX1_ticksOfCheck_12 rfl (lv_at hl 0 rfl) ?_
  refine va_get (D := D) (ci := 2) (v := .ref (ad (b + 3))) (C := RX1) (T := TX1) (N := 17) hx hb hW inlX1 hown hK hP 0 rfl rfl 2 (by decide) (hW _ wd_36) (fun _ h9 => h9) rfl dX1_ticksOfCheck_13 ?_
  refine lv_iload_n hx hb dX1_ticksOfCheck_16 rfl (lv_at hl 1 rfl) ?_
  refine lv_aload_n hx hb dX1_ticksOfCheck_17 rfl (lv_at hl 0 rfl) ?_
  refine va_get (D := D) (ci := 2) (v := .ref (ad (b + 1))) (C := RX1) (T := TX1) (N := 17) hx hb hW inlX1 hown hK hP 0 rfl rfl 0 (by decide) (hW _ wd_31) (fun _ h9 => h9) rfl dX1_ticksOfCheck_18 ?_
  refine lv_iconst (v := 3) hx hb dX1_ticksOfCheck_21 (by decide) ?_
  refine z_iald (v := (u.1 3)) hx hb hK hP 1 0 rfl rfl (z_in rfl) rfl dX1_ticksOfCheck_22 ?_
  replace hf := zb_s hf
  obtain ⟨r23, hr23, hf⟩ := hf
  refine z_Vi (rest := [.int (u.1 2), .int (u.1 1)]) C0 kX1_169 (c_X5_sumOf l D G ad (b + 3) u.2.2.1 p1 (u.1 3) r23 hr23) (pmX1_spots G ad (b) u) ((pmX1_spots G ad (b) u)).symm (ci := 6) (T := TX5) (N := 3) rfl rfl rfl ⟨Nat.le_of_ble_eq_true rfl, Nat.le_of_ble_eq_true rfl⟩ (Nat.le_of_ble_eq_true rfl) rfl hl.1 hP hD hS dX1_ticksOfCheck_23 (fun H locs hP hD hS => ?_)
  refine lv_imul hx hb dX1_ticksOfCheck_26 ?_
  refine lv_iadd hx hb dX1_ticksOfCheck_27 ?_
  obtain rfl := zo hf
  exact hret _ _ _ _ _ hP hD hS rfl dX1_ticksOfCheck_28
theorem kX1_173 : zLkV RX1 173 yX1_ticksOfCheck cX1_ticksOfCheck 2 (some .int) 1 := ⟨⟨wd_295, wd_296, wd_297, wd_12, wd_298⟩, by decide +kernel⟩
noncomputable def q_X1_beginCheck (u : tX1) (p1 : Int32) : Option (tX1) :=
  zb (q_X6_isSpan p1) fun r1 => (if r1 = 0 then some (u) else zb (q_X0_drop u.2.2.2.1 p1) fun r13 => zb (q_X1_ticksOfCheck (u.1, u.2.1, u.2.2.1, r13.2, u.2.2.2.2.1, u.2.2.2.2.2.1, u.2.2.2.2.2.2.1, u.2.2.2.2.2.2.2.1, u.2.2.2.2.2.2.2.2.1, p1, 0, u.2.2.2.2.2.2.2.2.2.2.2.1, u.2.2.2.2.2.2.2.2.2.2.2.2.1, u.2.2.2.2.2.2.2.2.2.2.2.2.2.1, u.2.2.2.2.2.2.2.2.2.2.2.2.2.2.1, u.2.2.2.2.2.2.2.2.2.2.2.2.2.2.2.1, u.2.2.2.2.2.2.2.2.2.2.2.2.2.2.2.2) p1) fun r30 => zb (q_X3_append u.2.2.2.2.1 u.2.2.2.2.2.2.2.1 1 p1) fun r46 => some ((u.1, u.2.1, u.2.2.1, r13.2, r46, u.2.2.2.2.2.1, u.2.2.2.2.2.2.1, u.2.2.2.2.2.2.2.1, u.2.2.2.2.2.2.2.2.1, p1, 0, r30, u.2.2.2.2.2.2.2.2.2.2.2.2.1, u.2.2.2.2.2.2.2.2.2.2.2.2.2.1, u.2.2.2.2.2.2.2.2.2.2.2.2.2.2.1, u.2.2.2.2.2.2.2.2.2.2.2.2.2.2.2.1, u.2.2.2.2.2.2.2.2.2.2.2.2.2.2.2.2)))
set_option maxRecDepth 100000 in
set_option maxHeartbeats 4000000 in
theorem c_X1_beginCheck (l : Launch) (D : va_G) (G : zG) (ad : Nat → Nat) (b : Nat) (u : tX1) (p1 : Int32) (res : tX1) (hf : q_X1_beginCheck u p1 = some res) : zMv l yX1_beginCheck cX1_beginCheck 2 none 3 77 D G (wX1 G ad b u) (wX1 G ad b res) [.ref (ad b), .int p1] := by
  refine zs_v (plainFor_of_name (by decide)) (Nat.le_of_ble_eq_true rfl) ?_
  intro p e s m args below meth c A Q H ls C0 hret hP hD hS hl
  obtain ⟨hx, hb, hml, hown, hW, hK, hlocks, hF, hr, hA⟩ := id C0
  replace hl : lv_has ls 2 [(0, .ref (ad b)), (1, .int p1)] := hl
  unfold q_X1_beginCheck at hf
  refine lv_iload_n hx hb dX1_beginCheck_0 rfl (lv_at hl 1 rfl) ?_
  replace hf := zb_s hf
  obtain ⟨r1, hr1, hf⟩ := hf
  refine z_Ni (rest := []) C0 kX1_105 (c_X6_isSpan l D G p1 r1 hr1) (List.Perm.refl _) (List.Perm.refl _) rfl ⟨Nat.le_of_ble_eq_true rfl, Nat.le_of_ble_eq_true rfl⟩ (Nat.le_of_ble_eq_true rfl) rfl hl.1 hP hD hS dX1_beginCheck_1 (fun H locs hP hD hS => ?_)
  refine lv_if_ne (tgt := 8) hx hb dX1_beginCheck_4 (by decide) (fun c4 => ?_) (fun c4 => ?_)
  · replace hf := zi_n hf c4
    refine lv_aload_n hx hb dX1_beginCheck_8 rfl (lv_at hl 0 rfl) ?_
    refine va_get (D := D) (ci := 2) (v := .ref (ad (b + 6))) (C := RX1) (T := TX1) (N := 17) hx hb hW inlX1 hown hK hP 0 rfl rfl 3 (by decide) (hW _ wd_40) (fun _ h9 => h9) rfl dX1_beginCheck_9 ?_
    refine lv_iload_n hx hb dX1_beginCheck_12 rfl (lv_at hl 1 rfl) ?_
    replace hf := zb_s hf
    obtain ⟨r13, hr13, hf⟩ := hf
    refine z_Vi (rest := []) C0 kX1_124 (c_X0_drop l D G ad (b + 6) u.2.2.2.1 p1 r13 hr13) (pmX1_asked G ad (b) u) (pnX1_asked G ad (b) u r13.2) (ci := 1) (T := TX0) (N := 2) rfl rfl rfl ⟨Nat.le_of_ble_eq_true rfl, Nat.le_of_ble_eq_true rfl⟩ (Nat.le_of_ble_eq_true rfl) rfl hl.1 hP hD hS dX1_beginCheck_13 (fun H locs hP hD hS => ?_)
    replace hP : va_P D vwCl (wX1 G ad b (u.1, u.2.1, u.2.2.1, r13.2, u.2.2.2.2.1, u.2.2.2.2.2.1, u.2.2.2.2.2.2.1, u.2.2.2.2.2.2.2.1, u.2.2.2.2.2.2.2.2.1, u.2.2.2.2.2.2.2.2.2.1, u.2.2.2.2.2.2.2.2.2.2.1, u.2.2.2.2.2.2.2.2.2.2.2.1, u.2.2.2.2.2.2.2.2.2.2.2.2.1, u.2.2.2.2.2.2.2.2.2.2.2.2.2.1, u.2.2.2.2.2.2.2.2.2.2.2.2.2.2.1, u.2.2.2.2.2.2.2.2.2.2.2.2.2.2.2.1, u.2.2.2.2.2.2.2.2.2.2.2.2.2.2.2.2)) H := hP
    replace hD : va_D A (wX1 G ad b (u.1, u.2.1, u.2.2.1, r13.2, u.2.2.2.2.1, u.2.2.2.2.2.1, u.2.2.2.2.2.2.1, u.2.2.2.2.2.2.2.1, u.2.2.2.2.2.2.2.2.1, u.2.2.2.2.2.2.2.2.2.1, u.2.2.2.2.2.2.2.2.2.2.1, u.2.2.2.2.2.2.2.2.2.2.2.1, u.2.2.2.2.2.2.2.2.2.2.2.2.1, u.2.2.2.2.2.2.2.2.2.2.2.2.2.1, u.2.2.2.2.2.2.2.2.2.2.2.2.2.2.1, u.2.2.2.2.2.2.2.2.2.2.2.2.2.2.2.1, u.2.2.2.2.2.2.2.2.2.2.2.2.2.2.2.2)) := hD
    refine lv_pop hx hb dX1_beginCheck_16 rfl ?_
    refine lv_aload_n hx hb dX1_beginCheck_17 rfl (lv_at hl 0 rfl) ?_
    refine lv_iload_n hx hb dX1_beginCheck_18 rfl (lv_at hl 1 rfl) ?_
    refine z_put (ws' := wX1 G ad b (u.1, u.2.1, u.2.2.1, r13.2, u.2.2.2.2.1, u.2.2.2.2.2.1, u.2.2.2.2.2.2.1, u.2.2.2.2.2.2.2.1, u.2.2.2.2.2.2.2.2.1, p1, u.2.2.2.2.2.2.2.2.2.2.1, u.2.2.2.2.2.2.2.2.2.2.2.1, u.2.2.2.2.2.2.2.2.2.2.2.2.1, u.2.2.2.2.2.2.2.2.2.2.2.2.2.1, u.2.2.2.2.2.2.2.2.2.2.2.2.2.2.1, u.2.2.2.2.2.2.2.2.2.2.2.2.2.2.2.1, u.2.2.2.2.2.2.2.2.2.2.2.2.2.2.2.2)) (ci := 2) (C := RX1) (T := TX1) (N := 17) hx hb hW inlX1 tyX1 tyX1_ok nmX1 hown hK hP hD hS 0 rfl rfl 9 (by decide) (hW _ wd_49) rfl rfl (Nat.le_of_ble_eq_true rfl) rfl dX1_beginCheck_19 (fun H locs hP hD hS => ?_)
    refine lv_aload_n hx hb dX1_beginCheck_22 rfl (lv_at hl 0 rfl) ?_
    refine lv_iconst (v := 0) hx hb dX1_beginCheck_23 (by decide) ?_
    refine z_put (ws' := wX1 G ad b (u.1, u.2.1, u.2.2.1, r13.2, u.2.2.2.2.1, u.2.2.2.2.2.1, u.2.2.2.2.2.2.1, u.2.2.2.2.2.2.2.1, u.2.2.2.2.2.2.2.2.1, p1, 0, u.2.2.2.2.2.2.2.2.2.2.2.1, u.2.2.2.2.2.2.2.2.2.2.2.2.1, u.2.2.2.2.2.2.2.2.2.2.2.2.2.1, u.2.2.2.2.2.2.2.2.2.2.2.2.2.2.1, u.2.2.2.2.2.2.2.2.2.2.2.2.2.2.2.1, u.2.2.2.2.2.2.2.2.2.2.2.2.2.2.2.2)) (ci := 2) (C := RX1) (T := TX1) (N := 17) hx hb hW inlX1 tyX1 tyX1_ok nmX1 hown hK hP hD hS 0 rfl rfl 10 (by decide) (hW _ wd_50) rfl rfl (Nat.le_of_ble_eq_true rfl) rfl dX1_beginCheck_24 (fun H locs hP hD hS => ?_)
    refine lv_aload_n hx hb dX1_beginCheck_27 rfl (lv_at hl 0 rfl) ?_
    refine lv_aload_n hx hb dX1_beginCheck_28 rfl (lv_at hl 0 rfl) ?_
    refine lv_iload_n hx hb dX1_beginCheck_29 rfl (lv_at hl 1 rfl) ?_
    replace hf := zb_s hf
    obtain ⟨r30, hr30, hf⟩ := hf
    refine z_Vi (rest := [.ref (ad b)]) C0 kX1_173 (c_X1_ticksOfCheck l D G ad (b) (u.1, u.2.1, u.2.2.1, r13.2, u.2.2.2.2.1, u.2.2.2.2.2.1, u.2.2.2.2.2.2.1, u.2.2.2.2.2.2.2.1, u.2.2.2.2.2.2.2.2.1, p1, 0, u.2.2.2.2.2.2.2.2.2.2.2.1, u.2.2.2.2.2.2.2.2.2.2.2.2.1, u.2.2.2.2.2.2.2.2.2.2.2.2.2.1, u.2.2.2.2.2.2.2.2.2.2.2.2.2.2.1, u.2.2.2.2.2.2.2.2.2.2.2.2.2.2.2.1, u.2.2.2.2.2.2.2.2.2.2.2.2.2.2.2.2) p1 r30 hr30) z_pall z_pall.symm (ci := 2) (T := TX1) (N := 17) rfl rfl rfl ⟨Nat.le_of_ble_eq_true rfl, Nat.le_of_ble_eq_true rfl⟩ (Nat.le_of_ble_eq_true rfl) rfl hl.1 hP hD hS dX1_beginCheck_30 (fun H locs hP hD hS => ?_)
    refine z_put (ws' := wX1 G ad b (u.1, u.2.1, u.2.2.1, r13.2, u.2.2.2.2.1, u.2.2.2.2.2.1, u.2.2.2.2.2.2.1, u.2.2.2.2.2.2.2.1, u.2.2.2.2.2.2.2.2.1, p1, 0, r30, u.2.2.2.2.2.2.2.2.2.2.2.2.1, u.2.2.2.2.2.2.2.2.2.2.2.2.2.1, u.2.2.2.2.2.2.2.2.2.2.2.2.2.2.1, u.2.2.2.2.2.2.2.2.2.2.2.2.2.2.2.1, u.2.2.2.2.2.2.2.2.2.2.2.2.2.2.2.2)) (ci := 2) (C := RX1) (T := TX1) (N := 17) hx hb hW inlX1 tyX1 tyX1_ok nmX1 hown hK hP hD hS 0 rfl rfl 11 (by decide) (hW _ wd_51) rfl rfl (Nat.le_of_ble_eq_true rfl) rfl dX1_beginCheck_33 (fun H locs hP hD hS => ?_)
    refine lv_aload_n hx hb dX1_beginCheck_36 rfl (lv_at hl 0 rfl) ?_
    refine va_get (D := D) (ci := 2) (v := .ref (ad (b + 8))) (C := RX1) (T := TX1) (N := 17) hx hb hW inlX1 hown hK hP 0 rfl rfl 4 (by decide) (hW _ wd_44) (fun _ h9 => h9) rfl dX1_beginCheck_37 ?_
    refine lv_aload_n hx hb dX1_beginCheck_40 rfl (lv_at hl 0 rfl) ?_
    refine va_get (D := D) (ci := 2) (v := .int u.2.2.2.2.2.2.2.1) (C := RX1) (T := TX1) (N := 17) hx hb hW inlX1 hown hK hP 0 rfl rfl 7 (by decide) (hW _ wd_47) (fun _ h9 => h9) rfl dX1_beginCheck_41 ?_
    refine lv_iconst (v := 1) hx hb dX1_beginCheck_44 (by decide) ?_
    refine lv_iload_n hx hb dX1_beginCheck_45 rfl (lv_at hl 1 rfl) ?_
    replace hf := zb_s hf
    obtain ⟨r46, hr46, hf⟩ := hf
    refine z_Vv (rest := []) C0 kX1_134 (c_X3_append l D G ad (b + 8) u.2.2.2.2.1 u.2.2.2.2.2.2.2.1 1 p1 r46 hr46) (pmX1_log G ad (b) (u.1, u.2.1, u.2.2.1, r13.2, u.2.2.2.2.1, u.2.2.2.2.2.1, u.2.2.2.2.2.2.1, u.2.2.2.2.2.2.2.1, u.2.2.2.2.2.2.2.2.1, p1, 0, r30, u.2.2.2.2.2.2.2.2.2.2.2.2.1, u.2.2.2.2.2.2.2.2.2.2.2.2.2.1, u.2.2.2.2.2.2.2.2.2.2.2.2.2.2.1, u.2.2.2.2.2.2.2.2.2.2.2.2.2.2.2.1, u.2.2.2.2.2.2.2.2.2.2.2.2.2.2.2.2)) (pnX1_log G ad (b) (u.1, u.2.1, u.2.2.1, r13.2, u.2.2.2.2.1, u.2.2.2.2.2.1, u.2.2.2.2.2.2.1, u.2.2.2.2.2.2.2.1, u.2.2.2.2.2.2.2.2.1, p1, 0, r30, u.2.2.2.2.2.2.2.2.2.2.2.2.1, u.2.2.2.2.2.2.2.2.2.2.2.2.2.1, u.2.2.2.2.2.2.2.2.2.2.2.2.2.2.1, u.2.2.2.2.2.2.2.2.2.2.2.2.2.2.2.1, u.2.2.2.2.2.2.2.2.2.2.2.2.2.2.2.2) r46) (ci := 4) (T := TX3) (N := 5) rfl rfl rfl ⟨Nat.le_of_ble_eq_true rfl, Nat.le_of_ble_eq_true rfl⟩ (Nat.le_of_ble_eq_true rfl) rfl hl.1 hP hD hS dX1_beginCheck_46 (fun H locs hP hD hS => ?_)
    replace hP : va_P D vwCl (wX1 G ad b (u.1, u.2.1, u.2.2.1, r13.2, r46, u.2.2.2.2.2.1, u.2.2.2.2.2.2.1, u.2.2.2.2.2.2.2.1, u.2.2.2.2.2.2.2.2.1, p1, 0, r30, u.2.2.2.2.2.2.2.2.2.2.2.2.1, u.2.2.2.2.2.2.2.2.2.2.2.2.2.1, u.2.2.2.2.2.2.2.2.2.2.2.2.2.2.1, u.2.2.2.2.2.2.2.2.2.2.2.2.2.2.2.1, u.2.2.2.2.2.2.2.2.2.2.2.2.2.2.2.2)) H := hP
    replace hD : va_D A (wX1 G ad b (u.1, u.2.1, u.2.2.1, r13.2, r46, u.2.2.2.2.2.1, u.2.2.2.2.2.2.1, u.2.2.2.2.2.2.2.1, u.2.2.2.2.2.2.2.2.1, p1, 0, r30, u.2.2.2.2.2.2.2.2.2.2.2.2.1, u.2.2.2.2.2.2.2.2.2.2.2.2.2.1, u.2.2.2.2.2.2.2.2.2.2.2.2.2.2.1, u.2.2.2.2.2.2.2.2.2.2.2.2.2.2.2.1, u.2.2.2.2.2.2.2.2.2.2.2.2.2.2.2.2)) := hD
    obtain rfl := zo hf
    exact hret _ _ _ _ hP hD hS dX1_beginCheck_49
  · replace hf := zi_p hf c4
    obtain rfl := zo hf
    exact hret _ _ _ _ hP hD hS dX1_beginCheck_7
noncomputable def q_X1_clearCheck (u : tX1) : Option (Int32 × Int32 × Int32) :=
  some ((-6), 0, 0)
set_option maxRecDepth 100000 in
set_option maxHeartbeats 4000000 in
theorem c_X1_clearCheck (l : Launch) (D : va_G) (G : zG) (ad : Nat → Nat) (b : Nat) (u : tX1) (res : Int32 × Int32 × Int32) (hf : q_X1_clearCheck u = some res) : zMv l yX1_clearCheck cX1_clearCheck 1 none 0 0 D G (wX1 G ad b u) (wX1 G ad b (u.1, u.2.1, u.2.2.1, u.2.2.2.1, u.2.2.2.2.1, u.2.2.2.2.2.1, u.2.2.2.2.2.2.1, u.2.2.2.2.2.2.2.1, u.2.2.2.2.2.2.2.2.1, res.1, res.2.1, res.2.2, u.2.2.2.2.2.2.2.2.2.2.2.2.1, u.2.2.2.2.2.2.2.2.2.2.2.2.2.1, u.2.2.2.2.2.2.2.2.2.2.2.2.2.2.1, u.2.2.2.2.2.2.2.2.2.2.2.2.2.2.2.1, u.2.2.2.2.2.2.2.2.2.2.2.2.2.2.2.2)) [.ref (ad b)] := by
  refine zs_v (plainFor_of_name (by decide)) (Nat.le_of_ble_eq_true rfl) ?_
  intro p e s m args below meth c A Q H ls C0 hret hP hD hS hl
  obtain ⟨hx, hb, hml, hown, hW, hK, hlocks, hF, hr, hA⟩ := id C0
  replace hl : lv_has ls 1 [(0, .ref (ad b))] := hl
  unfold q_X1_clearCheck at hf
  refine lv_aload_n hx hb dX1_clearCheck_0 rfl (lv_at hl 0 rfl) ?_
  refine lv_bipush (v := (-6)) hx hb dX1_clearCheck_1 (by decide) ?_
  refine z_put (ws' := wX1 G ad b (u.1, u.2.1, u.2.2.1, u.2.2.2.1, u.2.2.2.2.1, u.2.2.2.2.2.1, u.2.2.2.2.2.2.1, u.2.2.2.2.2.2.2.1, u.2.2.2.2.2.2.2.2.1, (-6), u.2.2.2.2.2.2.2.2.2.2.1, u.2.2.2.2.2.2.2.2.2.2.2.1, u.2.2.2.2.2.2.2.2.2.2.2.2.1, u.2.2.2.2.2.2.2.2.2.2.2.2.2.1, u.2.2.2.2.2.2.2.2.2.2.2.2.2.2.1, u.2.2.2.2.2.2.2.2.2.2.2.2.2.2.2.1, u.2.2.2.2.2.2.2.2.2.2.2.2.2.2.2.2)) (ci := 2) (C := RX1) (T := TX1) (N := 17) hx hb hW inlX1 tyX1 tyX1_ok nmX1 hown hK hP hD hS 0 rfl rfl 9 (by decide) (hW _ wd_49) rfl rfl (Nat.le_of_ble_eq_true rfl) rfl dX1_clearCheck_3 (fun H locs hP hD hS => ?_)
  refine lv_aload_n hx hb dX1_clearCheck_6 rfl (lv_at hl 0 rfl) ?_
  refine lv_iconst (v := 0) hx hb dX1_clearCheck_7 (by decide) ?_
  refine z_put (ws' := wX1 G ad b (u.1, u.2.1, u.2.2.1, u.2.2.2.1, u.2.2.2.2.1, u.2.2.2.2.2.1, u.2.2.2.2.2.2.1, u.2.2.2.2.2.2.2.1, u.2.2.2.2.2.2.2.2.1, (-6), 0, u.2.2.2.2.2.2.2.2.2.2.2.1, u.2.2.2.2.2.2.2.2.2.2.2.2.1, u.2.2.2.2.2.2.2.2.2.2.2.2.2.1, u.2.2.2.2.2.2.2.2.2.2.2.2.2.2.1, u.2.2.2.2.2.2.2.2.2.2.2.2.2.2.2.1, u.2.2.2.2.2.2.2.2.2.2.2.2.2.2.2.2)) (ci := 2) (C := RX1) (T := TX1) (N := 17) hx hb hW inlX1 tyX1 tyX1_ok nmX1 hown hK hP hD hS 0 rfl rfl 10 (by decide) (hW _ wd_50) rfl rfl (Nat.le_of_ble_eq_true rfl) rfl dX1_clearCheck_8 (fun H locs hP hD hS => ?_)
  refine lv_aload_n hx hb dX1_clearCheck_11 rfl (lv_at hl 0 rfl) ?_
  refine lv_iconst (v := 0) hx hb dX1_clearCheck_12 (by decide) ?_
  refine z_put (ws' := wX1 G ad b (u.1, u.2.1, u.2.2.1, u.2.2.2.1, u.2.2.2.2.1, u.2.2.2.2.2.1, u.2.2.2.2.2.2.1, u.2.2.2.2.2.2.2.1, u.2.2.2.2.2.2.2.2.1, (-6), 0, 0, u.2.2.2.2.2.2.2.2.2.2.2.2.1, u.2.2.2.2.2.2.2.2.2.2.2.2.2.1, u.2.2.2.2.2.2.2.2.2.2.2.2.2.2.1, u.2.2.2.2.2.2.2.2.2.2.2.2.2.2.2.1, u.2.2.2.2.2.2.2.2.2.2.2.2.2.2.2.2)) (ci := 2) (C := RX1) (T := TX1) (N := 17) hx hb hW inlX1 tyX1 tyX1_ok nmX1 hown hK hP hD hS 0 rfl rfl 11 (by decide) (hW _ wd_51) rfl rfl (Nat.le_of_ble_eq_true rfl) rfl dX1_clearCheck_13 (fun H locs hP hD hS => ?_)
  obtain rfl := zo hf
  exact hret _ _ _ _ hP hD hS dX1_clearCheck_16
noncomputable def q_X1_lookAtSpot (u : tX1) (p1 : Int32) (p2 : Int32) (p3 : Int32) : Option (tX5 × tX3 × Int32 × Int32) :=
  (if p2 = p1 then (if (u.1 3) ≤ p3 then (if u.2.2.2.2.2.2.1 ≤ 0 then zb (q_X5_append u.2.2.1 p2 p3) fun r92 => zb (q_X3_append u.2.2.2.2.1 u.2.2.2.2.2.2.2.1 5 p1) fun r106 => some (r92.2, r106, u.2.2.2.2.2.2.1, u.2.2.2.2.2.2.2.2.2.2.2.2.2.2.2.1) else zn (u.2.2.2.2.2.2.1 - 1) fun k57 => zn (u.2.2.2.2.2.2.2.2.2.2.2.2.2.2.2.1 + 1) fun k67 => zb (q_X3_append u.2.2.2.2.1 u.2.2.2.2.2.2.2.1 4 p1) fun r80 => some (u.2.2.1, r80, k57, k67)) else zb (q_X5_append u.2.2.1 p2 (p3 + 1)) fun r36 => some (r36.2, u.2.2.2.2.1, u.2.2.2.2.2.2.1, u.2.2.2.2.2.2.2.2.2.2.2.2.2.2.2.1)) else zb (q_X5_append u.2.2.1 p2 p3) fun r11 => some (r11.2, u.2.2.2.2.1, u.2.2.2.2.2.2.1, u.2.2.2.2.2.2.2.2.2.2.2.2.2.2.2.1))
set_option maxRecDepth 100000 in
set_option maxHeartbeats 4000000 in
theorem c_X1_lookAtSpot (l : Launch) (D : va_G) (G : zG) (ad : Nat → Nat) (b : Nat) (u : tX1) (p1 : Int32) (p2 : Int32) (p3 : Int32) (res : tX5 × tX3 × Int32 × Int32) (hf : q_X1_lookAtSpot u p1 p2 p3 = some res) : zMv l yX1_lookAtSpot cX1_lookAtSpot 4 none 1 23 D G (wX1 G ad b u) (wX1 G ad b (u.1, u.2.1, res.1, u.2.2.2.1, res.2.1, u.2.2.2.2.2.1, res.2.2.1, u.2.2.2.2.2.2.2.1, u.2.2.2.2.2.2.2.2.1, u.2.2.2.2.2.2.2.2.2.1, u.2.2.2.2.2.2.2.2.2.2.1, u.2.2.2.2.2.2.2.2.2.2.2.1, u.2.2.2.2.2.2.2.2.2.2.2.2.1, u.2.2.2.2.2.2.2.2.2.2.2.2.2.1, u.2.2.2.2.2.2.2.2.2.2.2.2.2.2.1, res.2.2.2, u.2.2.2.2.2.2.2.2.2.2.2.2.2.2.2.2)) [.ref (ad b), .int p1, .int p2, .int p3] := by
  refine zs_v (plainFor_of_name (by decide)) (Nat.le_of_ble_eq_true rfl) ?_
  intro p e s m args below meth c A Q H ls C0 hret hP hD hS hl
  obtain ⟨hx, hb, hml, hown, hW, hK, hlocks, hF, hr, hA⟩ := id C0
  replace hl : lv_has ls 4 [(0, .ref (ad b)), (1, .int p1), (2, .int p2), (3, .int p3)] := hl
  unfold q_X1_lookAtSpot at hf
  refine lv_iload_n hx hb dX1_lookAtSpot_0 rfl (lv_at hl 2 rfl) ?_
  refine lv_iload_n hx hb dX1_lookAtSpot_1 rfl (lv_at hl 1 rfl) ?_
  refine lv_icmp_eq (tgt := 18) hx hb dX1_lookAtSpot_2 (by decide) (fun c2 => ?_) (fun c2 => ?_)
  · replace hf := zi_p hf c2
    refine lv_iload_n hx hb dX1_lookAtSpot_18 rfl (lv_at hl 3 rfl) ?_
    refine lv_aload_n hx hb dX1_lookAtSpot_19 rfl (lv_at hl 0 rfl) ?_
    refine va_get (D := D) (ci := 2) (v := .ref (ad (b + 1))) (C := RX1) (T := TX1) (N := 17) hx hb hW inlX1 hown hK hP 0 rfl rfl 0 (by decide) (hW _ wd_31) (fun _ h9 => h9) rfl dX1_lookAtSpot_20 ?_
    refine lv_iconst (v := 3) hx hb dX1_lookAtSpot_23 (by decide) ?_
    refine z_iald (v := (u.1 3)) hx hb hK hP 1 0 rfl rfl (z_in rfl) rfl dX1_lookAtSpot_24 ?_
    refine lv_icmp_ge (tgt := 43) hx hb dX1_lookAtSpot_25 (by decide) (fun c25 => ?_) (fun c25 => ?_)
    · replace hf := zi_p hf c25
      refine lv_aload_n hx hb dX1_lookAtSpot_43 rfl (lv_at hl 0 rfl) ?_
      refine va_get (D := D) (ci := 2) (v := .int u.2.2.2.2.2.2.1) (C := RX1) (T := TX1) (N := 17) hx hb hW inlX1 hown hK hP 0 rfl rfl 6 (by decide) (hW _ wd_46) (fun _ h9 => h9) rfl dX1_lookAtSpot_44 ?_
      refine lv_if_le (tgt := 86) hx hb dX1_lookAtSpot_47 (by decide) (fun c47 => ?_) (fun c47 => ?_)
      · replace hf := zi_p hf c47
        refine lv_aload_n hx hb dX1_lookAtSpot_86 rfl (lv_at hl 0 rfl) ?_
        refine va_get (D := D) (ci := 2) (v := .ref (ad (b + 3))) (C := RX1) (T := TX1) (N := 17) hx hb hW inlX1 hown hK hP 0 rfl rfl 2 (by decide) (hW _ wd_36) (fun _ h9 => h9) rfl dX1_lookAtSpot_87 ?_
        refine lv_iload_n hx hb dX1_lookAtSpot_90 rfl (lv_at hl 2 rfl) ?_
        refine lv_iload_n hx hb dX1_lookAtSpot_91 rfl (lv_at hl 3 rfl) ?_
        replace hf := zb_s hf
        obtain ⟨r92, hr92, hf⟩ := hf
        refine z_Vi (rest := []) C0 kX1_108 (c_X5_append l D G ad (b + 3) u.2.2.1 p2 p3 r92 hr92) (pmX1_spots G ad (b) u) (pnX1_spots G ad (b) u r92.2) (ci := 6) (T := TX5) (N := 3) rfl rfl rfl ⟨Nat.le_of_ble_eq_true rfl, Nat.le_of_ble_eq_true rfl⟩ (Nat.le_of_ble_eq_true rfl) rfl hl.1 hP hD hS dX1_lookAtSpot_92 (fun H locs hP hD hS => ?_)
        replace hP : va_P D vwCl (wX1 G ad b (u.1, u.2.1, r92.2, u.2.2.2.1, u.2.2.2.2.1, u.2.2.2.2.2.1, u.2.2.2.2.2.2.1, u.2.2.2.2.2.2.2.1, u.2.2.2.2.2.2.2.2.1, u.2.2.2.2.2.2.2.2.2.1, u.2.2.2.2.2.2.2.2.2.2.1, u.2.2.2.2.2.2.2.2.2.2.2.1, u.2.2.2.2.2.2.2.2.2.2.2.2.1, u.2.2.2.2.2.2.2.2.2.2.2.2.2.1, u.2.2.2.2.2.2.2.2.2.2.2.2.2.2.1, u.2.2.2.2.2.2.2.2.2.2.2.2.2.2.2.1, u.2.2.2.2.2.2.2.2.2.2.2.2.2.2.2.2)) H := hP
        replace hD : va_D A (wX1 G ad b (u.1, u.2.1, r92.2, u.2.2.2.1, u.2.2.2.2.1, u.2.2.2.2.2.1, u.2.2.2.2.2.2.1, u.2.2.2.2.2.2.2.1, u.2.2.2.2.2.2.2.2.1, u.2.2.2.2.2.2.2.2.2.1, u.2.2.2.2.2.2.2.2.2.2.1, u.2.2.2.2.2.2.2.2.2.2.2.1, u.2.2.2.2.2.2.2.2.2.2.2.2.1, u.2.2.2.2.2.2.2.2.2.2.2.2.2.1, u.2.2.2.2.2.2.2.2.2.2.2.2.2.2.1, u.2.2.2.2.2.2.2.2.2.2.2.2.2.2.2.1, u.2.2.2.2.2.2.2.2.2.2.2.2.2.2.2.2)) := hD
        refine lv_pop hx hb dX1_lookAtSpot_95 rfl ?_
        refine lv_aload_n hx hb dX1_lookAtSpot_96 rfl (lv_at hl 0 rfl) ?_
        refine va_get (D := D) (ci := 2) (v := .ref (ad (b + 8))) (C := RX1) (T := TX1) (N := 17) hx hb hW inlX1 hown hK hP 0 rfl rfl 4 (by decide) (hW _ wd_44) (fun _ h9 => h9) rfl dX1_lookAtSpot_97 ?_
        refine lv_aload_n hx hb dX1_lookAtSpot_100 rfl (lv_at hl 0 rfl) ?_
        refine va_get (D := D) (ci := 2) (v := .int u.2.2.2.2.2.2.2.1) (C := RX1) (T := TX1) (N := 17) hx hb hW inlX1 hown hK hP 0 rfl rfl 7 (by decide) (hW _ wd_47) (fun _ h9 => h9) rfl dX1_lookAtSpot_101 ?_
        refine lv_iconst (v := 5) hx hb dX1_lookAtSpot_104 (by decide) ?_
        refine lv_iload_n hx hb dX1_lookAtSpot_105 rfl (lv_at hl 1 rfl) ?_
        replace hf := zb_s hf
        obtain ⟨r106, hr106, hf⟩ := hf
        refine z_Vv (rest := []) C0 kX1_134 (c_X3_append l D G ad (b + 8) u.2.2.2.2.1 u.2.2.2.2.2.2.2.1 5 p1 r106 hr106) (pmX1_log G ad (b) (u.1, u.2.1, r92.2, u.2.2.2.1, u.2.2.2.2.1, u.2.2.2.2.2.1, u.2.2.2.2.2.2.1, u.2.2.2.2.2.2.2.1, u.2.2.2.2.2.2.2.2.1, u.2.2.2.2.2.2.2.2.2.1, u.2.2.2.2.2.2.2.2.2.2.1, u.2.2.2.2.2.2.2.2.2.2.2.1, u.2.2.2.2.2.2.2.2.2.2.2.2.1, u.2.2.2.2.2.2.2.2.2.2.2.2.2.1, u.2.2.2.2.2.2.2.2.2.2.2.2.2.2.1, u.2.2.2.2.2.2.2.2.2.2.2.2.2.2.2.1, u.2.2.2.2.2.2.2.2.2.2.2.2.2.2.2.2)) (pnX1_log G ad (b) (u.1, u.2.1, r92.2, u.2.2.2.1, u.2.2.2.2.1, u.2.2.2.2.2.1, u.2.2.2.2.2.2.1, u.2.2.2.2.2.2.2.1, u.2.2.2.2.2.2.2.2.1, u.2.2.2.2.2.2.2.2.2.1, u.2.2.2.2.2.2.2.2.2.2.1, u.2.2.2.2.2.2.2.2.2.2.2.1, u.2.2.2.2.2.2.2.2.2.2.2.2.1, u.2.2.2.2.2.2.2.2.2.2.2.2.2.1, u.2.2.2.2.2.2.2.2.2.2.2.2.2.2.1, u.2.2.2.2.2.2.2.2.2.2.2.2.2.2.2.1, u.2.2.2.2.2.2.2.2.2.2.2.2.2.2.2.2) r106) (ci := 4) (T := TX3) (N := 5) rfl rfl rfl ⟨Nat.le_of_ble_eq_true rfl, Nat.le_of_ble_eq_true rfl⟩ (Nat.le_of_ble_eq_true rfl) rfl hl.1 hP hD hS dX1_lookAtSpot_106 (fun H locs hP hD hS => ?_)
        replace hP : va_P D vwCl (wX1 G ad b (u.1, u.2.1, r92.2, u.2.2.2.1, r106, u.2.2.2.2.2.1, u.2.2.2.2.2.2.1, u.2.2.2.2.2.2.2.1, u.2.2.2.2.2.2.2.2.1, u.2.2.2.2.2.2.2.2.2.1, u.2.2.2.2.2.2.2.2.2.2.1, u.2.2.2.2.2.2.2.2.2.2.2.1, u.2.2.2.2.2.2.2.2.2.2.2.2.1, u.2.2.2.2.2.2.2.2.2.2.2.2.2.1, u.2.2.2.2.2.2.2.2.2.2.2.2.2.2.1, u.2.2.2.2.2.2.2.2.2.2.2.2.2.2.2.1, u.2.2.2.2.2.2.2.2.2.2.2.2.2.2.2.2)) H := hP
        replace hD : va_D A (wX1 G ad b (u.1, u.2.1, r92.2, u.2.2.2.1, r106, u.2.2.2.2.2.1, u.2.2.2.2.2.2.1, u.2.2.2.2.2.2.2.1, u.2.2.2.2.2.2.2.2.1, u.2.2.2.2.2.2.2.2.2.1, u.2.2.2.2.2.2.2.2.2.2.1, u.2.2.2.2.2.2.2.2.2.2.2.1, u.2.2.2.2.2.2.2.2.2.2.2.2.1, u.2.2.2.2.2.2.2.2.2.2.2.2.2.1, u.2.2.2.2.2.2.2.2.2.2.2.2.2.2.1, u.2.2.2.2.2.2.2.2.2.2.2.2.2.2.2.1, u.2.2.2.2.2.2.2.2.2.2.2.2.2.2.2.2)) := hD
        obtain rfl := zo hf
        exact hret _ _ _ _ hP hD hS dX1_lookAtSpot_109
      · replace hf := zi_n hf c47
        refine lv_aload_n hx hb dX1_lookAtSpot_50 rfl (lv_at hl 0 rfl) ?_
        refine lv_dup hx hb dX1_lookAtSpot_51 rfl ?_
        refine va_get (D := D) (ci := 2) (v := .int u.2.2.2.2.2.2.1) (C := RX1) (T := TX1) (N := 17) hx hb hW inlX1 hown hK hP 0 rfl rfl 6 (by decide) (hW _ wd_46) (fun _ h9 => h9) rfl dX1_lookAtSpot_52 ?_
        refine lv_iconst (v := 1) hx hb dX1_lookAtSpot_55 (by decide) ?_
        refine lv_isub hx hb dX1_lookAtSpot_56 ?_
        replace hf := zn_s hf
        obtain ⟨k57, ek57, hf⟩ := hf
        refine z_top ek57 ?_
        refine z_put (ws' := wX1 G ad b (u.1, u.2.1, u.2.2.1, u.2.2.2.1, u.2.2.2.2.1, u.2.2.2.2.2.1, k57, u.2.2.2.2.2.2.2.1, u.2.2.2.2.2.2.2.2.1, u.2.2.2.2.2.2.2.2.2.1, u.2.2.2.2.2.2.2.2.2.2.1, u.2.2.2.2.2.2.2.2.2.2.2.1, u.2.2.2.2.2.2.2.2.2.2.2.2.1, u.2.2.2.2.2.2.2.2.2.2.2.2.2.1, u.2.2.2.2.2.2.2.2.2.2.2.2.2.2.1, u.2.2.2.2.2.2.2.2.2.2.2.2.2.2.2.1, u.2.2.2.2.2.2.2.2.2.2.2.2.2.2.2.2)) (ci := 2) (C := RX1) (T := TX1) (N := 17) hx hb hW inlX1 tyX1 tyX1_ok nmX1 hown hK hP hD hS 0 rfl rfl 6 (by decide) (hW _ wd_46) rfl rfl (Nat.le_of_ble_eq_true rfl) rfl dX1_lookAtSpot_57 (fun H locs hP hD hS => ?_)
        refine lv_aload_n hx hb dX1_lookAtSpot_60 rfl (lv_at hl 0 rfl) ?_
        refine lv_dup hx hb dX1_lookAtSpot_61 rfl ?_
        refine va_get (D := D) (ci := 2) (v := .int u.2.2.2.2.2.2.2.2.2.2.2.2.2.2.2.1) (C := RX1) (T := TX1) (N := 17) hx hb hW inlX1 hown hK hP 0 rfl rfl 15 (by decide) (hW _ wd_55) (fun _ h9 => h9) rfl dX1_lookAtSpot_62 ?_
        refine lv_iconst (v := 1) hx hb dX1_lookAtSpot_65 (by decide) ?_
        refine lv_iadd hx hb dX1_lookAtSpot_66 ?_
        replace hf := zn_s hf
        obtain ⟨k67, ek67, hf⟩ := hf
        refine z_top ek67 ?_
        refine z_put (ws' := wX1 G ad b (u.1, u.2.1, u.2.2.1, u.2.2.2.1, u.2.2.2.2.1, u.2.2.2.2.2.1, k57, u.2.2.2.2.2.2.2.1, u.2.2.2.2.2.2.2.2.1, u.2.2.2.2.2.2.2.2.2.1, u.2.2.2.2.2.2.2.2.2.2.1, u.2.2.2.2.2.2.2.2.2.2.2.1, u.2.2.2.2.2.2.2.2.2.2.2.2.1, u.2.2.2.2.2.2.2.2.2.2.2.2.2.1, u.2.2.2.2.2.2.2.2.2.2.2.2.2.2.1, k67, u.2.2.2.2.2.2.2.2.2.2.2.2.2.2.2.2)) (ci := 2) (C := RX1) (T := TX1) (N := 17) hx hb hW inlX1 tyX1 tyX1_ok nmX1 hown hK hP hD hS 0 rfl rfl 15 (by decide) (hW _ wd_55) rfl rfl (Nat.le_of_ble_eq_true rfl) rfl dX1_lookAtSpot_67 (fun H locs hP hD hS => ?_)
        refine lv_aload_n hx hb dX1_lookAtSpot_70 rfl (lv_at hl 0 rfl) ?_
        refine va_get (D := D) (ci := 2) (v := .ref (ad (b + 8))) (C := RX1) (T := TX1) (N := 17) hx hb hW inlX1 hown hK hP 0 rfl rfl 4 (by decide) (hW _ wd_44) (fun _ h9 => h9) rfl dX1_lookAtSpot_71 ?_
        refine lv_aload_n hx hb dX1_lookAtSpot_74 rfl (lv_at hl 0 rfl) ?_
        refine va_get (D := D) (ci := 2) (v := .int u.2.2.2.2.2.2.2.1) (C := RX1) (T := TX1) (N := 17) hx hb hW inlX1 hown hK hP 0 rfl rfl 7 (by decide) (hW _ wd_47) (fun _ h9 => h9) rfl dX1_lookAtSpot_75 ?_
        refine lv_iconst (v := 4) hx hb dX1_lookAtSpot_78 (by decide) ?_
        refine lv_iload_n hx hb dX1_lookAtSpot_79 rfl (lv_at hl 1 rfl) ?_
        replace hf := zb_s hf
        obtain ⟨r80, hr80, hf⟩ := hf
        refine z_Vv (rest := []) C0 kX1_134 (c_X3_append l D G ad (b + 8) u.2.2.2.2.1 u.2.2.2.2.2.2.2.1 4 p1 r80 hr80) (pmX1_log G ad (b) (u.1, u.2.1, u.2.2.1, u.2.2.2.1, u.2.2.2.2.1, u.2.2.2.2.2.1, k57, u.2.2.2.2.2.2.2.1, u.2.2.2.2.2.2.2.2.1, u.2.2.2.2.2.2.2.2.2.1, u.2.2.2.2.2.2.2.2.2.2.1, u.2.2.2.2.2.2.2.2.2.2.2.1, u.2.2.2.2.2.2.2.2.2.2.2.2.1, u.2.2.2.2.2.2.2.2.2.2.2.2.2.1, u.2.2.2.2.2.2.2.2.2.2.2.2.2.2.1, k67, u.2.2.2.2.2.2.2.2.2.2.2.2.2.2.2.2)) (pnX1_log G ad (b) (u.1, u.2.1, u.2.2.1, u.2.2.2.1, u.2.2.2.2.1, u.2.2.2.2.2.1, k57, u.2.2.2.2.2.2.2.1, u.2.2.2.2.2.2.2.2.1, u.2.2.2.2.2.2.2.2.2.1, u.2.2.2.2.2.2.2.2.2.2.1, u.2.2.2.2.2.2.2.2.2.2.2.1, u.2.2.2.2.2.2.2.2.2.2.2.2.1, u.2.2.2.2.2.2.2.2.2.2.2.2.2.1, u.2.2.2.2.2.2.2.2.2.2.2.2.2.2.1, k67, u.2.2.2.2.2.2.2.2.2.2.2.2.2.2.2.2) r80) (ci := 4) (T := TX3) (N := 5) rfl rfl rfl ⟨Nat.le_of_ble_eq_true rfl, Nat.le_of_ble_eq_true rfl⟩ (Nat.le_of_ble_eq_true rfl) rfl hl.1 hP hD hS dX1_lookAtSpot_80 (fun H locs hP hD hS => ?_)
        replace hP : va_P D vwCl (wX1 G ad b (u.1, u.2.1, u.2.2.1, u.2.2.2.1, r80, u.2.2.2.2.2.1, k57, u.2.2.2.2.2.2.2.1, u.2.2.2.2.2.2.2.2.1, u.2.2.2.2.2.2.2.2.2.1, u.2.2.2.2.2.2.2.2.2.2.1, u.2.2.2.2.2.2.2.2.2.2.2.1, u.2.2.2.2.2.2.2.2.2.2.2.2.1, u.2.2.2.2.2.2.2.2.2.2.2.2.2.1, u.2.2.2.2.2.2.2.2.2.2.2.2.2.2.1, k67, u.2.2.2.2.2.2.2.2.2.2.2.2.2.2.2.2)) H := hP
        replace hD : va_D A (wX1 G ad b (u.1, u.2.1, u.2.2.1, u.2.2.2.1, r80, u.2.2.2.2.2.1, k57, u.2.2.2.2.2.2.2.1, u.2.2.2.2.2.2.2.2.1, u.2.2.2.2.2.2.2.2.2.1, u.2.2.2.2.2.2.2.2.2.2.1, u.2.2.2.2.2.2.2.2.2.2.2.1, u.2.2.2.2.2.2.2.2.2.2.2.2.1, u.2.2.2.2.2.2.2.2.2.2.2.2.2.1, u.2.2.2.2.2.2.2.2.2.2.2.2.2.2.1, k67, u.2.2.2.2.2.2.2.2.2.2.2.2.2.2.2.2)) := hD
        refine lv_goto (tgt := 109) hx hb dX1_lookAtSpot_83 (by decide) ?_
        obtain rfl := zo hf
        exact hret _ _ _ _ hP hD hS dX1_lookAtSpot_109
    · replace hf := zi_n hf c25
      refine lv_aload_n hx hb dX1_lookAtSpot_28 rfl (lv_at hl 0 rfl) ?_
      refine va_get (D := D) (ci := 2) (v := .ref (ad (b + 3))) (C := RX1) (T := TX1) (N := 17) hx hb hW inlX1 hown hK hP 0 rfl rfl 2 (by decide) (hW _ wd_36) (fun _ h9 => h9) rfl dX1_lookAtSpot_29 ?_
      refine lv_iload_n hx hb dX1_lookAtSpot_32 rfl (lv_at hl 2 rfl) ?_
      refine lv_iload_n hx hb dX1_lookAtSpot_33 rfl (lv_at hl 3 rfl) ?_
      refine lv_iconst (v := 1) hx hb dX1_lookAtSpot_34 (by decide) ?_
      refine lv_iadd hx hb dX1_lookAtSpot_35 ?_
      replace hf := zb_s hf
      obtain ⟨r36, hr36, hf⟩ := hf
      refine z_Vi (rest := []) C0 kX1_108 (c_X5_append l D G ad (b + 3) u.2.2.1 p2 (p3 + 1) r36 hr36) (pmX1_spots G ad (b) u) (pnX1_spots G ad (b) u r36.2) (ci := 6) (T := TX5) (N := 3) rfl rfl rfl ⟨Nat.le_of_ble_eq_true rfl, Nat.le_of_ble_eq_true rfl⟩ (Nat.le_of_ble_eq_true rfl) rfl hl.1 hP hD hS dX1_lookAtSpot_36 (fun H locs hP hD hS => ?_)
      replace hP : va_P D vwCl (wX1 G ad b (u.1, u.2.1, r36.2, u.2.2.2.1, u.2.2.2.2.1, u.2.2.2.2.2.1, u.2.2.2.2.2.2.1, u.2.2.2.2.2.2.2.1, u.2.2.2.2.2.2.2.2.1, u.2.2.2.2.2.2.2.2.2.1, u.2.2.2.2.2.2.2.2.2.2.1, u.2.2.2.2.2.2.2.2.2.2.2.1, u.2.2.2.2.2.2.2.2.2.2.2.2.1, u.2.2.2.2.2.2.2.2.2.2.2.2.2.1, u.2.2.2.2.2.2.2.2.2.2.2.2.2.2.1, u.2.2.2.2.2.2.2.2.2.2.2.2.2.2.2.1, u.2.2.2.2.2.2.2.2.2.2.2.2.2.2.2.2)) H := hP
      replace hD : va_D A (wX1 G ad b (u.1, u.2.1, r36.2, u.2.2.2.1, u.2.2.2.2.1, u.2.2.2.2.2.1, u.2.2.2.2.2.2.1, u.2.2.2.2.2.2.2.1, u.2.2.2.2.2.2.2.2.1, u.2.2.2.2.2.2.2.2.2.1, u.2.2.2.2.2.2.2.2.2.2.1, u.2.2.2.2.2.2.2.2.2.2.2.1, u.2.2.2.2.2.2.2.2.2.2.2.2.1, u.2.2.2.2.2.2.2.2.2.2.2.2.2.1, u.2.2.2.2.2.2.2.2.2.2.2.2.2.2.1, u.2.2.2.2.2.2.2.2.2.2.2.2.2.2.2.1, u.2.2.2.2.2.2.2.2.2.2.2.2.2.2.2.2)) := hD
      refine lv_pop hx hb dX1_lookAtSpot_39 rfl ?_
      refine lv_goto (tgt := 109) hx hb dX1_lookAtSpot_40 (by decide) ?_
      obtain rfl := zo hf
      exact hret _ _ _ _ hP hD hS dX1_lookAtSpot_109
  · replace hf := zi_n hf c2
    refine lv_aload_n hx hb dX1_lookAtSpot_5 rfl (lv_at hl 0 rfl) ?_
    refine va_get (D := D) (ci := 2) (v := .ref (ad (b + 3))) (C := RX1) (T := TX1) (N := 17) hx hb hW inlX1 hown hK hP 0 rfl rfl 2 (by decide) (hW _ wd_36) (fun _ h9 => h9) rfl dX1_lookAtSpot_6 ?_
    refine lv_iload_n hx hb dX1_lookAtSpot_9 rfl (lv_at hl 2 rfl) ?_
    refine lv_iload_n hx hb dX1_lookAtSpot_10 rfl (lv_at hl 3 rfl) ?_
    replace hf := zb_s hf
    obtain ⟨r11, hr11, hf⟩ := hf
    refine z_Vi (rest := []) C0 kX1_108 (c_X5_append l D G ad (b + 3) u.2.2.1 p2 p3 r11 hr11) (pmX1_spots G ad (b) u) (pnX1_spots G ad (b) u r11.2) (ci := 6) (T := TX5) (N := 3) rfl rfl rfl ⟨Nat.le_of_ble_eq_true rfl, Nat.le_of_ble_eq_true rfl⟩ (Nat.le_of_ble_eq_true rfl) rfl hl.1 hP hD hS dX1_lookAtSpot_11 (fun H locs hP hD hS => ?_)
    replace hP : va_P D vwCl (wX1 G ad b (u.1, u.2.1, r11.2, u.2.2.2.1, u.2.2.2.2.1, u.2.2.2.2.2.1, u.2.2.2.2.2.2.1, u.2.2.2.2.2.2.2.1, u.2.2.2.2.2.2.2.2.1, u.2.2.2.2.2.2.2.2.2.1, u.2.2.2.2.2.2.2.2.2.2.1, u.2.2.2.2.2.2.2.2.2.2.2.1, u.2.2.2.2.2.2.2.2.2.2.2.2.1, u.2.2.2.2.2.2.2.2.2.2.2.2.2.1, u.2.2.2.2.2.2.2.2.2.2.2.2.2.2.1, u.2.2.2.2.2.2.2.2.2.2.2.2.2.2.2.1, u.2.2.2.2.2.2.2.2.2.2.2.2.2.2.2.2)) H := hP
    replace hD : va_D A (wX1 G ad b (u.1, u.2.1, r11.2, u.2.2.2.1, u.2.2.2.2.1, u.2.2.2.2.2.1, u.2.2.2.2.2.2.1, u.2.2.2.2.2.2.2.1, u.2.2.2.2.2.2.2.2.1, u.2.2.2.2.2.2.2.2.2.1, u.2.2.2.2.2.2.2.2.2.2.1, u.2.2.2.2.2.2.2.2.2.2.2.1, u.2.2.2.2.2.2.2.2.2.2.2.2.1, u.2.2.2.2.2.2.2.2.2.2.2.2.2.1, u.2.2.2.2.2.2.2.2.2.2.2.2.2.2.1, u.2.2.2.2.2.2.2.2.2.2.2.2.2.2.2.1, u.2.2.2.2.2.2.2.2.2.2.2.2.2.2.2.2)) := hD
    refine lv_pop hx hb dX1_lookAtSpot_14 rfl ?_
    refine lv_goto (tgt := 109) hx hb dX1_lookAtSpot_15 (by decide) ?_
    obtain rfl := zo hf
    exact hret _ _ _ _ hP hD hS dX1_lookAtSpot_109
theorem kX1_154 : zLkV RX1 154 yX1_clearCheck cX1_clearCheck 1 none 0 := ⟨⟨wd_303, wd_304, wd_305, wd_12, wd_306⟩, by decide +kernel⟩
theorem kX1_186 : zLkV RX1 186 yX1_lookAtSpot cX1_lookAtSpot 4 none 3 := ⟨⟨wd_307, wd_308, wd_309, wd_12, wd_310⟩, by decide +kernel⟩
noncomputable def q_X1_endCheck_L73 (u : tX1) (p1 : Int32) (r9 : Int32 × Int32 × Int32) (s21 : Nat → Int32) (k29 : Int32) (k39 : Int32) (v73 : Int32 × tX5 × tX3 × Int32 × Int32) : Option ((Int32 × tX5 × tX3 × Int32 × Int32) ⊕ (tX5 × tX3 × Int32 × Int32)) :=
  (if u.2.2.1.2.2 ≤ v73.1 then some (Sum.inr (v73.2.1, v73.2.2.1, v73.2.2.2.1, v73.2.2.2.2)) else (if 20 ≤ v73.1 then some (Sum.inr (v73.2.1, v73.2.2.1, v73.2.2.2.1, v73.2.2.2.2)) else zg 20 v73.2.1.1 v73.1 fun a94 => zg 20 v73.2.1.2.1 v73.1 fun a103 => zb (q_X1_lookAtSpot (u.1, s21, v73.2.1, u.2.2.2.1, v73.2.2.1, u.2.2.2.2.2.1, v73.2.2.2.1, u.2.2.2.2.2.2.2.1, u.2.2.2.2.2.2.2.2.1, r9.1, r9.2.1, r9.2.2, k29, k39, u.2.2.2.2.2.2.2.2.2.2.2.2.2.2.1, v73.2.2.2.2, u.2.2.2.2.2.2.2.2.2.2.2.2.2.2.2.2) p1 a94 a103) fun r104 => some (Sum.inl ((v73.1 + 1), r104.1, r104.2.1, r104.2.2.1, r104.2.2.2))))
noncomputable def q_X1_endCheck (u : tX1) (p1 : Int32) : Option (tX1) :=
  zb (q_X6_isSpan p1) fun r1 => (if r1 = 0 then some (u) else zb (q_X1_clearCheck u) fun r9 => zs 8 u.2.1 p1 u.2.2.2.2.2.2.2.1 fun s21 => zn ((p1 + 1) - (p1 + 1) / 8 * 8) fun k29 => zn (u.2.2.2.2.2.2.2.2.2.2.2.2.2.1 + 1) fun k39 => zb (q_X3_append u.2.2.2.2.1 u.2.2.2.2.2.2.2.1 3 p1) fun r52 => zb (zl 1000000 (q_X1_endCheck_L73 u p1 r9 s21 k29 k39) (0, (u.2.2.1.1, u.2.2.1.2.1, 0), r52, u.2.2.2.2.2.2.1, u.2.2.2.2.2.2.2.2.2.2.2.2.2.2.2.1)) (fun b73 => some ((u.1, s21, b73.1, u.2.2.2.1, b73.2.1, u.2.2.2.2.2.1, b73.2.2.1, u.2.2.2.2.2.2.2.1, u.2.2.2.2.2.2.2.2.1, r9.1, r9.2.1, r9.2.2, k29, k39, u.2.2.2.2.2.2.2.2.2.2.2.2.2.2.1, b73.2.2.2, u.2.2.2.2.2.2.2.2.2.2.2.2.2.2.2.2))))
set_option maxRecDepth 100000 in
set_option maxHeartbeats 4000000 in
theorem c_X1_endCheck (l : Launch) (D : va_G) (G : zG) (ad : Nat → Nat) (b : Nat) (u : tX1) (p1 : Int32) (res : tX1) (hf : q_X1_endCheck u p1 = some res) : zMv l yX1_endCheck cX1_endCheck 4 none 2 46 D G (wX1 G ad b u) (wX1 G ad b res) [.ref (ad b), .int p1] := by
  refine zs_v (plainFor_of_name (by decide)) (Nat.le_of_ble_eq_true rfl) ?_
  intro p e s m args below meth c A Q H ls C0 hret hP hD hS hl
  obtain ⟨hx, hb, hml, hown, hW, hK, hlocks, hF, hr, hA⟩ := id C0
  replace hl : lv_has ls 4 [(0, .ref (ad b)), (1, .int p1)] := hl
  unfold q_X1_endCheck at hf
  refine lv_iload_n hx hb dX1_endCheck_0 rfl (lv_at hl 1 rfl) ?_
  replace hf := zb_s hf
  obtain ⟨r1, hr1, hf⟩ := hf
  refine z_Ni (rest := []) C0 kX1_105 (c_X6_isSpan l D G p1 r1 hr1) (List.Perm.refl _) (List.Perm.refl _) rfl ⟨Nat.le_of_ble_eq_true rfl, Nat.le_of_ble_eq_true rfl⟩ (Nat.le_of_ble_eq_true rfl) rfl hl.1 hP hD hS dX1_endCheck_1 (fun H locs hP hD hS => ?_)
  refine lv_if_ne (tgt := 8) hx hb dX1_endCheck_4 (by decide) (fun c4 => ?_) (fun c4 => ?_)
  · replace hf := zi_n hf c4
    refine lv_aload_n hx hb dX1_endCheck_8 rfl (lv_at hl 0 rfl) ?_
    replace hf := zb_s hf
    obtain ⟨r9, hr9, hf⟩ := hf
    refine z_Vv (rest := []) C0 kX1_154 (c_X1_clearCheck l D G ad (b) u r9 hr9) z_pall z_pall.symm (ci := 2) (T := TX1) (N := 17) rfl rfl rfl ⟨Nat.le_of_ble_eq_true rfl, Nat.le_of_ble_eq_true rfl⟩ (Nat.le_of_ble_eq_true rfl) rfl hl.1 hP hD hS dX1_endCheck_9 (fun H locs hP hD hS => ?_)
    replace hP : va_P D vwCl (wX1 G ad b (u.1, u.2.1, u.2.2.1, u.2.2.2.1, u.2.2.2.2.1, u.2.2.2.2.2.1, u.2.2.2.2.2.2.1, u.2.2.2.2.2.2.2.1, u.2.2.2.2.2.2.2.2.1, r9.1, r9.2.1, r9.2.2, u.2.2.2.2.2.2.2.2.2.2.2.2.1, u.2.2.2.2.2.2.2.2.2.2.2.2.2.1, u.2.2.2.2.2.2.2.2.2.2.2.2.2.2.1, u.2.2.2.2.2.2.2.2.2.2.2.2.2.2.2.1, u.2.2.2.2.2.2.2.2.2.2.2.2.2.2.2.2)) H := hP
    replace hD : va_D A (wX1 G ad b (u.1, u.2.1, u.2.2.1, u.2.2.2.1, u.2.2.2.2.1, u.2.2.2.2.2.1, u.2.2.2.2.2.2.1, u.2.2.2.2.2.2.2.1, u.2.2.2.2.2.2.2.2.1, r9.1, r9.2.1, r9.2.2, u.2.2.2.2.2.2.2.2.2.2.2.2.1, u.2.2.2.2.2.2.2.2.2.2.2.2.2.1, u.2.2.2.2.2.2.2.2.2.2.2.2.2.2.1, u.2.2.2.2.2.2.2.2.2.2.2.2.2.2.2.1, u.2.2.2.2.2.2.2.2.2.2.2.2.2.2.2.2)) := hD
    refine lv_aload_n hx hb dX1_endCheck_12 rfl (lv_at hl 0 rfl) ?_
    refine va_get (D := D) (ci := 2) (v := .ref (ad (b + 2))) (C := RX1) (T := TX1) (N := 17) hx hb hW inlX1 hown hK hP 0 rfl rfl 1 (by decide) (hW _ wd_32) (fun _ h9 => h9) rfl dX1_endCheck_13 ?_
    refine lv_iload_n hx hb dX1_endCheck_16 rfl (lv_at hl 1 rfl) ?_
    refine lv_aload_n hx hb dX1_endCheck_17 rfl (lv_at hl 0 rfl) ?_
    refine va_get (D := D) (ci := 2) (v := .int u.2.2.2.2.2.2.2.1) (C := RX1) (T := TX1) (N := 17) hx hb hW inlX1 hown hK hP 0 rfl rfl 7 (by decide) (hW _ wd_47) (fun _ h9 => h9) rfl dX1_endCheck_18 ?_
    replace hf := zs_s hf
    obtain ⟨hi21, s21, es21, hf⟩ := hf
    refine z_iast (ws' := wX1 G ad b (u.1, s21, u.2.2.1, u.2.2.2.1, u.2.2.2.2.1, u.2.2.2.2.2.1, u.2.2.2.2.2.2.1, u.2.2.2.2.2.2.2.1, u.2.2.2.2.2.2.2.2.1, r9.1, r9.2.1, r9.2.2, u.2.2.2.2.2.2.2.2.2.2.2.2.1, u.2.2.2.2.2.2.2.2.2.2.2.2.2.1, u.2.2.2.2.2.2.2.2.2.2.2.2.2.2.1, u.2.2.2.2.2.2.2.2.2.2.2.2.2.2.2.1, u.2.2.2.2.2.2.2.2.2.2.2.2.2.2.2.2)) hx hb hK hP hD hS 2 0 rfl rfl hi21 es21 rfl dX1_endCheck_21 (fun H locs hP hD hS => ?_)
    refine lv_aload_n hx hb dX1_endCheck_22 rfl (lv_at hl 0 rfl) ?_
    refine lv_iload_n hx hb dX1_endCheck_23 rfl (lv_at hl 1 rfl) ?_
    refine lv_iconst (v := 1) hx hb dX1_endCheck_24 (by decide) ?_
    refine lv_iadd hx hb dX1_endCheck_25 ?_
    refine lv_bipush (v := 8) hx hb dX1_endCheck_26 (by decide) ?_
    refine lv_irem hx hb dX1_endCheck_28 (by decide) ?_
    replace hf := zn_s hf
    obtain ⟨k29, ek29, hf⟩ := hf
    refine z_top ek29 ?_
    refine z_put (ws' := wX1 G ad b (u.1, s21, u.2.2.1, u.2.2.2.1, u.2.2.2.2.1, u.2.2.2.2.2.1, u.2.2.2.2.2.2.1, u.2.2.2.2.2.2.2.1, u.2.2.2.2.2.2.2.2.1, r9.1, r9.2.1, r9.2.2, k29, u.2.2.2.2.2.2.2.2.2.2.2.2.2.1, u.2.2.2.2.2.2.2.2.2.2.2.2.2.2.1, u.2.2.2.2.2.2.2.2.2.2.2.2.2.2.2.1, u.2.2.2.2.2.2.2.2.2.2.2.2.2.2.2.2)) (ci := 2) (C := RX1) (T := TX1) (N := 17) hx hb hW inlX1 tyX1 tyX1_ok nmX1 hown hK hP hD hS 0 rfl rfl 12 (by decide) (hW _ wd_52) rfl rfl (Nat.le_of_ble_eq_true rfl) rfl dX1_endCheck_29 (fun H locs hP hD hS => ?_)
    refine lv_aload_n hx hb dX1_endCheck_32 rfl (lv_at hl 0 rfl) ?_
    refine lv_dup hx hb dX1_endCheck_33 rfl ?_
    refine va_get (D := D) (ci := 2) (v := .int u.2.2.2.2.2.2.2.2.2.2.2.2.2.1) (C := RX1) (T := TX1) (N := 17) hx hb hW inlX1 hown hK hP 0 rfl rfl 13 (by decide) (hW _ wd_53) (fun _ h9 => h9) rfl dX1_endCheck_34 ?_
    refine lv_iconst (v := 1) hx hb dX1_endCheck_37 (by decide) ?_
    refine lv_iadd hx hb dX1_endCheck_38 ?_
    replace hf := zn_s hf
    obtain ⟨k39, ek39, hf⟩ := hf
    refine z_top ek39 ?_
    refine z_put (ws' := wX1 G ad b (u.1, s21, u.2.2.1, u.2.2.2.1, u.2.2.2.2.1, u.2.2.2.2.2.1, u.2.2.2.2.2.2.1, u.2.2.2.2.2.2.2.1, u.2.2.2.2.2.2.2.2.1, r9.1, r9.2.1, r9.2.2, k29, k39, u.2.2.2.2.2.2.2.2.2.2.2.2.2.2.1, u.2.2.2.2.2.2.2.2.2.2.2.2.2.2.2.1, u.2.2.2.2.2.2.2.2.2.2.2.2.2.2.2.2)) (ci := 2) (C := RX1) (T := TX1) (N := 17) hx hb hW inlX1 tyX1 tyX1_ok nmX1 hown hK hP hD hS 0 rfl rfl 13 (by decide) (hW _ wd_53) rfl rfl (Nat.le_of_ble_eq_true rfl) rfl dX1_endCheck_39 (fun H locs hP hD hS => ?_)
    refine lv_aload_n hx hb dX1_endCheck_42 rfl (lv_at hl 0 rfl) ?_
    refine va_get (D := D) (ci := 2) (v := .ref (ad (b + 8))) (C := RX1) (T := TX1) (N := 17) hx hb hW inlX1 hown hK hP 0 rfl rfl 4 (by decide) (hW _ wd_44) (fun _ h9 => h9) rfl dX1_endCheck_43 ?_
    refine lv_aload_n hx hb dX1_endCheck_46 rfl (lv_at hl 0 rfl) ?_
    refine va_get (D := D) (ci := 2) (v := .int u.2.2.2.2.2.2.2.1) (C := RX1) (T := TX1) (N := 17) hx hb hW inlX1 hown hK hP 0 rfl rfl 7 (by decide) (hW _ wd_47) (fun _ h9 => h9) rfl dX1_endCheck_47 ?_
    refine lv_iconst (v := 3) hx hb dX1_endCheck_50 (by decide) ?_
    refine lv_iload_n hx hb dX1_endCheck_51 rfl (lv_at hl 1 rfl) ?_
    replace hf := zb_s hf
    obtain ⟨r52, hr52, hf⟩ := hf
    refine z_Vv (rest := []) C0 kX1_134 (c_X3_append l D G ad (b + 8) u.2.2.2.2.1 u.2.2.2.2.2.2.2.1 3 p1 r52 hr52) (pmX1_log G ad (b) (u.1, s21, u.2.2.1, u.2.2.2.1, u.2.2.2.2.1, u.2.2.2.2.2.1, u.2.2.2.2.2.2.1, u.2.2.2.2.2.2.2.1, u.2.2.2.2.2.2.2.2.1, r9.1, r9.2.1, r9.2.2, k29, k39, u.2.2.2.2.2.2.2.2.2.2.2.2.2.2.1, u.2.2.2.2.2.2.2.2.2.2.2.2.2.2.2.1, u.2.2.2.2.2.2.2.2.2.2.2.2.2.2.2.2)) (pnX1_log G ad (b) (u.1, s21, u.2.2.1, u.2.2.2.1, u.2.2.2.2.1, u.2.2.2.2.2.1, u.2.2.2.2.2.2.1, u.2.2.2.2.2.2.2.1, u.2.2.2.2.2.2.2.2.1, r9.1, r9.2.1, r9.2.2, k29, k39, u.2.2.2.2.2.2.2.2.2.2.2.2.2.2.1, u.2.2.2.2.2.2.2.2.2.2.2.2.2.2.2.1, u.2.2.2.2.2.2.2.2.2.2.2.2.2.2.2.2) r52) (ci := 4) (T := TX3) (N := 5) rfl rfl rfl ⟨Nat.le_of_ble_eq_true rfl, Nat.le_of_ble_eq_true rfl⟩ (Nat.le_of_ble_eq_true rfl) rfl hl.1 hP hD hS dX1_endCheck_52 (fun H locs hP hD hS => ?_)
    replace hP : va_P D vwCl (wX1 G ad b (u.1, s21, u.2.2.1, u.2.2.2.1, r52, u.2.2.2.2.2.1, u.2.2.2.2.2.2.1, u.2.2.2.2.2.2.2.1, u.2.2.2.2.2.2.2.2.1, r9.1, r9.2.1, r9.2.2, k29, k39, u.2.2.2.2.2.2.2.2.2.2.2.2.2.2.1, u.2.2.2.2.2.2.2.2.2.2.2.2.2.2.2.1, u.2.2.2.2.2.2.2.2.2.2.2.2.2.2.2.2)) H := hP
    replace hD : va_D A (wX1 G ad b (u.1, s21, u.2.2.1, u.2.2.2.1, r52, u.2.2.2.2.2.1, u.2.2.2.2.2.2.1, u.2.2.2.2.2.2.2.1, u.2.2.2.2.2.2.2.2.1, r9.1, r9.2.1, r9.2.2, k29, k39, u.2.2.2.2.2.2.2.2.2.2.2.2.2.2.1, u.2.2.2.2.2.2.2.2.2.2.2.2.2.2.2.1, u.2.2.2.2.2.2.2.2.2.2.2.2.2.2.2.2)) := hD
    refine lv_aload_n hx hb dX1_endCheck_55 rfl (lv_at hl 0 rfl) ?_
    refine va_get (D := D) (ci := 2) (v := .ref (ad (b + 3))) (C := RX1) (T := TX1) (N := 17) hx hb hW inlX1 hown hK hP 0 rfl rfl 2 (by decide) (hW _ wd_36) (fun _ h9 => h9) rfl dX1_endCheck_56 ?_
    refine va_getN (host := "QuietChecks") (D := D) (ci := 6) (v := .int u.2.2.1.2.2) (C := RX5) (T := TX5) (N := 3) hx hb hW inlX5 hown hK hP 3 rfl rfl 2 (by decide) (va_Nw.use rfl (hF.1 _ (by decide +kernel : Cond.fieldLinkNest "QuietChecks$Disk" 181 "QuietChecks$Spots" "size" "I" "QuietChecks" ∈ zNest))) (fun _ h9 => h9) rfl dX1_endCheck_59 ?_
    refine lv_istore_n (lv' := [(2, .int u.2.2.1.2.2), (0, .ref (ad b)), (1, .int p1)]) hx hb dX1_endCheck_62 rfl hl (by decide) rfl (fun ls hl => ?_)
    refine lv_aload_n hx hb dX1_endCheck_63 rfl (lv_at hl 1 rfl) ?_
    refine va_get (D := D) (ci := 2) (v := .ref (ad (b + 3))) (C := RX1) (T := TX1) (N := 17) hx hb hW inlX1 hown hK hP 0 rfl rfl 2 (by decide) (hW _ wd_36) (fun _ h9 => h9) rfl dX1_endCheck_64 ?_
    refine lv_iconst (v := 0) hx hb dX1_endCheck_67 (by decide) ?_
    refine z_putN (ws' := wX1 G ad b (u.1, s21, (u.2.2.1.1, u.2.2.1.2.1, 0), u.2.2.2.1, r52, u.2.2.2.2.2.1, u.2.2.2.2.2.2.1, u.2.2.2.2.2.2.2.1, u.2.2.2.2.2.2.2.2.1, r9.1, r9.2.1, r9.2.2, k29, k39, u.2.2.2.2.2.2.2.2.2.2.2.2.2.2.1, u.2.2.2.2.2.2.2.2.2.2.2.2.2.2.2.1, u.2.2.2.2.2.2.2.2.2.2.2.2.2.2.2.2)) (ci := 6) (C := RX5) (T := TX5) (N := 3) hx hb hW inlX5 tyX5 tyX5_ok nmX5 hown hK hP hD hS 3 rfl rfl 2 (by decide) (va_Nw.use rfl (hF.1 _ (by decide +kernel : Cond.fieldLinkNest "QuietChecks$Disk" 181 "QuietChecks$Spots" "size" "I" "QuietChecks" ∈ zNest))) rfl rfl (Nat.le_of_ble_eq_true rfl) rfl dX1_endCheck_68 (fun H locs hP hD hS => ?_)
    refine lv_iconst (v := 0) hx hb dX1_endCheck_71 (by decide) ?_
    refine lv_istore_n (lv' := [(3, .int 0), (2, .int u.2.2.1.2.2), (0, .ref (ad b)), (1, .int p1)]) hx hb dX1_endCheck_72 rfl hl (by decide) rfl (fun ls hl => ?_)
    replace hf := zb_s hf
    obtain ⟨b73, hz73, hk73⟩ := hf
    have L73 : ∀ (n73 : Nat) (v73 : Int32 × tX5 × tX3 × Int32 × Int32) (hz73 : zl n73 (q_X1_endCheck_L73 u p1 r9 s21 k29 k39) v73 = some b73) (H : Heap) (locs : List Loc) (hP : va_P D vwCl (wX1 G ad b (u.1, s21, v73.2.1, u.2.2.2.1, v73.2.2.1, u.2.2.2.2.2.1, v73.2.2.2.1, u.2.2.2.2.2.2.2.1, u.2.2.2.2.2.2.2.2.1, r9.1, r9.2.1, r9.2.2, k29, k39, u.2.2.2.2.2.2.2.2.2.2.2.2.2.2.1, v73.2.2.2.2, u.2.2.2.2.2.2.2.2.2.2.2.2.2.2.2.2)) H) (hD : va_D A (wX1 G ad b (u.1, s21, v73.2.1, u.2.2.2.1, v73.2.2.1, u.2.2.2.2.2.1, v73.2.2.2.1, u.2.2.2.2.2.2.2.1, u.2.2.2.2.2.2.2.2.1, r9.1, r9.2.1, r9.2.2, k29, k39, u.2.2.2.2.2.2.2.2.2.2.2.2.2.2.1, v73.2.2.2.2, u.2.2.2.2.2.2.2.2.2.2.2.2.2.2.2.2))) (hS : va_S A s.heap H locs) (ls : Array Slot) (hl : lv_has ls 4 [(0, .ref (ad b)), (1, .int p1), (2, .int u.2.2.1.2.2), (3, .int v73.1)]), W p l e (zRm 2 46) s m args below meth c H locs 0 0 Q (F0 m 73 ls []) := by
      intro n73
      induction n73 with
      | zero => intro v73 hz73; exact (zl_0 hz73).elim
      | succ n73 ih73 =>
        intro v73 hz73 H locs hP hD hS ls hl
        obtain ⟨o73, hf, hz73⟩ := zl_s hz73
        unfold q_X1_endCheck_L73 at hf
        refine lv_iload_n hx hb dX1_endCheck_73 rfl (lv_at hl 3 rfl) ?_
        refine lv_iload_n hx hb dX1_endCheck_74 rfl (lv_at hl 2 rfl) ?_
        refine lv_icmp_ge (tgt := 113) hx hb dX1_endCheck_75 (by decide) (fun c75 => ?_) (fun c75 => ?_)
        · replace hf := zi_p hf c75
          have hb73 := zk_r hf hz73
          subst hb73
          replace hf := hk73
          obtain rfl := zo hf
          exact hret _ _ _ _ hP hD hS dX1_endCheck_113
        · replace hf := zi_n hf c75
          refine lv_iload_n hx hb dX1_endCheck_78 rfl (lv_at hl 3 rfl) ?_
          refine lv_bipush (v := 20) hx hb dX1_endCheck_79 (by decide) ?_
          refine lv_icmp_ge (tgt := 113) hx hb dX1_endCheck_81 (by decide) (fun c81 => ?_) (fun c81 => ?_)
          · replace hf := zi_p hf c81
            have hb73 := zk_r hf hz73
            subst hb73
            replace hf := hk73
            obtain rfl := zo hf
            exact hret _ _ _ _ hP hD hS dX1_endCheck_113
          · replace hf := zi_n hf c81
            refine lv_aload_n hx hb dX1_endCheck_84 rfl (lv_at hl 0 rfl) ?_
            refine lv_iload_n hx hb dX1_endCheck_85 rfl (lv_at hl 1 rfl) ?_
            refine lv_aload_n hx hb dX1_endCheck_86 rfl (lv_at hl 0 rfl) ?_
            refine va_get (D := D) (ci := 2) (v := .ref (ad (b + 3))) (C := RX1) (T := TX1) (N := 17) hx hb hW inlX1 hown hK hP 0 rfl rfl 2 (by decide) (hW _ wd_36) (fun _ h9 => h9) rfl dX1_endCheck_87 ?_
            refine va_getN (host := "QuietChecks") (D := D) (ci := 6) (v := .ref (ad (b + 4))) (C := RX5) (T := TX5) (N := 3) hx hb hW inlX5 hown hK hP 3 rfl rfl 0 (by decide) (va_Nw.use rfl (hF.1 _ (by decide +kernel : Cond.fieldLinkNest "QuietChecks$Disk" 182 "QuietChecks$Spots" "spans" "[I" "QuietChecks" ∈ zNest))) (fun _ h9 => h9) rfl dX1_endCheck_90 ?_
            refine lv_iload_n hx hb dX1_endCheck_93 rfl (lv_at hl 3 rfl) ?_
            replace hf := zg_s hf
            obtain ⟨hi94, a94, ea94, hf⟩ := hf
            refine z_iald hx hb hK hP 4 0 rfl rfl hi94 ea94 dX1_endCheck_94 ?_
            refine lv_aload_n hx hb dX1_endCheck_95 rfl (lv_at hl 0 rfl) ?_
            refine va_get (D := D) (ci := 2) (v := .ref (ad (b + 3))) (C := RX1) (T := TX1) (N := 17) hx hb hW inlX1 hown hK hP 0 rfl rfl 2 (by decide) (hW _ wd_36) (fun _ h9 => h9) rfl dX1_endCheck_96 ?_
            refine va_getN (host := "QuietChecks") (D := D) (ci := 6) (v := .ref (ad (b + 5))) (C := RX5) (T := TX5) (N := 3) hx hb hW inlX5 hown hK hP 3 rfl rfl 1 (by decide) (va_Nw.use rfl (hF.1 _ (by decide +kernel : Cond.fieldLinkNest "QuietChecks$Disk" 183 "QuietChecks$Spots" "tries" "[I" "QuietChecks" ∈ zNest))) (fun _ h9 => h9) rfl dX1_endCheck_99 ?_
            refine lv_iload_n hx hb dX1_endCheck_102 rfl (lv_at hl 3 rfl) ?_
            replace hf := zg_s hf
            obtain ⟨hi103, a103, ea103, hf⟩ := hf
            refine z_iald hx hb hK hP 5 0 rfl rfl hi103 ea103 dX1_endCheck_103 ?_
            replace hf := zb_s hf
            obtain ⟨r104, hr104, hf⟩ := hf
            refine z_Vv (rest := []) C0 kX1_186 (c_X1_lookAtSpot l D G ad (b) (u.1, s21, v73.2.1, u.2.2.2.1, v73.2.2.1, u.2.2.2.2.2.1, v73.2.2.2.1, u.2.2.2.2.2.2.2.1, u.2.2.2.2.2.2.2.2.1, r9.1, r9.2.1, r9.2.2, k29, k39, u.2.2.2.2.2.2.2.2.2.2.2.2.2.2.1, v73.2.2.2.2, u.2.2.2.2.2.2.2.2.2.2.2.2.2.2.2.2) p1 a94 a103 r104 hr104) z_pall z_pall.symm (ci := 2) (T := TX1) (N := 17) rfl rfl rfl ⟨Nat.le_of_ble_eq_true rfl, Nat.le_of_ble_eq_true rfl⟩ (Nat.le_of_ble_eq_true rfl) rfl hl.1 hP hD hS dX1_endCheck_104 (fun H locs hP hD hS => ?_)
            replace hP : va_P D vwCl (wX1 G ad b (u.1, s21, r104.1, u.2.2.2.1, r104.2.1, u.2.2.2.2.2.1, r104.2.2.1, u.2.2.2.2.2.2.2.1, u.2.2.2.2.2.2.2.2.1, r9.1, r9.2.1, r9.2.2, k29, k39, u.2.2.2.2.2.2.2.2.2.2.2.2.2.2.1, r104.2.2.2, u.2.2.2.2.2.2.2.2.2.2.2.2.2.2.2.2)) H := hP
            replace hD : va_D A (wX1 G ad b (u.1, s21, r104.1, u.2.2.2.1, r104.2.1, u.2.2.2.2.2.1, r104.2.2.1, u.2.2.2.2.2.2.2.1, u.2.2.2.2.2.2.2.2.1, r9.1, r9.2.1, r9.2.2, k29, k39, u.2.2.2.2.2.2.2.2.2.2.2.2.2.2.1, r104.2.2.2, u.2.2.2.2.2.2.2.2.2.2.2.2.2.2.2.2)) := hD
            refine lv_iinc (v := (v73.1 + 1)) (lv' := [(3, .int (v73.1 + 1)), (0, .ref (ad b)), (1, .int p1), (2, .int u.2.2.1.2.2)]) hx hb dX1_endCheck_107 hl (k := 3) rfl rfl (by decide) rfl (fun ls hl => ?_)
            refine lv_goto (tgt := 73) hx hb dX1_endCheck_110 (by decide) ?_
            exact ih73 _ (zk_l hf hz73) _ _ hP hD hS _ (lv_sub hl [1, 2, 3, 0] rfl)
    exact L73 _ _ hz73 _ _ hP hD hS _ (lv_sub hl [2, 3, 1, 0] rfl)
  · replace hf := zi_p hf c4
    obtain rfl := zo hf
    exact hret _ _ _ _ hP hD hS dX1_endCheck_7
theorem kX1_151 : zLkV RX1 151 yX1_endCheck cX1_endCheck 4 none 1 := ⟨⟨wd_299, wd_300, wd_301, wd_12, wd_302⟩, by decide +kernel⟩
theorem kX1_144 : zLkV RX1 144 yX1_chooseSpan cX1_chooseSpan 6 (some .int) 0 := ⟨⟨wd_268, wd_269, wd_270, wd_12, wd_271⟩, by decide +kernel⟩
theorem kX1_147 : zLkV RX1 147 yX1_beginCheck cX1_beginCheck 2 none 1 := ⟨⟨wd_291, wd_292, wd_293, wd_12, wd_294⟩, by decide +kernel⟩
noncomputable def q_X1_passQuietTick_J53  (w53_0 : tX1) : Option (Int32 × tX1) :=
  (if w53_0.2.2.2.2.2.2.2.2.2.1 = (-6) then some ((-6), w53_0) else zn (w53_0.2.2.2.2.2.2.2.2.2.2.1 + 1) fun k72 => (if w53_0.2.2.2.2.2.2.2.2.2.2.2.1 ≤ k72 then zb (q_X1_endCheck (w53_0.1, w53_0.2.1, w53_0.2.2.1, w53_0.2.2.2.1, w53_0.2.2.2.2.1, w53_0.2.2.2.2.2.1, w53_0.2.2.2.2.2.2.1, w53_0.2.2.2.2.2.2.2.1, w53_0.2.2.2.2.2.2.2.2.1, w53_0.2.2.2.2.2.2.2.2.2.1, k72, w53_0.2.2.2.2.2.2.2.2.2.2.2.1, w53_0.2.2.2.2.2.2.2.2.2.2.2.2.1, w53_0.2.2.2.2.2.2.2.2.2.2.2.2.2.1, w53_0.2.2.2.2.2.2.2.2.2.2.2.2.2.2.1, w53_0.2.2.2.2.2.2.2.2.2.2.2.2.2.2.2.1, w53_0.2.2.2.2.2.2.2.2.2.2.2.2.2.2.2.2) w53_0.2.2.2.2.2.2.2.2.2.1) fun r96 => some (w53_0.2.2.2.2.2.2.2.2.2.1, r96) else some ((-6), (w53_0.1, w53_0.2.1, w53_0.2.2.1, w53_0.2.2.2.1, w53_0.2.2.2.2.1, w53_0.2.2.2.2.2.1, w53_0.2.2.2.2.2.2.1, w53_0.2.2.2.2.2.2.2.1, w53_0.2.2.2.2.2.2.2.2.1, w53_0.2.2.2.2.2.2.2.2.2.1, k72, w53_0.2.2.2.2.2.2.2.2.2.2.2.1, w53_0.2.2.2.2.2.2.2.2.2.2.2.2.1, w53_0.2.2.2.2.2.2.2.2.2.2.2.2.2.1, w53_0.2.2.2.2.2.2.2.2.2.2.2.2.2.2.1, w53_0.2.2.2.2.2.2.2.2.2.2.2.2.2.2.2.1, w53_0.2.2.2.2.2.2.2.2.2.2.2.2.2.2.2.2))))
noncomputable def q_X1_passQuietTick (u : tX1) : Option (Int32 × tX1) :=
  zn (u.2.2.2.2.2.2.2.1 + 1) fun k7 => (if (u.1 0) ≤ u.2.2.2.2.2.2.2.2.1 then (if u.2.2.2.2.2.2.2.2.2.1 = (-6) then zb (q_X1_chooseSpan (u.1, u.2.1, u.2.2.1, u.2.2.2.1, u.2.2.2.2.1, u.2.2.2.2.2.1, u.2.2.2.2.2.2.1, k7, u.2.2.2.2.2.2.2.2.1, u.2.2.2.2.2.2.2.2.2.1, u.2.2.2.2.2.2.2.2.2.2.1, u.2.2.2.2.2.2.2.2.2.2.2.1, u.2.2.2.2.2.2.2.2.2.2.2.2.1, u.2.2.2.2.2.2.2.2.2.2.2.2.2.1, u.2.2.2.2.2.2.2.2.2.2.2.2.2.2.1, u.2.2.2.2.2.2.2.2.2.2.2.2.2.2.2.1, u.2.2.2.2.2.2.2.2.2.2.2.2.2.2.2.2)) fun r47 => zb (q_X1_beginCheck (u.1, u.2.1, u.2.2.1, u.2.2.2.1, u.2.2.2.2.1, u.2.2.2.2.2.1, u.2.2.2.2.2.2.1, k7, u.2.2.2.2.2.2.2.2.1, u.2.2.2.2.2.2.2.2.2.1, u.2.2.2.2.2.2.2.2.2.2.1, u.2.2.2.2.2.2.2.2.2.2.2.1, u.2.2.2.2.2.2.2.2.2.2.2.2.1, u.2.2.2.2.2.2.2.2.2.2.2.2.2.1, u.2.2.2.2.2.2.2.2.2.2.2.2.2.2.1, u.2.2.2.2.2.2.2.2.2.2.2.2.2.2.2.1, u.2.2.2.2.2.2.2.2.2.2.2.2.2.2.2.2) r47) fun r50 => q_X1_passQuietTick_J53 r50 else q_X1_passQuietTick_J53 (u.1, u.2.1, u.2.2.1, u.2.2.2.1, u.2.2.2.2.1, u.2.2.2.2.2.1, u.2.2.2.2.2.2.1, k7, u.2.2.2.2.2.2.2.2.1, u.2.2.2.2.2.2.2.2.2.1, u.2.2.2.2.2.2.2.2.2.2.1, u.2.2.2.2.2.2.2.2.2.2.2.1, u.2.2.2.2.2.2.2.2.2.2.2.2.1, u.2.2.2.2.2.2.2.2.2.2.2.2.2.1, u.2.2.2.2.2.2.2.2.2.2.2.2.2.2.1, u.2.2.2.2.2.2.2.2.2.2.2.2.2.2.2.1, u.2.2.2.2.2.2.2.2.2.2.2.2.2.2.2.2)) else zn (u.2.2.2.2.2.2.2.2.1 + 1) fun k30 => some ((-6), (u.1, u.2.1, u.2.2.1, u.2.2.2.1, u.2.2.2.2.1, u.2.2.2.2.2.1, u.2.2.2.2.2.2.1, k7, k30, u.2.2.2.2.2.2.2.2.2.1, u.2.2.2.2.2.2.2.2.2.2.1, u.2.2.2.2.2.2.2.2.2.2.2.1, u.2.2.2.2.2.2.2.2.2.2.2.2.1, u.2.2.2.2.2.2.2.2.2.2.2.2.2.1, u.2.2.2.2.2.2.2.2.2.2.2.2.2.2.1, u.2.2.2.2.2.2.2.2.2.2.2.2.2.2.2.1, u.2.2.2.2.2.2.2.2.2.2.2.2.2.2.2.2)))
set_option maxRecDepth 100000 in
set_option maxHeartbeats 4000000 in
theorem c_X1_passQuietTick (l : Launch) (D : va_G) (G : zG) (ad : Nat → Nat) (b : Nat) (u : tX1) (res : Int32 × tX1) (hf : q_X1_passQuietTick u = some res) : zMi l yX1_passQuietTick cX1_passQuietTick 2 (some .int) 4 102 D G (wX1 G ad b u) (wX1 G ad b res.2) [.ref (ad b)] res.1 := by
  refine zs_i (plainFor_of_name (by decide)) (Nat.le_of_ble_eq_true rfl) ?_
  intro p e s m args below meth c A Q H ls C0 hret hP hD hS hl
  obtain ⟨hx, hb, hml, hown, hW, hK, hlocks, hF, hr, hA⟩ := id C0
  replace hl : lv_has ls 2 [(0, .ref (ad b))] := hl
  unfold q_X1_passQuietTick at hf
  refine lv_aload_n hx hb dX1_passQuietTick_0 rfl (lv_at hl 0 rfl) ?_
  refine lv_dup hx hb dX1_passQuietTick_1 rfl ?_
  refine va_get (D := D) (ci := 2) (v := .int u.2.2.2.2.2.2.2.1) (C := RX1) (T := TX1) (N := 17) hx hb hW inlX1 hown hK hP 0 rfl rfl 7 (by decide) (hW _ wd_47) (fun _ h9 => h9) rfl dX1_passQuietTick_2 ?_
  refine lv_iconst (v := 1) hx hb dX1_passQuietTick_5 (by decide) ?_
  refine lv_iadd hx hb dX1_passQuietTick_6 ?_
  replace hf := zn_s hf
  obtain ⟨k7, ek7, hf⟩ := hf
  refine z_top ek7 ?_
  refine z_put (ws' := wX1 G ad b (u.1, u.2.1, u.2.2.1, u.2.2.2.1, u.2.2.2.2.1, u.2.2.2.2.2.1, u.2.2.2.2.2.2.1, k7, u.2.2.2.2.2.2.2.2.1, u.2.2.2.2.2.2.2.2.2.1, u.2.2.2.2.2.2.2.2.2.2.1, u.2.2.2.2.2.2.2.2.2.2.2.1, u.2.2.2.2.2.2.2.2.2.2.2.2.1, u.2.2.2.2.2.2.2.2.2.2.2.2.2.1, u.2.2.2.2.2.2.2.2.2.2.2.2.2.2.1, u.2.2.2.2.2.2.2.2.2.2.2.2.2.2.2.1, u.2.2.2.2.2.2.2.2.2.2.2.2.2.2.2.2)) (ci := 2) (C := RX1) (T := TX1) (N := 17) hx hb hW inlX1 tyX1 tyX1_ok nmX1 hown hK hP hD hS 0 rfl rfl 7 (by decide) (hW _ wd_47) rfl rfl (Nat.le_of_ble_eq_true rfl) rfl dX1_passQuietTick_7 (fun H locs hP hD hS => ?_)
  refine lv_aload_n hx hb dX1_passQuietTick_10 rfl (lv_at hl 0 rfl) ?_
  refine va_get (D := D) (ci := 2) (v := .int u.2.2.2.2.2.2.2.2.1) (C := RX1) (T := TX1) (N := 17) hx hb hW inlX1 hown hK hP 0 rfl rfl 8 (by decide) (hW _ wd_48) (fun _ h9 => h9) rfl dX1_passQuietTick_11 ?_
  refine lv_aload_n hx hb dX1_passQuietTick_14 rfl (lv_at hl 0 rfl) ?_
  refine va_get (D := D) (ci := 2) (v := .ref (ad (b + 1))) (C := RX1) (T := TX1) (N := 17) hx hb hW inlX1 hown hK hP 0 rfl rfl 0 (by decide) (hW _ wd_31) (fun _ h9 => h9) rfl dX1_passQuietTick_15 ?_
  refine lv_iconst (v := 0) hx hb dX1_passQuietTick_18 (by decide) ?_
  refine z_iald (v := (u.1 0)) hx hb hK hP 1 0 rfl rfl (z_in rfl) rfl dX1_passQuietTick_19 ?_
  refine lv_icmp_ge (tgt := 36) hx hb dX1_passQuietTick_20 (by decide) (fun c20 => ?_) (fun c20 => ?_)
  · replace hf := zi_p hf c20
    refine lv_aload_n hx hb dX1_passQuietTick_36 rfl (lv_at hl 0 rfl) ?_
    refine va_get (D := D) (ci := 2) (v := .int u.2.2.2.2.2.2.2.2.2.1) (C := RX1) (T := TX1) (N := 17) hx hb hW inlX1 hown hK hP 0 rfl rfl 9 (by decide) (hW _ wd_49) (fun _ h9 => h9) rfl dX1_passQuietTick_37 ?_
    refine lv_bipush (v := (-6)) hx hb dX1_passQuietTick_40 (by decide) ?_
    have J53 : ∀ (w53_0 : tX1) (hf : q_X1_passQuietTick_J53 w53_0 = some res) (H : Heap) (locs : List Loc) (hP : va_P D vwCl (wX1 G ad b w53_0) H) (hD : va_D A (wX1 G ad b w53_0)) (hS : va_S A s.heap H locs) (ls : Array Slot) (hl : lv_has ls 2 [(0, .ref (ad b))]), W p l e (zRm 4 102) s m args below meth c H locs 0 0 Q (F0 m 53 ls []) := by
      intro w53_0 hf H locs hP hD hS ls hl
      unfold q_X1_passQuietTick_J53 at hf
      refine lv_aload_n hx hb dX1_passQuietTick_53 rfl (lv_at hl 0 rfl) ?_
      refine va_get (D := D) (ci := 2) (v := .int w53_0.2.2.2.2.2.2.2.2.2.1) (C := RX1) (T := TX1) (N := 17) hx hb hW inlX1 hown hK hP 0 rfl rfl 9 (by decide) (hW _ wd_49) (fun _ h9 => h9) rfl dX1_passQuietTick_54 ?_
      refine lv_bipush (v := (-6)) hx hb dX1_passQuietTick_57 (by decide) ?_
      refine lv_icmp_ne (tgt := 65) hx hb dX1_passQuietTick_59 (by decide) (fun c59 => ?_) (fun c59 => ?_)
      · replace hf := zi_n hf c59
        refine lv_aload_n hx hb dX1_passQuietTick_65 rfl (lv_at hl 0 rfl) ?_
        refine lv_dup hx hb dX1_passQuietTick_66 rfl ?_
        refine va_get (D := D) (ci := 2) (v := .int w53_0.2.2.2.2.2.2.2.2.2.2.1) (C := RX1) (T := TX1) (N := 17) hx hb hW inlX1 hown hK hP 0 rfl rfl 10 (by decide) (hW _ wd_50) (fun _ h9 => h9) rfl dX1_passQuietTick_67 ?_
        refine lv_iconst (v := 1) hx hb dX1_passQuietTick_70 (by decide) ?_
        refine lv_iadd hx hb dX1_passQuietTick_71 ?_
        replace hf := zn_s hf
        obtain ⟨k72, ek72, hf⟩ := hf
        refine z_top ek72 ?_
        refine z_put (ws' := wX1 G ad b (w53_0.1, w53_0.2.1, w53_0.2.2.1, w53_0.2.2.2.1, w53_0.2.2.2.2.1, w53_0.2.2.2.2.2.1, w53_0.2.2.2.2.2.2.1, w53_0.2.2.2.2.2.2.2.1, w53_0.2.2.2.2.2.2.2.2.1, w53_0.2.2.2.2.2.2.2.2.2.1, k72, w53_0.2.2.2.2.2.2.2.2.2.2.2.1, w53_0.2.2.2.2.2.2.2.2.2.2.2.2.1, w53_0.2.2.2.2.2.2.2.2.2.2.2.2.2.1, w53_0.2.2.2.2.2.2.2.2.2.2.2.2.2.2.1, w53_0.2.2.2.2.2.2.2.2.2.2.2.2.2.2.2.1, w53_0.2.2.2.2.2.2.2.2.2.2.2.2.2.2.2.2)) (ci := 2) (C := RX1) (T := TX1) (N := 17) hx hb hW inlX1 tyX1 tyX1_ok nmX1 hown hK hP hD hS 0 rfl rfl 10 (by decide) (hW _ wd_50) rfl rfl (Nat.le_of_ble_eq_true rfl) rfl dX1_passQuietTick_72 (fun H locs hP hD hS => ?_)
        refine lv_aload_n hx hb dX1_passQuietTick_75 rfl (lv_at hl 0 rfl) ?_
        refine va_get (D := D) (ci := 2) (v := .int k72) (C := RX1) (T := TX1) (N := 17) hx hb hW inlX1 hown hK hP 0 rfl rfl 10 (by decide) (hW _ wd_50) (fun _ h9 => h9) rfl dX1_passQuietTick_76 ?_
        refine lv_aload_n hx hb dX1_passQuietTick_79 rfl (lv_at hl 0 rfl) ?_
        refine va_get (D := D) (ci := 2) (v := .int w53_0.2.2.2.2.2.2.2.2.2.2.2.1) (C := RX1) (T := TX1) (N := 17) hx hb hW inlX1 hown hK hP 0 rfl rfl 11 (by decide) (hW _ wd_51) (fun _ h9 => h9) rfl dX1_passQuietTick_80 ?_
        refine lv_icmp_ge (tgt := 89) hx hb dX1_passQuietTick_83 (by decide) (fun c83 => ?_) (fun c83 => ?_)
        · replace hf := zi_p hf c83
          refine lv_aload_n hx hb dX1_passQuietTick_89 rfl (lv_at hl 0 rfl) ?_
          refine va_get (D := D) (ci := 2) (v := .int w53_0.2.2.2.2.2.2.2.2.2.1) (C := RX1) (T := TX1) (N := 17) hx hb hW inlX1 hown hK hP 0 rfl rfl 9 (by decide) (hW _ wd_49) (fun _ h9 => h9) rfl dX1_passQuietTick_90 ?_
          refine lv_istore_n (lv' := [(1, .int w53_0.2.2.2.2.2.2.2.2.2.1), (0, .ref (ad b))]) hx hb dX1_passQuietTick_93 rfl hl (by decide) rfl (fun ls hl => ?_)
          refine lv_aload_n hx hb dX1_passQuietTick_94 rfl (lv_at hl 1 rfl) ?_
          refine lv_iload_n hx hb dX1_passQuietTick_95 rfl (lv_at hl 0 rfl) ?_
          replace hf := zb_s hf
          obtain ⟨r96, hr96, hf⟩ := hf
          refine z_Vv (rest := []) C0 kX1_151 (c_X1_endCheck l D G ad (b) (w53_0.1, w53_0.2.1, w53_0.2.2.1, w53_0.2.2.2.1, w53_0.2.2.2.2.1, w53_0.2.2.2.2.2.1, w53_0.2.2.2.2.2.2.1, w53_0.2.2.2.2.2.2.2.1, w53_0.2.2.2.2.2.2.2.2.1, w53_0.2.2.2.2.2.2.2.2.2.1, k72, w53_0.2.2.2.2.2.2.2.2.2.2.2.1, w53_0.2.2.2.2.2.2.2.2.2.2.2.2.1, w53_0.2.2.2.2.2.2.2.2.2.2.2.2.2.1, w53_0.2.2.2.2.2.2.2.2.2.2.2.2.2.2.1, w53_0.2.2.2.2.2.2.2.2.2.2.2.2.2.2.2.1, w53_0.2.2.2.2.2.2.2.2.2.2.2.2.2.2.2.2) w53_0.2.2.2.2.2.2.2.2.2.1 r96 hr96) z_pall z_pall.symm (ci := 2) (T := TX1) (N := 17) rfl rfl rfl ⟨Nat.le_of_ble_eq_true rfl, Nat.le_of_ble_eq_true rfl⟩ (Nat.le_of_ble_eq_true rfl) rfl hl.1 hP hD hS dX1_passQuietTick_96 (fun H locs hP hD hS => ?_)
          replace hP : va_P D vwCl (wX1 G ad b r96) H := hP
          replace hD : va_D A (wX1 G ad b r96) := hD
          refine lv_iload_n hx hb dX1_passQuietTick_99 rfl (lv_at hl 0 rfl) ?_
          obtain rfl := zo hf
          exact hret _ _ _ _ _ hP hD hS rfl dX1_passQuietTick_100
        · replace hf := zi_n hf c83
          refine lv_bipush (v := (-6)) hx hb dX1_passQuietTick_86 (by decide) ?_
          obtain rfl := zo hf
          exact hret _ _ _ _ _ hP hD hS rfl dX1_passQuietTick_88
      · replace hf := zi_p hf c59
        refine lv_bipush (v := (-6)) hx hb dX1_passQuietTick_62 (by decide) ?_
        obtain rfl := zo hf
        exact hret _ _ _ _ _ hP hD hS rfl dX1_passQuietTick_64
    refine lv_icmp_ne (tgt := 53) hx hb dX1_passQuietTick_42 (by decide) (fun c42 => ?_) (fun c42 => ?_)
    · replace hf := zi_n hf c42
      exact J53 (u.1, u.2.1, u.2.2.1, u.2.2.2.1, u.2.2.2.2.1, u.2.2.2.2.2.1, u.2.2.2.2.2.2.1, k7, u.2.2.2.2.2.2.2.2.1, u.2.2.2.2.2.2.2.2.2.1, u.2.2.2.2.2.2.2.2.2.2.1, u.2.2.2.2.2.2.2.2.2.2.2.1, u.2.2.2.2.2.2.2.2.2.2.2.2.1, u.2.2.2.2.2.2.2.2.2.2.2.2.2.1, u.2.2.2.2.2.2.2.2.2.2.2.2.2.2.1, u.2.2.2.2.2.2.2.2.2.2.2.2.2.2.2.1, u.2.2.2.2.2.2.2.2.2.2.2.2.2.2.2.2) hf _ _ hP hD hS _ (lv_sub hl [0] rfl)
    · replace hf := zi_p hf c42
      refine lv_aload_n hx hb dX1_passQuietTick_45 rfl (lv_at hl 0 rfl) ?_
      refine lv_aload_n hx hb dX1_passQuietTick_46 rfl (lv_at hl 0 rfl) ?_
      replace hf := zb_s hf
      obtain ⟨r47, hr47, hf⟩ := hf
      refine z_Vi (rest := [.ref (ad b)]) C0 kX1_144 (c_X1_chooseSpan l D G ad (b) (u.1, u.2.1, u.2.2.1, u.2.2.2.1, u.2.2.2.2.1, u.2.2.2.2.2.1, u.2.2.2.2.2.2.1, k7, u.2.2.2.2.2.2.2.2.1, u.2.2.2.2.2.2.2.2.2.1, u.2.2.2.2.2.2.2.2.2.2.1, u.2.2.2.2.2.2.2.2.2.2.2.1, u.2.2.2.2.2.2.2.2.2.2.2.2.1, u.2.2.2.2.2.2.2.2.2.2.2.2.2.1, u.2.2.2.2.2.2.2.2.2.2.2.2.2.2.1, u.2.2.2.2.2.2.2.2.2.2.2.2.2.2.2.1, u.2.2.2.2.2.2.2.2.2.2.2.2.2.2.2.2) r47 hr47) z_pall z_pall.symm (ci := 2) (T := TX1) (N := 17) rfl rfl rfl ⟨Nat.le_of_ble_eq_true rfl, Nat.le_of_ble_eq_true rfl⟩ (Nat.le_of_ble_eq_true rfl) rfl hl.1 hP hD hS dX1_passQuietTick_47 (fun H locs hP hD hS => ?_)
      replace hf := zb_s hf
      obtain ⟨r50, hr50, hf⟩ := hf
      refine z_Vv (rest := []) C0 kX1_147 (c_X1_beginCheck l D G ad (b) (u.1, u.2.1, u.2.2.1, u.2.2.2.1, u.2.2.2.2.1, u.2.2.2.2.2.1, u.2.2.2.2.2.2.1, k7, u.2.2.2.2.2.2.2.2.1, u.2.2.2.2.2.2.2.2.2.1, u.2.2.2.2.2.2.2.2.2.2.1, u.2.2.2.2.2.2.2.2.2.2.2.1, u.2.2.2.2.2.2.2.2.2.2.2.2.1, u.2.2.2.2.2.2.2.2.2.2.2.2.2.1, u.2.2.2.2.2.2.2.2.2.2.2.2.2.2.1, u.2.2.2.2.2.2.2.2.2.2.2.2.2.2.2.1, u.2.2.2.2.2.2.2.2.2.2.2.2.2.2.2.2) r47 r50 hr50) z_pall z_pall.symm (ci := 2) (T := TX1) (N := 17) rfl rfl rfl ⟨Nat.le_of_ble_eq_true rfl, Nat.le_of_ble_eq_true rfl⟩ (Nat.le_of_ble_eq_true rfl) rfl hl.1 hP hD hS dX1_passQuietTick_50 (fun H locs hP hD hS => ?_)
      replace hP : va_P D vwCl (wX1 G ad b r50) H := hP
      replace hD : va_D A (wX1 G ad b r50) := hD
      exact J53 r50 hf _ _ hP hD hS _ (lv_sub hl [0] rfl)
  · replace hf := zi_n hf c20
    refine lv_aload_n hx hb dX1_passQuietTick_23 rfl (lv_at hl 0 rfl) ?_
    refine lv_dup hx hb dX1_passQuietTick_24 rfl ?_
    refine va_get (D := D) (ci := 2) (v := .int u.2.2.2.2.2.2.2.2.1) (C := RX1) (T := TX1) (N := 17) hx hb hW inlX1 hown hK hP 0 rfl rfl 8 (by decide) (hW _ wd_48) (fun _ h9 => h9) rfl dX1_passQuietTick_25 ?_
    refine lv_iconst (v := 1) hx hb dX1_passQuietTick_28 (by decide) ?_
    refine lv_iadd hx hb dX1_passQuietTick_29 ?_
    replace hf := zn_s hf
    obtain ⟨k30, ek30, hf⟩ := hf
    refine z_top ek30 ?_
    refine z_put (ws' := wX1 G ad b (u.1, u.2.1, u.2.2.1, u.2.2.2.1, u.2.2.2.2.1, u.2.2.2.2.2.1, u.2.2.2.2.2.2.1, k7, k30, u.2.2.2.2.2.2.2.2.2.1, u.2.2.2.2.2.2.2.2.2.2.1, u.2.2.2.2.2.2.2.2.2.2.2.1, u.2.2.2.2.2.2.2.2.2.2.2.2.1, u.2.2.2.2.2.2.2.2.2.2.2.2.2.1, u.2.2.2.2.2.2.2.2.2.2.2.2.2.2.1, u.2.2.2.2.2.2.2.2.2.2.2.2.2.2.2.1, u.2.2.2.2.2.2.2.2.2.2.2.2.2.2.2.2)) (ci := 2) (C := RX1) (T := TX1) (N := 17) hx hb hW inlX1 tyX1 tyX1_ok nmX1 hown hK hP hD hS 0 rfl rfl 8 (by decide) (hW _ wd_48) rfl rfl (Nat.le_of_ble_eq_true rfl) rfl dX1_passQuietTick_30 (fun H locs hP hD hS => ?_)
    refine lv_bipush (v := (-6)) hx hb dX1_passQuietTick_33 (by decide) ?_
    obtain rfl := zo hf
    exact hret _ _ _ _ _ hP hD hS rfl dX1_passQuietTick_35
theorem kX1_140 : zLkV RX1 140 yX1_passQuietTick cX1_passQuietTick 2 (some .int) 0 := ⟨⟨wd_264, wd_265, wd_266, wd_12, wd_267⟩, by decide +kernel⟩
noncomputable def q_X1_passQuietTicks_L36 (p1 : Int32) (v36 : Int32 × tX1) : Option ((Int32 × tX1) ⊕ (tX1)) :=
  (if p1 ≤ v36.1 then some (Sum.inr (v36.2)) else zb (q_X1_passQuietTick v36.2) fun r42 => some (Sum.inl ((v36.1 + 1), r42.2)))
noncomputable def q_X1_passQuietTicks (u : tX1) (p1 : Int32) : Option (Int32 × tX1) :=
  (if p1 < 1 then some ((-2), u) else (if p1 ≤ 500 then (if (u.2.2.2.2.2.2.2.1 + p1) ≤ 99999 then zb (zl 1000000 (q_X1_passQuietTicks_L36 p1) (0, u)) (fun b36 => some ((b36.2.2.2.2.2.2.2.2.2.2.2.2.2.1 - u.2.2.2.2.2.2.2.2.2.2.2.2.2.1), b36)) else some ((-4), u)) else some ((-2), u)))
set_option maxRecDepth 100000 in
set_option maxHeartbeats 4000000 in
theorem c_X1_passQuietTicks (l : Launch) (D : va_G) (G : zG) (ad : Nat → Nat) (b : Nat) (u : tX1) (p1 : Int32) (res : Int32 × tX1) (hf : q_X1_passQuietTicks u p1 = some res) : zMi l yX1_passQuietTicks cX1_passQuietTicks 4 (some .int) 5 123 D G (wX1 G ad b u) (wX1 G ad b res.2) [.ref (ad b), .int p1] res.1 := by
  refine zs_i (plainFor_of_name (by decide)) (Nat.le_of_ble_eq_true rfl) ?_
  intro p e s m args below meth c A Q H ls C0 hret hP hD hS hl
  obtain ⟨hx, hb, hml, hown, hW, hK, hlocks, hF, hr, hA⟩ := id C0
  replace hl : lv_has ls 4 [(0, .ref (ad b)), (1, .int p1)] := hl
  unfold q_X1_passQuietTicks at hf
  refine lv_iload_n hx hb dX1_passQuietTicks_0 rfl (lv_at hl 1 rfl) ?_
  refine lv_iconst (v := 1) hx hb dX1_passQuietTicks_1 (by decide) ?_
  refine lv_icmp_lt (tgt := 12) hx hb dX1_passQuietTicks_2 (by decide) (fun c2 => ?_) (fun c2 => ?_)
  · replace hf := zi_p hf c2
    refine lv_bipush (v := (-2)) hx hb dX1_passQuietTicks_12 (by decide) ?_
    obtain rfl := zo hf
    exact hret _ _ _ _ _ hP hD hS rfl dX1_passQuietTicks_14
  · replace hf := zi_n hf c2
    refine lv_iload_n hx hb dX1_passQuietTicks_5 rfl (lv_at hl 1 rfl) ?_
    refine lv_sipush (v := 500) hx hb dX1_passQuietTicks_6 (by decide) ?_
    refine lv_icmp_le (tgt := 15) hx hb dX1_passQuietTicks_9 (by decide) (fun c9 => ?_) (fun c9 => ?_)
    · replace hf := zi_p hf c9
      refine lv_aload_n hx hb dX1_passQuietTicks_15 rfl (lv_at hl 0 rfl) ?_
      refine va_get (D := D) (ci := 2) (v := .int u.2.2.2.2.2.2.2.1) (C := RX1) (T := TX1) (N := 17) hx hb hW inlX1 hown hK hP 0 rfl rfl 7 (by decide) (hW _ wd_47) (fun _ h9 => h9) rfl dX1_passQuietTicks_16 ?_
      refine lv_iload_n hx hb dX1_passQuietTicks_19 rfl (lv_at hl 1 rfl) ?_
      refine lv_iadd hx hb dX1_passQuietTicks_20 ?_
      refine lv_ldc hx hb hown (hW _ wd_229) dX1_passQuietTicks_21 ?_
      refine lv_icmp_le (tgt := 29) hx hb dX1_passQuietTicks_23 (by decide) (fun c23 => ?_) (fun c23 => ?_)
      · replace hf := zi_p hf c23
        refine lv_aload_n hx hb dX1_passQuietTicks_29 rfl (lv_at hl 0 rfl) ?_
        refine va_get (D := D) (ci := 2) (v := .int u.2.2.2.2.2.2.2.2.2.2.2.2.2.1) (C := RX1) (T := TX1) (N := 17) hx hb hW inlX1 hown hK hP 0 rfl rfl 13 (by decide) (hW _ wd_53) (fun _ h9 => h9) rfl dX1_passQuietTicks_30 ?_
        refine lv_istore_n (lv' := [(2, .int u.2.2.2.2.2.2.2.2.2.2.2.2.2.1), (0, .ref (ad b)), (1, .int p1)]) hx hb dX1_passQuietTicks_33 rfl hl (by decide) rfl (fun ls hl => ?_)
        refine lv_iconst (v := 0) hx hb dX1_passQuietTicks_34 (by decide) ?_
        refine lv_istore_n (lv' := [(3, .int 0), (2, .int u.2.2.2.2.2.2.2.2.2.2.2.2.2.1), (0, .ref (ad b)), (1, .int p1)]) hx hb dX1_passQuietTicks_35 rfl hl (by decide) rfl (fun ls hl => ?_)
        replace hf := zb_s hf
        obtain ⟨b36, hz36, hk36⟩ := hf
        have L36 : ∀ (n36 : Nat) (v36 : Int32 × tX1) (hz36 : zl n36 (q_X1_passQuietTicks_L36 p1) v36 = some b36) (H : Heap) (locs : List Loc) (hP : va_P D vwCl (wX1 G ad b v36.2) H) (hD : va_D A (wX1 G ad b v36.2)) (hS : va_S A s.heap H locs) (ls : Array Slot) (hl : lv_has ls 4 [(0, .ref (ad b)), (1, .int p1), (2, .int u.2.2.2.2.2.2.2.2.2.2.2.2.2.1), (3, .int v36.1)]), W p l e (zRm 5 123) s m args below meth c H locs 0 0 Q (F0 m 36 ls []) := by
          intro n36
          induction n36 with
          | zero => intro v36 hz36; exact (zl_0 hz36).elim
          | succ n36 ih36 =>
            intro v36 hz36 H locs hP hD hS ls hl
            obtain ⟨o36, hf, hz36⟩ := zl_s hz36
            unfold q_X1_passQuietTicks_L36 at hf
            refine lv_iload_n hx hb dX1_passQuietTicks_36 rfl (lv_at hl 3 rfl) ?_
            refine lv_iload_n hx hb dX1_passQuietTicks_37 rfl (lv_at hl 1 rfl) ?_
            refine lv_icmp_ge (tgt := 52) hx hb dX1_passQuietTicks_38 (by decide) (fun c38 => ?_) (fun c38 => ?_)
            · replace hf := zi_p hf c38
              have hb36 := zk_r hf hz36
              subst hb36
              replace hf := hk36
              refine lv_aload_n hx hb dX1_passQuietTicks_52 rfl (lv_at hl 0 rfl) ?_
              refine va_get (D := D) (ci := 2) (v := .int v36.2.2.2.2.2.2.2.2.2.2.2.2.2.2.1) (C := RX1) (T := TX1) (N := 17) hx hb hW inlX1 hown hK hP 0 rfl rfl 13 (by decide) (hW _ wd_53) (fun _ h9 => h9) rfl dX1_passQuietTicks_53 ?_
              refine lv_iload_n hx hb dX1_passQuietTicks_56 rfl (lv_at hl 2 rfl) ?_
              refine lv_isub hx hb dX1_passQuietTicks_57 ?_
              obtain rfl := zo hf
              exact hret _ _ _ _ _ hP hD hS rfl dX1_passQuietTicks_58
            · replace hf := zi_n hf c38
              refine lv_aload_n hx hb dX1_passQuietTicks_41 rfl (lv_at hl 0 rfl) ?_
              replace hf := zb_s hf
              obtain ⟨r42, hr42, hf⟩ := hf
              refine z_Vi (rest := []) C0 kX1_140 (c_X1_passQuietTick l D G ad (b) v36.2 r42 hr42) z_pall z_pall.symm (ci := 2) (T := TX1) (N := 17) rfl rfl rfl ⟨Nat.le_of_ble_eq_true rfl, Nat.le_of_ble_eq_true rfl⟩ (Nat.le_of_ble_eq_true rfl) rfl hl.1 hP hD hS dX1_passQuietTicks_42 (fun H locs hP hD hS => ?_)
              replace hP : va_P D vwCl (wX1 G ad b r42.2) H := hP
              replace hD : va_D A (wX1 G ad b r42.2) := hD
              refine lv_pop hx hb dX1_passQuietTicks_45 rfl ?_
              refine lv_iinc (v := (v36.1 + 1)) (lv' := [(3, .int (v36.1 + 1)), (0, .ref (ad b)), (1, .int p1), (2, .int u.2.2.2.2.2.2.2.2.2.2.2.2.2.1)]) hx hb dX1_passQuietTicks_46 hl (k := 3) rfl rfl (by decide) rfl (fun ls hl => ?_)
              refine lv_goto (tgt := 36) hx hb dX1_passQuietTicks_49 (by decide) ?_
              exact ih36 _ (zk_l hf hz36) _ _ hP hD hS _ (lv_sub hl [1, 2, 3, 0] rfl)
        exact L36 _ _ hz36 _ _ hP hD hS _ (lv_sub hl [2, 3, 1, 0] rfl)
      · replace hf := zi_n hf c23
        refine lv_bipush (v := (-4)) hx hb dX1_passQuietTicks_26 (by decide) ?_
        obtain rfl := zo hf
        exact hret _ _ _ _ _ hP hD hS rfl dX1_passQuietTicks_28
    · replace hf := zi_n hf c9
      refine lv_bipush (v := (-2)) hx hb dX1_passQuietTicks_12 (by decide) ?_
      obtain rfl := zo hf
      exact hret _ _ _ _ _ hP hD hS rfl dX1_passQuietTicks_14
noncomputable def q_X1_dropCheck (u : tX1) : Option (Int32 × Int32 × Int32 × Int32) :=
  (if u.2.2.2.2.2.2.2.2.2.1 = (-6) then some ((-3), u.2.2.2.2.2.2.2.2.2.1, u.2.2.2.2.2.2.2.2.2.2.1, u.2.2.2.2.2.2.2.2.2.2.2.1) else zb (q_X1_clearCheck u) fun r18 => some (u.2.2.2.2.2.2.2.2.2.2.1, r18.1, r18.2.1, r18.2.2))
set_option maxRecDepth 100000 in
set_option maxHeartbeats 4000000 in
theorem c_X1_dropCheck (l : Launch) (D : va_G) (G : zG) (ad : Nat → Nat) (b : Nat) (u : tX1) (res : Int32 × Int32 × Int32 × Int32) (hf : q_X1_dropCheck u = some res) : zMi l yX1_dropCheck cX1_dropCheck 2 (some .int) 1 20 D G (wX1 G ad b u) (wX1 G ad b (u.1, u.2.1, u.2.2.1, u.2.2.2.1, u.2.2.2.2.1, u.2.2.2.2.2.1, u.2.2.2.2.2.2.1, u.2.2.2.2.2.2.2.1, u.2.2.2.2.2.2.2.2.1, res.2.1, res.2.2.1, res.2.2.2, u.2.2.2.2.2.2.2.2.2.2.2.2.1, u.2.2.2.2.2.2.2.2.2.2.2.2.2.1, u.2.2.2.2.2.2.2.2.2.2.2.2.2.2.1, u.2.2.2.2.2.2.2.2.2.2.2.2.2.2.2.1, u.2.2.2.2.2.2.2.2.2.2.2.2.2.2.2.2)) [.ref (ad b)] res.1 := by
  refine zs_i (plainFor_of_name (by decide)) (Nat.le_of_ble_eq_true rfl) ?_
  intro p e s m args below meth c A Q H ls C0 hret hP hD hS hl
  obtain ⟨hx, hb, hml, hown, hW, hK, hlocks, hF, hr, hA⟩ := id C0
  replace hl : lv_has ls 2 [(0, .ref (ad b))] := hl
  unfold q_X1_dropCheck at hf
  refine lv_aload_n hx hb dX1_dropCheck_0 rfl (lv_at hl 0 rfl) ?_
  refine va_get (D := D) (ci := 2) (v := .int u.2.2.2.2.2.2.2.2.2.1) (C := RX1) (T := TX1) (N := 17) hx hb hW inlX1 hown hK hP 0 rfl rfl 9 (by decide) (hW _ wd_49) (fun _ h9 => h9) rfl dX1_dropCheck_1 ?_
  refine lv_bipush (v := (-6)) hx hb dX1_dropCheck_4 (by decide) ?_
  refine lv_icmp_ne (tgt := 12) hx hb dX1_dropCheck_6 (by decide) (fun c6 => ?_) (fun c6 => ?_)
  · replace hf := zi_n hf c6
    refine lv_aload_n hx hb dX1_dropCheck_12 rfl (lv_at hl 0 rfl) ?_
    refine va_get (D := D) (ci := 2) (v := .int u.2.2.2.2.2.2.2.2.2.2.1) (C := RX1) (T := TX1) (N := 17) hx hb hW inlX1 hown hK hP 0 rfl rfl 10 (by decide) (hW _ wd_50) (fun _ h9 => h9) rfl dX1_dropCheck_13 ?_
    refine lv_istore_n (lv' := [(1, .int u.2.2.2.2.2.2.2.2.2.2.1), (0, .ref (ad b))]) hx hb dX1_dropCheck_16 rfl hl (by decide) rfl (fun ls hl => ?_)
    refine lv_aload_n hx hb dX1_dropCheck_17 rfl (lv_at hl 1 rfl) ?_
    replace hf := zb_s hf
    obtain ⟨r18, hr18, hf⟩ := hf
    refine z_Vv (rest := []) C0 kX1_154 (c_X1_clearCheck l D G ad (b) u r18 hr18) z_pall z_pall.symm (ci := 2) (T := TX1) (N := 17) rfl rfl rfl ⟨Nat.le_of_ble_eq_true rfl, Nat.le_of_ble_eq_true rfl⟩ (Nat.le_of_ble_eq_true rfl) rfl hl.1 hP hD hS dX1_dropCheck_18 (fun H locs hP hD hS => ?_)
    replace hP : va_P D vwCl (wX1 G ad b (u.1, u.2.1, u.2.2.1, u.2.2.2.1, u.2.2.2.2.1, u.2.2.2.2.2.1, u.2.2.2.2.2.2.1, u.2.2.2.2.2.2.2.1, u.2.2.2.2.2.2.2.2.1, r18.1, r18.2.1, r18.2.2, u.2.2.2.2.2.2.2.2.2.2.2.2.1, u.2.2.2.2.2.2.2.2.2.2.2.2.2.1, u.2.2.2.2.2.2.2.2.2.2.2.2.2.2.1, u.2.2.2.2.2.2.2.2.2.2.2.2.2.2.2.1, u.2.2.2.2.2.2.2.2.2.2.2.2.2.2.2.2)) H := hP
    replace hD : va_D A (wX1 G ad b (u.1, u.2.1, u.2.2.1, u.2.2.2.1, u.2.2.2.2.1, u.2.2.2.2.2.1, u.2.2.2.2.2.2.1, u.2.2.2.2.2.2.2.1, u.2.2.2.2.2.2.2.2.1, r18.1, r18.2.1, r18.2.2, u.2.2.2.2.2.2.2.2.2.2.2.2.1, u.2.2.2.2.2.2.2.2.2.2.2.2.2.1, u.2.2.2.2.2.2.2.2.2.2.2.2.2.2.1, u.2.2.2.2.2.2.2.2.2.2.2.2.2.2.2.1, u.2.2.2.2.2.2.2.2.2.2.2.2.2.2.2.2)) := hD
    refine lv_iload_n hx hb dX1_dropCheck_21 rfl (lv_at hl 0 rfl) ?_
    obtain rfl := zo hf
    exact hret _ _ _ _ _ hP hD hS rfl dX1_dropCheck_22
  · replace hf := zi_p hf c6
    refine lv_bipush (v := (-3)) hx hb dX1_dropCheck_9 (by decide) ?_
    obtain rfl := zo hf
    exact hret _ _ _ _ _ hP hD hS rfl dX1_dropCheck_11
theorem kX1_189 : zLkV RX1 189 yX1_isOverdue cX1_isOverdue 2 (some .boolean) 1 := ⟨⟨wd_378, wd_379, wd_380, wd_12, wd_381⟩, by decide +kernel⟩
noncomputable def q_X1_overdueSpans_L4 (u : tX1) (v4 : Int32 × Int32) : Option ((Int32 × Int32) ⊕ (Int32)) :=
  (if 8 ≤ v4.2 then some (Sum.inr (v4.1)) else zb (q_X1_isOverdue u v4.2) fun r12 => (if r12 = 0 then some (Sum.inl (v4.1, (v4.2 + 1))) else some (Sum.inl ((v4.1 + 1), (v4.2 + 1)))))
noncomputable def q_X1_overdueSpans (u : tX1) : Option (Int32) :=
  zb (zl 1000000 (q_X1_overdueSpans_L4 u) (0, 0)) (fun b4 => some (b4))
set_option maxRecDepth 100000 in
set_option maxHeartbeats 4000000 in
theorem c_X1_overdueSpans (l : Launch) (D : va_G) (G : zG) (ad : Nat → Nat) (b : Nat) (u : tX1) (res : Int32) (hf : q_X1_overdueSpans u = some res) : zMi l yX1_overdueSpans cX1_overdueSpans 3 (some .int) 3 62 D G (wX1 G ad b u) (wX1 G ad b u) [.ref (ad b)] res := by
  refine zs_i (plainFor_of_name (by decide)) (Nat.le_of_ble_eq_true rfl) ?_
  intro p e s m args below meth c A Q H ls C0 hret hP hD hS hl
  obtain ⟨hx, hb, hml, hown, hW, hK, hlocks, hF, hr, hA⟩ := id C0
  replace hl : lv_has ls 3 [(0, .ref (ad b))] := hl
  unfold q_X1_overdueSpans at hf
  refine lv_iconst (v := 0) hx hb dX1_overdueSpans_0 (by decide) ?_
  refine lv_istore_n (lv' := [(1, .int 0), (0, .ref (ad b))]) hx hb dX1_overdueSpans_1 rfl hl (by decide) rfl (fun ls hl => ?_)
  refine lv_iconst (v := 0) hx hb dX1_overdueSpans_2 (by decide) ?_
  refine lv_istore_n (lv' := [(2, .int 0), (1, .int 0), (0, .ref (ad b))]) hx hb dX1_overdueSpans_3 rfl hl (by decide) rfl (fun ls hl => ?_)
  replace hf := zb_s hf
  obtain ⟨b4, hz4, hk4⟩ := hf
  have L4 : ∀ (n4 : Nat) (v4 : Int32 × Int32) (hz4 : zl n4 (q_X1_overdueSpans_L4 u) v4 = some b4) (H : Heap) (locs : List Loc) (hP : va_P D vwCl (wX1 G ad b u) H) (hD : va_D A (wX1 G ad b u)) (hS : va_S A s.heap H locs) (ls : Array Slot) (hl : lv_has ls 3 [(0, .ref (ad b)), (1, .int v4.1), (2, .int v4.2)]), W p l e (zRm 3 62) s m args below meth c H locs 0 0 Q (F0 m 4 ls []) := by
    intro n4
    induction n4 with
    | zero => intro v4 hz4; exact (zl_0 hz4).elim
    | succ n4 ih4 =>
      intro v4 hz4 H locs hP hD hS ls hl
      obtain ⟨o4, hf, hz4⟩ := zl_s hz4
      unfold q_X1_overdueSpans_L4 at hf
      refine lv_iload_n hx hb dX1_overdueSpans_4 rfl (lv_at hl 2 rfl) ?_
      refine lv_bipush (v := 8) hx hb dX1_overdueSpans_5 (by decide) ?_
      refine lv_icmp_ge (tgt := 27) hx hb dX1_overdueSpans_7 (by decide) (fun c7 => ?_) (fun c7 => ?_)
      · replace hf := zi_p hf c7
        have hb4 := zk_r hf hz4
        subst hb4
        replace hf := hk4
        refine lv_iload_n hx hb dX1_overdueSpans_27 rfl (lv_at hl 1 rfl) ?_
        obtain rfl := zo hf
        exact hret _ _ _ _ _ hP hD hS rfl dX1_overdueSpans_28
      · replace hf := zi_n hf c7
        refine lv_aload_n hx hb dX1_overdueSpans_10 rfl (lv_at hl 0 rfl) ?_
        refine lv_iload_n hx hb dX1_overdueSpans_11 rfl (lv_at hl 2 rfl) ?_
        replace hf := zb_s hf
        obtain ⟨r12, hr12, hf⟩ := hf
        refine z_Vi (rest := []) C0 kX1_189 (c_X1_isOverdue l D G ad (b) u v4.2 r12 hr12) z_pall z_pall.symm (ci := 2) (T := TX1) (N := 17) rfl rfl rfl ⟨Nat.le_of_ble_eq_true rfl, Nat.le_of_ble_eq_true rfl⟩ (Nat.le_of_ble_eq_true rfl) rfl hl.1 hP hD hS dX1_overdueSpans_12 (fun H locs hP hD hS => ?_)
        refine lv_if_eq (tgt := 21) hx hb dX1_overdueSpans_15 (by decide) (fun c15 => ?_) (fun c15 => ?_)
        · replace hf := zi_p hf c15
          refine lv_iinc (v := (v4.2 + 1)) (lv' := [(2, .int (v4.2 + 1)), (0, .ref (ad b)), (1, .int v4.1)]) hx hb dX1_overdueSpans_21 hl (k := 2) rfl rfl (by decide) rfl (fun ls hl => ?_)
          refine lv_goto (tgt := 4) hx hb dX1_overdueSpans_24 (by decide) ?_
          exact ih4 _ (zk_l hf hz4) _ _ hP hD hS _ (lv_sub hl [1, 2, 0] rfl)
        · replace hf := zi_n hf c15
          refine lv_iinc (v := (v4.1 + 1)) (lv' := [(1, .int (v4.1 + 1)), (0, .ref (ad b)), (2, .int v4.2)]) hx hb dX1_overdueSpans_18 hl (k := 1) rfl rfl (by decide) rfl (fun ls hl => ?_)
          refine lv_iinc (v := (v4.2 + 1)) (lv' := [(2, .int (v4.2 + 1)), (1, .int (v4.1 + 1)), (0, .ref (ad b))]) hx hb dX1_overdueSpans_21 hl (k := 2) rfl rfl (by decide) rfl (fun ls hl => ?_)
          refine lv_goto (tgt := 4) hx hb dX1_overdueSpans_24 (by decide) ?_
          exact ih4 _ (zk_l hf hz4) _ _ hP hD hS _ (lv_sub hl [2, 1, 0] rfl)
  exact L4 _ _ hz4 _ _ hP hD hS _ (lv_sub hl [2, 1, 0] rfl)
noncomputable def q_X1_numberOfDisk (u : tX1) (p1 : Int32) : Option (Int32) :=
  (if p1 = 0 then some (u.2.2.2.2.2.2.2.1) else if p1 = 1 then some (u.2.2.2.2.2.2.2.2.1) else if p1 = 2 then some (u.2.2.1.2.2) else if p1 = 3 then some (u.2.2.2.2.2.2.1) else if p1 = 4 then some (u.2.2.2.2.2.1) else if p1 = 5 then some (u.2.2.2.2.2.2.2.2.2.1) else if p1 = 6 then some (u.2.2.2.2.2.2.2.2.2.2.1) else if p1 = 7 then some (u.2.2.2.2.2.2.2.2.2.2.2.1) else if p1 = 8 then some (u.2.2.2.1.2) else if p1 = 9 then some (u.2.2.2.2.2.2.2.2.2.2.2.2.2.1) else if p1 = 10 then some (u.2.2.2.2.2.2.2.2.2.2.2.2.2.2.1) else if p1 = 11 then some (u.2.2.2.2.2.2.2.2.2.2.2.2.2.2.2.1) else some (u.2.2.2.2.2.2.2.2.2.2.2.2.2.2.2.2))
set_option maxRecDepth 100000 in
set_option maxHeartbeats 4000000 in
theorem c_X1_numberOfDisk (l : Launch) (D : va_G) (G : zG) (ad : Nat → Nat) (b : Nat) (u : tX1) (p1 : Int32) (res : Int32) (hf : q_X1_numberOfDisk u p1 = some res) : zMi l yX1_numberOfDisk cX1_numberOfDisk 2 (some .int) 0 0 D G (wX1 G ad b u) (wX1 G ad b u) [.ref (ad b), .int p1] res := by
  refine zs_i (plainFor_of_name (by decide)) (Nat.le_of_ble_eq_true rfl) ?_
  intro p e s m args below meth c A Q H ls C0 hret hP hD hS hl
  obtain ⟨hx, hb, hml, hown, hW, hK, hlocks, hF, hr, hA⟩ := id C0
  replace hl : lv_has ls 2 [(0, .ref (ad b)), (1, .int p1)] := hl
  unfold q_X1_numberOfDisk at hf
  refine lv_iload_n hx hb dX1_numberOfDisk_0 rfl (lv_at hl 1 rfl) ?_
  refine z_by (c := p1 = 0) (fun c1_0 => ?_) (fun n1_0 => ?_)
  · replace hf := zi_p hf c1_0
    refine lv_tableIn (off := 63) (tgt := 64) hx hb dX1_numberOfDisk_1 (by rw [c1_0]; decide) (by rw [c1_0]; decide) (by rw [c1_0]; decide) (by decide) ?_
    refine lv_aload_n hx hb dX1_numberOfDisk_64 rfl (lv_at hl 0 rfl) ?_
    refine va_get (D := D) (ci := 2) (v := .int u.2.2.2.2.2.2.2.1) (C := RX1) (T := TX1) (N := 17) hx hb hW inlX1 hown hK hP 0 rfl rfl 7 (by decide) (hW _ wd_47) (fun _ h9 => h9) rfl dX1_numberOfDisk_65 ?_
    obtain rfl := zo hf
    exact hret _ _ _ _ _ hP hD hS rfl dX1_numberOfDisk_68
  · replace hf := zi_n hf n1_0
    refine z_by (c := p1 = 1) (fun c1_1 => ?_) (fun n1_1 => ?_)
    · replace hf := zi_p hf c1_1
      refine lv_tableIn (off := 68) (tgt := 69) hx hb dX1_numberOfDisk_1 (by rw [c1_1]; decide) (by rw [c1_1]; decide) (by rw [c1_1]; decide) (by decide) ?_
      refine lv_aload_n hx hb dX1_numberOfDisk_69 rfl (lv_at hl 0 rfl) ?_
      refine va_get (D := D) (ci := 2) (v := .int u.2.2.2.2.2.2.2.2.1) (C := RX1) (T := TX1) (N := 17) hx hb hW inlX1 hown hK hP 0 rfl rfl 8 (by decide) (hW _ wd_48) (fun _ h9 => h9) rfl dX1_numberOfDisk_70 ?_
      obtain rfl := zo hf
      exact hret _ _ _ _ _ hP hD hS rfl dX1_numberOfDisk_73
    · replace hf := zi_n hf n1_1
      refine z_by (c := p1 = 2) (fun c1_2 => ?_) (fun n1_2 => ?_)
      · replace hf := zi_p hf c1_2
        refine lv_tableIn (off := 73) (tgt := 74) hx hb dX1_numberOfDisk_1 (by rw [c1_2]; decide) (by rw [c1_2]; decide) (by rw [c1_2]; decide) (by decide) ?_
        refine lv_aload_n hx hb dX1_numberOfDisk_74 rfl (lv_at hl 0 rfl) ?_
        refine va_get (D := D) (ci := 2) (v := .ref (ad (b + 3))) (C := RX1) (T := TX1) (N := 17) hx hb hW inlX1 hown hK hP 0 rfl rfl 2 (by decide) (hW _ wd_36) (fun _ h9 => h9) rfl dX1_numberOfDisk_75 ?_
        refine va_getN (host := "QuietChecks") (D := D) (ci := 6) (v := .int u.2.2.1.2.2) (C := RX5) (T := TX5) (N := 3) hx hb hW inlX5 hown hK hP 3 rfl rfl 2 (by decide) (va_Nw.use rfl (hF.1 _ (by decide +kernel : Cond.fieldLinkNest "QuietChecks$Disk" 181 "QuietChecks$Spots" "size" "I" "QuietChecks" ∈ zNest))) (fun _ h9 => h9) rfl dX1_numberOfDisk_78 ?_
        obtain rfl := zo hf
        exact hret _ _ _ _ _ hP hD hS rfl dX1_numberOfDisk_81
      · replace hf := zi_n hf n1_2
        refine z_by (c := p1 = 3) (fun c1_3 => ?_) (fun n1_3 => ?_)
        · replace hf := zi_p hf c1_3
          refine lv_tableIn (off := 81) (tgt := 82) hx hb dX1_numberOfDisk_1 (by rw [c1_3]; decide) (by rw [c1_3]; decide) (by rw [c1_3]; decide) (by decide) ?_
          refine lv_aload_n hx hb dX1_numberOfDisk_82 rfl (lv_at hl 0 rfl) ?_
          refine va_get (D := D) (ci := 2) (v := .int u.2.2.2.2.2.2.1) (C := RX1) (T := TX1) (N := 17) hx hb hW inlX1 hown hK hP 0 rfl rfl 6 (by decide) (hW _ wd_46) (fun _ h9 => h9) rfl dX1_numberOfDisk_83 ?_
          obtain rfl := zo hf
          exact hret _ _ _ _ _ hP hD hS rfl dX1_numberOfDisk_86
        · replace hf := zi_n hf n1_3
          refine z_by (c := p1 = 4) (fun c1_4 => ?_) (fun n1_4 => ?_)
          · replace hf := zi_p hf c1_4
            refine lv_tableIn (off := 86) (tgt := 87) hx hb dX1_numberOfDisk_1 (by rw [c1_4]; decide) (by rw [c1_4]; decide) (by rw [c1_4]; decide) (by decide) ?_
            refine lv_aload_n hx hb dX1_numberOfDisk_87 rfl (lv_at hl 0 rfl) ?_
            refine va_get (D := D) (ci := 2) (v := .int u.2.2.2.2.2.1) (C := RX1) (T := TX1) (N := 17) hx hb hW inlX1 hown hK hP 0 rfl rfl 5 (by decide) (hW _ wd_45) (fun _ h9 => h9) rfl dX1_numberOfDisk_88 ?_
            obtain rfl := zo hf
            exact hret _ _ _ _ _ hP hD hS rfl dX1_numberOfDisk_91
          · replace hf := zi_n hf n1_4
            refine z_by (c := p1 = 5) (fun c1_5 => ?_) (fun n1_5 => ?_)
            · replace hf := zi_p hf c1_5
              refine lv_tableIn (off := 91) (tgt := 92) hx hb dX1_numberOfDisk_1 (by rw [c1_5]; decide) (by rw [c1_5]; decide) (by rw [c1_5]; decide) (by decide) ?_
              refine lv_aload_n hx hb dX1_numberOfDisk_92 rfl (lv_at hl 0 rfl) ?_
              refine va_get (D := D) (ci := 2) (v := .int u.2.2.2.2.2.2.2.2.2.1) (C := RX1) (T := TX1) (N := 17) hx hb hW inlX1 hown hK hP 0 rfl rfl 9 (by decide) (hW _ wd_49) (fun _ h9 => h9) rfl dX1_numberOfDisk_93 ?_
              obtain rfl := zo hf
              exact hret _ _ _ _ _ hP hD hS rfl dX1_numberOfDisk_96
            · replace hf := zi_n hf n1_5
              refine z_by (c := p1 = 6) (fun c1_6 => ?_) (fun n1_6 => ?_)
              · replace hf := zi_p hf c1_6
                refine lv_tableIn (off := 96) (tgt := 97) hx hb dX1_numberOfDisk_1 (by rw [c1_6]; decide) (by rw [c1_6]; decide) (by rw [c1_6]; decide) (by decide) ?_
                refine lv_aload_n hx hb dX1_numberOfDisk_97 rfl (lv_at hl 0 rfl) ?_
                refine va_get (D := D) (ci := 2) (v := .int u.2.2.2.2.2.2.2.2.2.2.1) (C := RX1) (T := TX1) (N := 17) hx hb hW inlX1 hown hK hP 0 rfl rfl 10 (by decide) (hW _ wd_50) (fun _ h9 => h9) rfl dX1_numberOfDisk_98 ?_
                obtain rfl := zo hf
                exact hret _ _ _ _ _ hP hD hS rfl dX1_numberOfDisk_101
              · replace hf := zi_n hf n1_6
                refine z_by (c := p1 = 7) (fun c1_7 => ?_) (fun n1_7 => ?_)
                · replace hf := zi_p hf c1_7
                  refine lv_tableIn (off := 101) (tgt := 102) hx hb dX1_numberOfDisk_1 (by rw [c1_7]; decide) (by rw [c1_7]; decide) (by rw [c1_7]; decide) (by decide) ?_
                  refine lv_aload_n hx hb dX1_numberOfDisk_102 rfl (lv_at hl 0 rfl) ?_
                  refine va_get (D := D) (ci := 2) (v := .int u.2.2.2.2.2.2.2.2.2.2.2.1) (C := RX1) (T := TX1) (N := 17) hx hb hW inlX1 hown hK hP 0 rfl rfl 11 (by decide) (hW _ wd_51) (fun _ h9 => h9) rfl dX1_numberOfDisk_103 ?_
                  obtain rfl := zo hf
                  exact hret _ _ _ _ _ hP hD hS rfl dX1_numberOfDisk_106
                · replace hf := zi_n hf n1_7
                  refine z_by (c := p1 = 8) (fun c1_8 => ?_) (fun n1_8 => ?_)
                  · replace hf := zi_p hf c1_8
                    refine lv_tableIn (off := 106) (tgt := 107) hx hb dX1_numberOfDisk_1 (by rw [c1_8]; decide) (by rw [c1_8]; decide) (by rw [c1_8]; decide) (by decide) ?_
                    refine lv_aload_n hx hb dX1_numberOfDisk_107 rfl (lv_at hl 0 rfl) ?_
                    refine va_get (D := D) (ci := 2) (v := .ref (ad (b + 6))) (C := RX1) (T := TX1) (N := 17) hx hb hW inlX1 hown hK hP 0 rfl rfl 3 (by decide) (hW _ wd_40) (fun _ h9 => h9) rfl dX1_numberOfDisk_108 ?_
                    refine va_getN (host := "QuietChecks") (D := D) (ci := 1) (v := .int u.2.2.2.1.2) (C := RX0) (T := TX0) (N := 2) hx hb hW inlX0 hown hK hP 6 rfl rfl 1 (by decide) (va_Nw.use rfl (hF.1 _ (by decide +kernel : Cond.fieldLinkNest "QuietChecks$Disk" 121 "QuietChecks$Asked" "size" "I" "QuietChecks" ∈ zNest))) (fun _ h9 => h9) rfl dX1_numberOfDisk_111 ?_
                    obtain rfl := zo hf
                    exact hret _ _ _ _ _ hP hD hS rfl dX1_numberOfDisk_114
                  · replace hf := zi_n hf n1_8
                    refine z_by (c := p1 = 9) (fun c1_9 => ?_) (fun n1_9 => ?_)
                    · replace hf := zi_p hf c1_9
                      refine lv_tableIn (off := 114) (tgt := 115) hx hb dX1_numberOfDisk_1 (by rw [c1_9]; decide) (by rw [c1_9]; decide) (by rw [c1_9]; decide) (by decide) ?_
                      refine lv_aload_n hx hb dX1_numberOfDisk_115 rfl (lv_at hl 0 rfl) ?_
                      refine va_get (D := D) (ci := 2) (v := .int u.2.2.2.2.2.2.2.2.2.2.2.2.2.1) (C := RX1) (T := TX1) (N := 17) hx hb hW inlX1 hown hK hP 0 rfl rfl 13 (by decide) (hW _ wd_53) (fun _ h9 => h9) rfl dX1_numberOfDisk_116 ?_
                      obtain rfl := zo hf
                      exact hret _ _ _ _ _ hP hD hS rfl dX1_numberOfDisk_119
                    · replace hf := zi_n hf n1_9
                      refine z_by (c := p1 = 10) (fun c1_10 => ?_) (fun n1_10 => ?_)
                      · replace hf := zi_p hf c1_10
                        refine lv_tableIn (off := 119) (tgt := 120) hx hb dX1_numberOfDisk_1 (by rw [c1_10]; decide) (by rw [c1_10]; decide) (by rw [c1_10]; decide) (by decide) ?_
                        refine lv_aload_n hx hb dX1_numberOfDisk_120 rfl (lv_at hl 0 rfl) ?_
                        refine va_get (D := D) (ci := 2) (v := .int u.2.2.2.2.2.2.2.2.2.2.2.2.2.2.1) (C := RX1) (T := TX1) (N := 17) hx hb hW inlX1 hown hK hP 0 rfl rfl 14 (by decide) (hW _ wd_54) (fun _ h9 => h9) rfl dX1_numberOfDisk_121 ?_
                        obtain rfl := zo hf
                        exact hret _ _ _ _ _ hP hD hS rfl dX1_numberOfDisk_124
                      · replace hf := zi_n hf n1_10
                        refine z_by (c := p1 = 11) (fun c1_11 => ?_) (fun n1_11 => ?_)
                        · replace hf := zi_p hf c1_11
                          refine lv_tableIn (off := 124) (tgt := 125) hx hb dX1_numberOfDisk_1 (by rw [c1_11]; decide) (by rw [c1_11]; decide) (by rw [c1_11]; decide) (by decide) ?_
                          refine lv_aload_n hx hb dX1_numberOfDisk_125 rfl (lv_at hl 0 rfl) ?_
                          refine va_get (D := D) (ci := 2) (v := .int u.2.2.2.2.2.2.2.2.2.2.2.2.2.2.2.1) (C := RX1) (T := TX1) (N := 17) hx hb hW inlX1 hown hK hP 0 rfl rfl 15 (by decide) (hW _ wd_55) (fun _ h9 => h9) rfl dX1_numberOfDisk_126 ?_
                          obtain rfl := zo hf
                          exact hret _ _ _ _ _ hP hD hS rfl dX1_numberOfDisk_129
                        · replace hf := zi_n hf n1_11
                          refine lv_tableOut (tgt := 130) hx hb dX1_numberOfDisk_1 (by have h0 := lv_neT (a := 0) n1_0 (by decide); have h1 := lv_neT (a := 1) n1_1 (by decide); have h2 := lv_neT (a := 2) n1_2 (by decide); have h3 := lv_neT (a := 3) n1_3 (by decide); have h4 := lv_neT (a := 4) n1_4 (by decide); have h5 := lv_neT (a := 5) n1_5 (by decide); have h6 := lv_neT (a := 6) n1_6 (by decide); have h7 := lv_neT (a := 7) n1_7 (by decide); have h8 := lv_neT (a := 8) n1_8 (by decide); have h9 := lv_neT (a := 9) n1_9 (by decide); have h10 := lv_neT (a := 10) n1_10 (by decide); have h11 := lv_neT (a := 11) n1_11 (by decide); omega) (by decide) ?_
                          refine lv_aload_n hx hb dX1_numberOfDisk_130 rfl (lv_at hl 0 rfl) ?_
                          refine va_get (D := D) (ci := 2) (v := .int u.2.2.2.2.2.2.2.2.2.2.2.2.2.2.2.2) (C := RX1) (T := TX1) (N := 17) hx hb hW inlX1 hown hK hP 0 rfl rfl 16 (by decide) (hW _ wd_56) (fun _ h9 => h9) rfl dX1_numberOfDisk_131 ?_
                          obtain rfl := zo hf
                          exact hret _ _ _ _ _ hP hD hS rfl dX1_numberOfDisk_134
noncomputable def q_X1_numberOfSpan (u : tX1) (p1 : Int32) (p2 : Int32) : Option (Int32) :=
  zb (q_X6_isSpan p1) fun r1 => (if r1 = 0 then some ((-1)) else (if p2 = 0 then zg 8 u.2.1 p1 fun a53 => some (a53) else if p2 = 1 then zb (q_X1_ageOf u p1) fun r57 => some (r57) else if p2 = 2 then zb (q_X5_sizeOf u.2.2.1 p1) fun r66 => some (r66) else if p2 = 3 then zb (q_X5_sumOf u.2.2.1 p1 9) fun r77 => some (r77) else if p2 = 4 then zb (q_X1_isOverdue u p1) fun r83 => (if r83 = 0 then zb (q_X1_isDue u p1) fun r95 => (if r95 = 0 then some (0) else some (1)) else some (2)) else if p2 = 5 then zb (q_X1_ticksOfCheck u p1) fun r109 => some (r109) else zb (q_X0_placeOf u.2.2.2.1 p1) fun r118 => some (r118)))
set_option maxRecDepth 100000 in
set_option maxHeartbeats 4000000 in
theorem c_X1_numberOfSpan (l : Launch) (D : va_G) (G : zG) (ad : Nat → Nat) (b : Nat) (u : tX1) (p1 : Int32) (p2 : Int32) (res : Int32) (hf : q_X1_numberOfSpan u p1 p2 = some res) : zMi l yX1_numberOfSpan cX1_numberOfSpan 3 (some .int) 3 77 D G (wX1 G ad b u) (wX1 G ad b u) [.ref (ad b), .int p1, .int p2] res := by
  refine zs_i (plainFor_of_name (by decide)) (Nat.le_of_ble_eq_true rfl) ?_
  intro p e s m args below meth c A Q H ls C0 hret hP hD hS hl
  obtain ⟨hx, hb, hml, hown, hW, hK, hlocks, hF, hr, hA⟩ := id C0
  replace hl : lv_has ls 3 [(0, .ref (ad b)), (1, .int p1), (2, .int p2)] := hl
  unfold q_X1_numberOfSpan at hf
  refine lv_iload_n hx hb dX1_numberOfSpan_0 rfl (lv_at hl 1 rfl) ?_
  replace hf := zb_s hf
  obtain ⟨r1, hr1, hf⟩ := hf
  refine z_Ni (rest := []) C0 kX1_105 (c_X6_isSpan l D G p1 r1 hr1) (List.Perm.refl _) (List.Perm.refl _) rfl ⟨Nat.le_of_ble_eq_true rfl, Nat.le_of_ble_eq_true rfl⟩ (Nat.le_of_ble_eq_true rfl) rfl hl.1 hP hD hS dX1_numberOfSpan_1 (fun H locs hP hD hS => ?_)
  refine lv_if_ne (tgt := 9) hx hb dX1_numberOfSpan_4 (by decide) (fun c4 => ?_) (fun c4 => ?_)
  · replace hf := zi_n hf c4
    refine lv_iload_n hx hb dX1_numberOfSpan_9 rfl (lv_at hl 2 rfl) ?_
    refine z_by (c := p2 = 0) (fun c10_0 => ?_) (fun n10_0 => ?_)
    · replace hf := zi_p hf c10_0
      refine lv_tableIn (off := 38) (tgt := 48) hx hb dX1_numberOfSpan_10 (by rw [c10_0]; decide) (by rw [c10_0]; decide) (by rw [c10_0]; decide) (by decide) ?_
      refine lv_aload_n hx hb dX1_numberOfSpan_48 rfl (lv_at hl 0 rfl) ?_
      refine va_get (D := D) (ci := 2) (v := .ref (ad (b + 2))) (C := RX1) (T := TX1) (N := 17) hx hb hW inlX1 hown hK hP 0 rfl rfl 1 (by decide) (hW _ wd_32) (fun _ h9 => h9) rfl dX1_numberOfSpan_49 ?_
      refine lv_iload_n hx hb dX1_numberOfSpan_52 rfl (lv_at hl 1 rfl) ?_
      replace hf := zg_s hf
      obtain ⟨hi53, a53, ea53, hf⟩ := hf
      refine z_iald hx hb hK hP 2 0 rfl rfl hi53 ea53 dX1_numberOfSpan_53 ?_
      obtain rfl := zo hf
      exact hret _ _ _ _ _ hP hD hS rfl dX1_numberOfSpan_54
    · replace hf := zi_n hf n10_0
      refine z_by (c := p2 = 1) (fun c10_1 => ?_) (fun n10_1 => ?_)
      · replace hf := zi_p hf c10_1
        refine lv_tableIn (off := 45) (tgt := 55) hx hb dX1_numberOfSpan_10 (by rw [c10_1]; decide) (by rw [c10_1]; decide) (by rw [c10_1]; decide) (by decide) ?_
        refine lv_aload_n hx hb dX1_numberOfSpan_55 rfl (lv_at hl 0 rfl) ?_
        refine lv_iload_n hx hb dX1_numberOfSpan_56 rfl (lv_at hl 1 rfl) ?_
        replace hf := zb_s hf
        obtain ⟨r57, hr57, hf⟩ := hf
        refine z_Vi (rest := []) C0 kX1_166 (c_X1_ageOf l D G ad (b) u p1 r57 hr57) z_pall z_pall.symm (ci := 2) (T := TX1) (N := 17) rfl rfl rfl ⟨Nat.le_of_ble_eq_true rfl, Nat.le_of_ble_eq_true rfl⟩ (Nat.le_of_ble_eq_true rfl) rfl hl.1 hP hD hS dX1_numberOfSpan_57 (fun H locs hP hD hS => ?_)
        obtain rfl := zo hf
        exact hret _ _ _ _ _ hP hD hS rfl dX1_numberOfSpan_60
      · replace hf := zi_n hf n10_1
        refine z_by (c := p2 = 2) (fun c10_2 => ?_) (fun n10_2 => ?_)
        · replace hf := zi_p hf c10_2
          refine lv_tableIn (off := 51) (tgt := 61) hx hb dX1_numberOfSpan_10 (by rw [c10_2]; decide) (by rw [c10_2]; decide) (by rw [c10_2]; decide) (by decide) ?_
          refine lv_aload_n hx hb dX1_numberOfSpan_61 rfl (lv_at hl 0 rfl) ?_
          refine va_get (D := D) (ci := 2) (v := .ref (ad (b + 3))) (C := RX1) (T := TX1) (N := 17) hx hb hW inlX1 hown hK hP 0 rfl rfl 2 (by decide) (hW _ wd_36) (fun _ h9 => h9) rfl dX1_numberOfSpan_62 ?_
          refine lv_iload_n hx hb dX1_numberOfSpan_65 rfl (lv_at hl 1 rfl) ?_
          replace hf := zb_s hf
          obtain ⟨r66, hr66, hf⟩ := hf
          refine z_Vi (rest := []) C0 kX1_112 (c_X5_sizeOf l D G ad (b + 3) u.2.2.1 p1 r66 hr66) (pmX1_spots G ad (b) u) ((pmX1_spots G ad (b) u)).symm (ci := 6) (T := TX5) (N := 3) rfl rfl rfl ⟨Nat.le_of_ble_eq_true rfl, Nat.le_of_ble_eq_true rfl⟩ (Nat.le_of_ble_eq_true rfl) rfl hl.1 hP hD hS dX1_numberOfSpan_66 (fun H locs hP hD hS => ?_)
          obtain rfl := zo hf
          exact hret _ _ _ _ _ hP hD hS rfl dX1_numberOfSpan_69
        · replace hf := zi_n hf n10_2
          refine z_by (c := p2 = 3) (fun c10_3 => ?_) (fun n10_3 => ?_)
          · replace hf := zi_p hf c10_3
            refine lv_tableIn (off := 60) (tgt := 70) hx hb dX1_numberOfSpan_10 (by rw [c10_3]; decide) (by rw [c10_3]; decide) (by rw [c10_3]; decide) (by decide) ?_
            refine lv_aload_n hx hb dX1_numberOfSpan_70 rfl (lv_at hl 0 rfl) ?_
            refine va_get (D := D) (ci := 2) (v := .ref (ad (b + 3))) (C := RX1) (T := TX1) (N := 17) hx hb hW inlX1 hown hK hP 0 rfl rfl 2 (by decide) (hW _ wd_36) (fun _ h9 => h9) rfl dX1_numberOfSpan_71 ?_
            refine lv_iload_n hx hb dX1_numberOfSpan_74 rfl (lv_at hl 1 rfl) ?_
            refine lv_bipush (v := 9) hx hb dX1_numberOfSpan_75 (by decide) ?_
            replace hf := zb_s hf
            obtain ⟨r77, hr77, hf⟩ := hf
            refine z_Vi (rest := []) C0 kX1_169 (c_X5_sumOf l D G ad (b + 3) u.2.2.1 p1 9 r77 hr77) (pmX1_spots G ad (b) u) ((pmX1_spots G ad (b) u)).symm (ci := 6) (T := TX5) (N := 3) rfl rfl rfl ⟨Nat.le_of_ble_eq_true rfl, Nat.le_of_ble_eq_true rfl⟩ (Nat.le_of_ble_eq_true rfl) rfl hl.1 hP hD hS dX1_numberOfSpan_77 (fun H locs hP hD hS => ?_)
            obtain rfl := zo hf
            exact hret _ _ _ _ _ hP hD hS rfl dX1_numberOfSpan_80
          · replace hf := zi_n hf n10_3
            refine z_by (c := p2 = 4) (fun c10_4 => ?_) (fun n10_4 => ?_)
            · replace hf := zi_p hf c10_4
              refine lv_tableIn (off := 71) (tgt := 81) hx hb dX1_numberOfSpan_10 (by rw [c10_4]; decide) (by rw [c10_4]; decide) (by rw [c10_4]; decide) (by decide) ?_
              refine lv_aload_n hx hb dX1_numberOfSpan_81 rfl (lv_at hl 0 rfl) ?_
              refine lv_iload_n hx hb dX1_numberOfSpan_82 rfl (lv_at hl 1 rfl) ?_
              replace hf := zb_s hf
              obtain ⟨r83, hr83, hf⟩ := hf
              refine z_Vi (rest := []) C0 kX1_189 (c_X1_isOverdue l D G ad (b) u p1 r83 hr83) z_pall z_pall.symm (ci := 2) (T := TX1) (N := 17) rfl rfl rfl ⟨Nat.le_of_ble_eq_true rfl, Nat.le_of_ble_eq_true rfl⟩ (Nat.le_of_ble_eq_true rfl) rfl hl.1 hP hD hS dX1_numberOfSpan_83 (fun H locs hP hD hS => ?_)
              refine lv_if_eq (tgt := 93) hx hb dX1_numberOfSpan_86 (by decide) (fun c86 => ?_) (fun c86 => ?_)
              · replace hf := zi_p hf c86
                refine lv_aload_n hx hb dX1_numberOfSpan_93 rfl (lv_at hl 0 rfl) ?_
                refine lv_iload_n hx hb dX1_numberOfSpan_94 rfl (lv_at hl 1 rfl) ?_
                replace hf := zb_s hf
                obtain ⟨r95, hr95, hf⟩ := hf
                refine z_Vi (rest := []) C0 kX1_160 (c_X1_isDue l D G ad (b) u p1 r95 hr95) z_pall z_pall.symm (ci := 2) (T := TX1) (N := 17) rfl rfl rfl ⟨Nat.le_of_ble_eq_true rfl, Nat.le_of_ble_eq_true rfl⟩ (Nat.le_of_ble_eq_true rfl) rfl hl.1 hP hD hS dX1_numberOfSpan_95 (fun H locs hP hD hS => ?_)
                refine lv_if_eq (tgt := 105) hx hb dX1_numberOfSpan_98 (by decide) (fun c98 => ?_) (fun c98 => ?_)
                · replace hf := zi_p hf c98
                  refine lv_iconst (v := 0) hx hb dX1_numberOfSpan_105 (by decide) ?_
                  obtain rfl := zo hf
                  exact hret _ _ _ _ _ hP hD hS rfl dX1_numberOfSpan_106
                · replace hf := zi_n hf c98
                  refine lv_iconst (v := 1) hx hb dX1_numberOfSpan_101 (by decide) ?_
                  refine lv_goto (tgt := 106) hx hb dX1_numberOfSpan_102 (by decide) ?_
                  obtain rfl := zo hf
                  exact hret _ _ _ _ _ hP hD hS rfl dX1_numberOfSpan_106
              · replace hf := zi_n hf c86
                refine lv_iconst (v := 2) hx hb dX1_numberOfSpan_89 (by decide) ?_
                refine lv_goto (tgt := 106) hx hb dX1_numberOfSpan_90 (by decide) ?_
                obtain rfl := zo hf
                exact hret _ _ _ _ _ hP hD hS rfl dX1_numberOfSpan_106
            · replace hf := zi_n hf n10_4
              refine z_by (c := p2 = 5) (fun c10_5 => ?_) (fun n10_5 => ?_)
              · replace hf := zi_p hf c10_5
                refine lv_tableIn (off := 97) (tgt := 107) hx hb dX1_numberOfSpan_10 (by rw [c10_5]; decide) (by rw [c10_5]; decide) (by rw [c10_5]; decide) (by decide) ?_
                refine lv_aload_n hx hb dX1_numberOfSpan_107 rfl (lv_at hl 0 rfl) ?_
                refine lv_iload_n hx hb dX1_numberOfSpan_108 rfl (lv_at hl 1 rfl) ?_
                replace hf := zb_s hf
                obtain ⟨r109, hr109, hf⟩ := hf
                refine z_Vi (rest := []) C0 kX1_173 (c_X1_ticksOfCheck l D G ad (b) u p1 r109 hr109) z_pall z_pall.symm (ci := 2) (T := TX1) (N := 17) rfl rfl rfl ⟨Nat.le_of_ble_eq_true rfl, Nat.le_of_ble_eq_true rfl⟩ (Nat.le_of_ble_eq_true rfl) rfl hl.1 hP hD hS dX1_numberOfSpan_109 (fun H locs hP hD hS => ?_)
                obtain rfl := zo hf
                exact hret _ _ _ _ _ hP hD hS rfl dX1_numberOfSpan_112
              · replace hf := zi_n hf n10_5
                refine lv_tableOut (tgt := 113) hx hb dX1_numberOfSpan_10 (by have h0 := lv_neT (a := 0) n10_0 (by decide); have h1 := lv_neT (a := 1) n10_1 (by decide); have h2 := lv_neT (a := 2) n10_2 (by decide); have h3 := lv_neT (a := 3) n10_3 (by decide); have h4 := lv_neT (a := 4) n10_4 (by decide); have h5 := lv_neT (a := 5) n10_5 (by decide); omega) (by decide) ?_
                refine lv_aload_n hx hb dX1_numberOfSpan_113 rfl (lv_at hl 0 rfl) ?_
                refine va_get (D := D) (ci := 2) (v := .ref (ad (b + 6))) (C := RX1) (T := TX1) (N := 17) hx hb hW inlX1 hown hK hP 0 rfl rfl 3 (by decide) (hW _ wd_40) (fun _ h9 => h9) rfl dX1_numberOfSpan_114 ?_
                refine lv_iload_n hx hb dX1_numberOfSpan_117 rfl (lv_at hl 1 rfl) ?_
                replace hf := zb_s hf
                obtain ⟨r118, hr118, hf⟩ := hf
                refine z_Vi (rest := []) C0 kX1_116 (c_X0_placeOf l D G ad (b + 6) u.2.2.2.1 p1 r118 hr118) (pmX1_asked G ad (b) u) ((pmX1_asked G ad (b) u)).symm (ci := 1) (T := TX0) (N := 2) rfl rfl rfl ⟨Nat.le_of_ble_eq_true rfl, Nat.le_of_ble_eq_true rfl⟩ (Nat.le_of_ble_eq_true rfl) rfl hl.1 hP hD hS dX1_numberOfSpan_118 (fun H locs hP hD hS => ?_)
                obtain rfl := zo hf
                exact hret _ _ _ _ _ hP hD hS rfl dX1_numberOfSpan_121
  · replace hf := zi_p hf c4
    refine lv_iconst (v := (-1)) hx hb dX1_numberOfSpan_7 (by decide) ?_
    obtain rfl := zo hf
    exact hret _ _ _ _ _ hP hD hS rfl dX1_numberOfSpan_8
