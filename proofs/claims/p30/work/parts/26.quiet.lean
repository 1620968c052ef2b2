noncomputable def q_X6_wordOf (p0 : Int32) : Option (Nat) :=
  (if p0 = 1 then some (0) else if p0 = 2 then some (1) else if p0 = 3 then some (2) else if p0 = 4 then some (3) else if p0 = 5 then some (4) else some (5))
set_option maxRecDepth 100000 in
set_option maxHeartbeats 4000000 in
theorem c_X6_wordOf (l : Launch) (D : va_G) (G : zG)  (p0 : Int32) (res : Nat) (hf : q_X6_wordOf p0 = some res) : zMq l yX6_wordOf cX6_wordOf 1 (some (.object "java/lang/String")) 0 0 D G (([] : va_W)) (([] : va_W)) [.int p0] (G.2.2.2.1 res) := by
  refine zs_q (Or.inl ⟨_, rfl⟩) (plainFor_of_name (by decide)) (Nat.le_of_ble_eq_true rfl) ?_
  intro p e s m args below meth c A Q H ls C0 hret hP hD hS hl
  obtain ⟨hx, hb, hml, hown, hW, hK, hlocks, hF, hr, hA⟩ := id C0
  replace hl : lv_has ls 1 [(0, .int p0)] := hl
  unfold q_X6_wordOf at hf
  refine lv_iload_n hx hb dX6_wordOf_0 rfl (lv_at hl 0 rfl) ?_
  refine z_by (c := p0 = 1) (fun c1_0 => ?_) (fun n1_0 => ?_)
  · replace hf := zi_p hf c1_0
    refine lv_tableIn (off := 35) (tgt := 36) hx hb dX6_wordOf_1 (by rw [c1_0]; decide) (by rw [c1_0]; decide) (by rw [c1_0]; decide) (by decide) ?_
    refine va_ldcS (tx := "begins") hx hb hown (zF_ref0 hF) dX6_wordOf_36 ?_
    obtain rfl := zo hf
    exact hret _ _ _ _ _ hP hD hS rfl dX6_wordOf_38
  · replace hf := zi_n hf n1_0
    refine z_by (c := p0 = 2) (fun c1_1 => ?_) (fun n1_1 => ?_)
    · replace hf := zi_p hf c1_1
      refine lv_tableIn (off := 38) (tgt := 39) hx hb dX6_wordOf_1 (by rw [c1_1]; decide) (by rw [c1_1]; decide) (by rw [c1_1]; decide) (by decide) ?_
      refine va_ldcS (tx := "pauses") hx hb hown (zF_ref1 hF) dX6_wordOf_39 ?_
      obtain rfl := zo hf
      exact hret _ _ _ _ _ hP hD hS rfl dX6_wordOf_41
    · replace hf := zi_n hf n1_1
      refine z_by (c := p0 = 3) (fun c1_2 => ?_) (fun n1_2 => ?_)
      · replace hf := zi_p hf c1_2
        refine lv_tableIn (off := 41) (tgt := 42) hx hb dX6_wordOf_1 (by rw [c1_2]; decide) (by rw [c1_2]; decide) (by rw [c1_2]; decide) (by decide) ?_
        refine va_ldcS (tx := "ends") hx hb hown (zF_ref2 hF) dX6_wordOf_42 ?_
        obtain rfl := zo hf
        exact hret _ _ _ _ _ hP hD hS rfl dX6_wordOf_44
      · replace hf := zi_n hf n1_2
        refine z_by (c := p0 = 4) (fun c1_3 => ?_) (fun n1_3 => ?_)
        · replace hf := zi_p hf c1_3
          refine lv_tableIn (off := 44) (tgt := 45) hx hb dX6_wordOf_1 (by rw [c1_3]; decide) (by rw [c1_3]; decide) (by rw [c1_3]; decide) (by decide) ?_
          refine va_ldcS (tx := "replaced") hx hb hown (zF_ref3 hF) dX6_wordOf_45 ?_
          obtain rfl := zo hf
          exact hret _ _ _ _ _ hP hD hS rfl dX6_wordOf_47
        · replace hf := zi_n hf n1_3
          refine z_by (c := p0 = 5) (fun c1_4 => ?_) (fun n1_4 => ?_)
          · replace hf := zi_p hf c1_4
            refine lv_tableIn (off := 47) (tgt := 48) hx hb dX6_wordOf_1 (by rw [c1_4]; decide) (by rw [c1_4]; decide) (by rw [c1_4]; decide) (by decide) ?_
            refine va_ldcS (tx := "stays") hx hb hown (zF_ref4 hF) dX6_wordOf_48 ?_
            obtain rfl := zo hf
            exact hret _ _ _ _ _ hP hD hS rfl dX6_wordOf_50
          · replace hf := zi_n hf n1_4
            refine lv_tableOut (tgt := 51) hx hb dX6_wordOf_1 (by have h0 := lv_neT (a := 1) n1_0 (by decide); have h1 := lv_neT (a := 2) n1_1 (by decide); have h2 := lv_neT (a := 3) n1_2 (by decide); have h3 := lv_neT (a := 4) n1_3 (by decide); have h4 := lv_neT (a := 5) n1_4 (by decide); omega) (by decide) ?_
            refine va_ldcS (tx := "slow") hx hb hown (zF_ref5 hF) dX6_wordOf_51 ?_
            obtain rfl := zo hf
            exact hret _ _ _ _ _ hP hD hS rfl dX6_wordOf_53
theorem kX6_208 : zLkV RX6 208 yJ4_setLength_d00df cJ4_setLength_d00df 2 none 1 := ⟨⟨wd_434, wd_435, wd_436, wd_25, wd_437⟩, by decide +kernel⟩
theorem kX6_116 : zLkV RX6 116 yX3_tickAt cX3_tickAt 2 (some .int) 1 := ⟨⟨wd_410, wd_411, wd_412, wd_43, wd_413⟩, by decide +kernel⟩
theorem kX6_211 : zLkV RX6 211 yJ4_append_bf812 cJ4_append_bf812 2 (some (.object "java/lang/StringBuilder")) 1 := ⟨⟨wd_496, wd_497, wd_498, wd_25, wd_499⟩, by decide +kernel⟩
theorem kX6_214 : zLkV RX6 214 yJ4_append_cf468 cJ4_append_cf468 2 (some (.object "java/lang/StringBuilder")) 1 := ⟨⟨wd_542, wd_543, wd_544, wd_25, wd_545⟩, by decide +kernel⟩
theorem kX6_119 : zLkV RX6 119 yX3_kindAt cX3_kindAt 2 (some .int) 1 := ⟨⟨wd_422, wd_423, wd_424, wd_43, wd_425⟩, by decide +kernel⟩
theorem kX6_217 : zLkS RX6 217 yX6_wordOf cX6_wordOf 1 (some (.object "java/lang/String")) 1 := ⟨⟨wd_585, wd_586, wd_2, wd_587⟩, by decide +kernel⟩
theorem kX6_221 : zLkV RX6 221 yJ4_append_15ec4 cJ4_append_15ec4 2 (some (.object "java/lang/StringBuilder")) 1 := ⟨⟨wd_588, wd_589, wd_590, wd_25, wd_591⟩, by decide +kernel⟩
theorem kX6_122 : zLkV RX6 122 yX3_spanAt cX3_spanAt 2 (some .int) 1 := ⟨⟨wd_426, wd_427, wd_428, wd_43, wd_429⟩, by decide +kernel⟩
noncomputable def q_X6_writeLine (u : tX6) (p1 : Int32) : Option (tJ4) :=
  zb (q_J4_setLength_d00df u.2.2.2.2 0) fun r5 => zb (q_X3_tickAt u.1.2.2.2.2.1 p1) fun r20 => zb (q_J4_append_bf812 (u.2.2.2.2.1, u.2.2.2.2.2.1, r5.1, r5.2) r20) fun r23 => zb (q_J4_append_cf468 (r23.1, u.2.2.2.2.2.1, r5.1, r23.2) 32) fun r33 => zb (q_X3_kindAt u.1.2.2.2.2.1 p1) fun r49 => zb (q_X6_wordOf r49) fun r52 => zb (q_J4_append_15ec4 (r33.1, u.2.2.2.2.2.1, r5.1, r33.2) r52) fun r55 => zb (q_J4_append_cf468 (r55.1, u.2.2.2.2.2.1, r5.1, r55.2) 32) fun r65 => zb (q_X3_spanAt u.1.2.2.2.2.1 p1) fun r81 => zb (q_J4_append_bf812 (r65.1, u.2.2.2.2.2.1, r5.1, r65.2) r81) fun r84 => some ((r84.1, u.2.2.2.2.2.1, r5.1, r84.2))
set_option maxRecDepth 100000 in
set_option maxHeartbeats 4000000 in
theorem c_X6_writeLine (l : Launch) (D : va_G) (G : zG) (ad : Nat → Nat) (b : Nat) (u : tX6) (p1 : Int32) (res : tJ4) (hf : q_X6_writeLine u p1 = some res) : zMv l yX6_writeLine cX6_writeLine 2 none 5 114 D G (wX6 G ad b u) (wX6 G ad b (u.1, u.2.1, u.2.2.1, u.2.2.2.1, res)) [.ref (ad b), .int p1] := by
  refine zs_v (plainFor_of_name (by decide)) (Nat.le_of_ble_eq_true rfl) ?_
  intro p e s m args below meth c A Q H ls C0 hret hP hD hS hl
  obtain ⟨hx, hb, hml, hown, hW, hK, hlocks, hF, hr, hA⟩ := id C0
  replace hl : lv_has ls 2 [(0, .ref (ad b)), (1, .int p1)] := hl
  unfold q_X6_writeLine at hf
  refine lv_aload_n hx hb dX6_writeLine_0 rfl (lv_at hl 0 rfl) ?_
  refine va_get (D := D) (ci := 7) (v := .ref (ad (b + 116))) (C := RX6) (T := TX6) (N := 5) hx hb hW inlX6 hown hK hP 0 rfl rfl 4 (by decide) (hW _ wd_26) (fun _ h9 => h9) rfl dX6_writeLine_1 ?_
  refine lv_iconst (v := 0) hx hb dX6_writeLine_4 (by decide) ?_
  replace hf := zb_s hf
  obtain ⟨r5, hr5, hf⟩ := hf
  refine z_Vv (rest := []) C0 kX6_208 (c_J4_setLength_d00df l D G ad (b + 116) u.2.2.2.2 0 r5 hr5) (pmX6_line G ad (b) u) (pnX6_line G ad (b) u (u.2.2.2.2.1, u.2.2.2.2.2.1, r5.1, r5.2)) (ci := 0) (T := TJ4) (N := 4) rfl rfl rfl ⟨Nat.le_of_ble_eq_true rfl, Nat.le_of_ble_eq_true rfl⟩ (Nat.le_of_ble_eq_true rfl) rfl hl.1 hP hD hS dX6_writeLine_5 (fun H locs hP hD hS => ?_)
  replace hP : va_P D vwCl (wX6 G ad b (u.1, u.2.1, u.2.2.1, u.2.2.2.1, (u.2.2.2.2.1, u.2.2.2.2.2.1, r5.1, r5.2))) H := hP
  replace hD : va_D A (wX6 G ad b (u.1, u.2.1, u.2.2.1, u.2.2.2.1, (u.2.2.2.2.1, u.2.2.2.2.2.1, r5.1, r5.2))) := hD
  refine lv_aload_n hx hb dX6_writeLine_8 rfl (lv_at hl 0 rfl) ?_
  refine va_get (D := D) (ci := 7) (v := .ref (ad (b + 116))) (C := RX6) (T := TX6) (N := 5) hx hb hW inlX6 hown hK hP 0 rfl rfl 4 (by decide) (hW _ wd_26) (fun _ h9 => h9) rfl dX6_writeLine_9 ?_
  refine lv_aload_n hx hb dX6_writeLine_12 rfl (lv_at hl 0 rfl) ?_
  refine va_get (D := D) (ci := 7) (v := .ref (ad (b + 1))) (C := RX6) (T := TX6) (N := 5) hx hb hW inlX6 hown hK hP 0 rfl rfl 0 (by decide) (hW _ wd_13) (fun _ h9 => h9) rfl dX6_writeLine_13 ?_
  refine va_getN (host := "QuietChecks") (D := D) (ci := 2) (v := .ref (ad (b + 9))) (C := RX1) (T := TX1) (N := 17) hx hb hW inlX1 hown hK hP 1 rfl rfl 4 (by decide) (va_Nw.use rfl (hF.1 _ (by decide +kernel : Cond.fieldLinkNest "QuietChecks" 103 "QuietChecks$Disk" "log" "LQuietChecks$Log;" "QuietChecks" ∈ zNest))) (fun _ h9 => h9) rfl dX6_writeLine_16 ?_
  refine lv_iload_n hx hb dX6_writeLine_19 rfl (lv_at hl 1 rfl) ?_
  replace hf := zb_s hf
  obtain ⟨r20, hr20, hf⟩ := hf
  refine z_Vi (rest := [.ref (ad (b + 116))]) C0 kX6_116 (c_X3_tickAt l D G ad (b + 9) u.1.2.2.2.2.1 p1 r20 hr20) (z_pcomp (pmX6_disk G ad (b) (u.1, u.2.1, u.2.2.1, u.2.2.2.1, (u.2.2.2.2.1, u.2.2.2.2.2.1, r5.1, r5.2))) (pmX1_log G ad (b + 1) u.1)) ((z_pcomp (pmX6_disk G ad (b) (u.1, u.2.1, u.2.2.1, u.2.2.2.1, (u.2.2.2.2.1, u.2.2.2.2.2.1, r5.1, r5.2))) (pmX1_log G ad (b + 1) u.1))).symm (ci := 4) (T := TX3) (N := 5) rfl rfl rfl ⟨Nat.le_of_ble_eq_true rfl, Nat.le_of_ble_eq_true rfl⟩ (Nat.le_of_ble_eq_true rfl) rfl hl.1 hP hD hS dX6_writeLine_20 (fun H locs hP hD hS => ?_)
  replace hf := zb_s hf
  obtain ⟨r23, hr23, hf⟩ := hf
  refine z_Vq (rest := []) C0 kX6_211 (c_J4_append_bf812 l D G ad (b + 116) (u.2.2.2.2.1, u.2.2.2.2.2.1, r5.1, r5.2) r20 r23 hr23) (pmX6_line G ad (b) (u.1, u.2.1, u.2.2.1, u.2.2.2.1, (u.2.2.2.2.1, u.2.2.2.2.2.1, r5.1, r5.2))) (pnX6_line G ad (b) (u.1, u.2.1, u.2.2.1, u.2.2.2.1, (u.2.2.2.2.1, u.2.2.2.2.2.1, r5.1, r5.2)) (r23.1, u.2.2.2.2.2.1, r5.1, r23.2)) (ci := 0) (T := TJ4) (N := 4) rfl rfl rfl ⟨Nat.le_of_ble_eq_true rfl, Nat.le_of_ble_eq_true rfl⟩ (Nat.le_of_ble_eq_true rfl) rfl hl.1 hP hD hS dX6_writeLine_23 (fun H locs hP hD hS => ?_)
  replace hP : va_P D vwCl (wX6 G ad b (u.1, u.2.1, u.2.2.1, u.2.2.2.1, (r23.1, u.2.2.2.2.2.1, r5.1, r23.2))) H := hP
  replace hD : va_D A (wX6 G ad b (u.1, u.2.1, u.2.2.1, u.2.2.2.1, (r23.1, u.2.2.2.2.2.1, r5.1, r23.2))) := hD
  refine lv_pop hx hb dX6_writeLine_26 rfl ?_
  refine lv_aload_n hx hb dX6_writeLine_27 rfl (lv_at hl 0 rfl) ?_
  refine va_get (D := D) (ci := 7) (v := .ref (ad (b + 116))) (C := RX6) (T := TX6) (N := 5) hx hb hW inlX6 hown hK hP 0 rfl rfl 4 (by decide) (hW _ wd_26) (fun _ h9 => h9) rfl dX6_writeLine_28 ?_
  refine lv_bipush (v := 32) hx hb dX6_writeLine_31 (by decide) ?_
  replace hf := zb_s hf
  obtain ⟨r33, hr33, hf⟩ := hf
  refine z_Vq (rest := []) C0 kX6_214 (c_J4_append_cf468 l D G ad (b + 116) (r23.1, u.2.2.2.2.2.1, r5.1, r23.2) 32 r33 hr33) (pmX6_line G ad (b) (u.1, u.2.1, u.2.2.1, u.2.2.2.1, (r23.1, u.2.2.2.2.2.1, r5.1, r23.2))) (pnX6_line G ad (b) (u.1, u.2.1, u.2.2.1, u.2.2.2.1, (r23.1, u.2.2.2.2.2.1, r5.1, r23.2)) (r33.1, u.2.2.2.2.2.1, r5.1, r33.2)) (ci := 0) (T := TJ4) (N := 4) rfl rfl rfl ⟨Nat.le_of_ble_eq_true rfl, Nat.le_of_ble_eq_true rfl⟩ (Nat.le_of_ble_eq_true rfl) rfl hl.1 hP hD hS dX6_writeLine_33 (fun H locs hP hD hS => ?_)
  replace hP : va_P D vwCl (wX6 G ad b (u.1, u.2.1, u.2.2.1, u.2.2.2.1, (r33.1, u.2.2.2.2.2.1, r5.1, r33.2))) H := hP
  replace hD : va_D A (wX6 G ad b (u.1, u.2.1, u.2.2.1, u.2.2.2.1, (r33.1, u.2.2.2.2.2.1, r5.1, r33.2))) := hD
  refine lv_pop hx hb dX6_writeLine_36 rfl ?_
  refine lv_aload_n hx hb dX6_writeLine_37 rfl (lv_at hl 0 rfl) ?_
  refine va_get (D := D) (ci := 7) (v := .ref (ad (b + 116))) (C := RX6) (T := TX6) (N := 5) hx hb hW inlX6 hown hK hP 0 rfl rfl 4 (by decide) (hW _ wd_26) (fun _ h9 => h9) rfl dX6_writeLine_38 ?_
  refine lv_aload_n hx hb dX6_writeLine_41 rfl (lv_at hl 0 rfl) ?_
  refine va_get (D := D) (ci := 7) (v := .ref (ad (b + 1))) (C := RX6) (T := TX6) (N := 5) hx hb hW inlX6 hown hK hP 0 rfl rfl 0 (by decide) (hW _ wd_13) (fun _ h9 => h9) rfl dX6_writeLine_42 ?_
  refine va_getN (host := "QuietChecks") (D := D) (ci := 2) (v := .ref (ad (b + 9))) (C := RX1) (T := TX1) (N := 17) hx hb hW inlX1 hown hK hP 1 rfl rfl 4 (by decide) (va_Nw.use rfl (hF.1 _ (by decide +kernel : Cond.fieldLinkNest "QuietChecks" 103 "QuietChecks$Disk" "log" "LQuietChecks$Log;" "QuietChecks" ∈ zNest))) (fun _ h9 => h9) rfl dX6_writeLine_45 ?_
  refine lv_iload_n hx hb dX6_writeLine_48 rfl (lv_at hl 1 rfl) ?_
  replace hf := zb_s hf
  obtain ⟨r49, hr49, hf⟩ := hf
  refine z_Vi (rest := [.ref (ad (b + 116))]) C0 kX6_119 (c_X3_kindAt l D G ad (b + 9) u.1.2.2.2.2.1 p1 r49 hr49) (z_pcomp (pmX6_disk G ad (b) (u.1, u.2.1, u.2.2.1, u.2.2.2.1, (r33.1, u.2.2.2.2.2.1, r5.1, r33.2))) (pmX1_log G ad (b + 1) u.1)) ((z_pcomp (pmX6_disk G ad (b) (u.1, u.2.1, u.2.2.1, u.2.2.2.1, (r33.1, u.2.2.2.2.2.1, r5.1, r33.2))) (pmX1_log G ad (b + 1) u.1))).symm (ci := 4) (T := TX3) (N := 5) rfl rfl rfl ⟨Nat.le_of_ble_eq_true rfl, Nat.le_of_ble_eq_true rfl⟩ (Nat.le_of_ble_eq_true rfl) rfl hl.1 hP hD hS dX6_writeLine_49 (fun H locs hP hD hS => ?_)
  replace hf := zb_s hf
  obtain ⟨r52, hr52, hf⟩ := hf
  refine z_Sq (rest := [.ref (ad (b + 116))]) C0 kX6_217 (c_X6_wordOf l D G r49 r52 hr52) (List.Perm.refl _) (List.Perm.refl _) rfl ⟨Nat.le_of_ble_eq_true rfl, Nat.le_of_ble_eq_true rfl⟩ (Nat.le_of_ble_eq_true rfl) rfl hl.1 hP hD hS dX6_writeLine_52 (fun H locs hP hD hS => ?_)
  replace hf := zb_s hf
  obtain ⟨r55, hr55, hf⟩ := hf
  refine z_Vq (rest := []) C0 kX6_221 (c_J4_append_15ec4 l D G ad (b + 116) (r33.1, u.2.2.2.2.2.1, r5.1, r33.2) r52 r55 hr55) (pmX6_line G ad (b) (u.1, u.2.1, u.2.2.1, u.2.2.2.1, (r33.1, u.2.2.2.2.2.1, r5.1, r33.2))) (pnX6_line G ad (b) (u.1, u.2.1, u.2.2.1, u.2.2.2.1, (r33.1, u.2.2.2.2.2.1, r5.1, r33.2)) (r55.1, u.2.2.2.2.2.1, r5.1, r55.2)) (ci := 0) (T := TJ4) (N := 4) rfl rfl rfl ⟨Nat.le_of_ble_eq_true rfl, Nat.le_of_ble_eq_true rfl⟩ (Nat.le_of_ble_eq_true rfl) rfl hl.1 hP hD hS dX6_writeLine_55 (fun H locs hP hD hS => ?_)
  replace hP : va_P D vwCl (wX6 G ad b (u.1, u.2.1, u.2.2.1, u.2.2.2.1, (r55.1, u.2.2.2.2.2.1, r5.1, r55.2))) H := hP
  replace hD : va_D A (wX6 G ad b (u.1, u.2.1, u.2.2.1, u.2.2.2.1, (r55.1, u.2.2.2.2.2.1, r5.1, r55.2))) := hD
  refine lv_pop hx hb dX6_writeLine_58 rfl ?_
  refine lv_aload_n hx hb dX6_writeLine_59 rfl (lv_at hl 0 rfl) ?_
  refine va_get (D := D) (ci := 7) (v := .ref (ad (b + 116))) (C := RX6) (T := TX6) (N := 5) hx hb hW inlX6 hown hK hP 0 rfl rfl 4 (by decide) (hW _ wd_26) (fun _ h9 => h9) rfl dX6_writeLine_60 ?_
  refine lv_bipush (v := 32) hx hb dX6_writeLine_63 (by decide) ?_
  replace hf := zb_s hf
  obtain ⟨r65, hr65, hf⟩ := hf
  refine z_Vq (rest := []) C0 kX6_214 (c_J4_append_cf468 l D G ad (b + 116) (r55.1, u.2.2.2.2.2.1, r5.1, r55.2) 32 r65 hr65) (pmX6_line G ad (b) (u.1, u.2.1, u.2.2.1, u.2.2.2.1, (r55.1, u.2.2.2.2.2.1, r5.1, r55.2))) (pnX6_line G ad (b) (u.1, u.2.1, u.2.2.1, u.2.2.2.1, (r55.1, u.2.2.2.2.2.1, r5.1, r55.2)) (r65.1, u.2.2.2.2.2.1, r5.1, r65.2)) (ci := 0) (T := TJ4) (N := 4) rfl rfl rfl ⟨Nat.le_of_ble_eq_true rfl, Nat.le_of_ble_eq_true rfl⟩ (Nat.le_of_ble_eq_true rfl) rfl hl.1 hP hD hS dX6_writeLine_65 (fun H locs hP hD hS => ?_)
  replace hP : va_P D vwCl (wX6 G ad b (u.1, u.2.1, u.2.2.1, u.2.2.2.1, (r65.1, u.2.2.2.2.2.1, r5.1, r65.2))) H := hP
  replace hD : va_D A (wX6 G ad b (u.1, u.2.1, u.2.2.1, u.2.2.2.1, (r65.1, u.2.2.2.2.2.1, r5.1, r65.2))) := hD
  refine lv_pop hx hb dX6_writeLine_68 rfl ?_
  refine lv_aload_n hx hb dX6_writeLine_69 rfl (lv_at hl 0 rfl) ?_
  refine va_get (D := D) (ci := 7) (v := .ref (ad (b + 116))) (C := RX6) (T := TX6) (N := 5) hx hb hW inlX6 hown hK hP 0 rfl rfl 4 (by decide) (hW _ wd_26) (fun _ h9 => h9) rfl dX6_writeLine_70 ?_
  refine lv_aload_n hx hb dX6_writeLine_73 rfl (lv_at hl 0 rfl) ?_
  refine va_get (D := D) (ci := 7) (v := .ref (ad (b + 1))) (C := RX6) (T := TX6) (N := 5) hx hb hW inlX6 hown hK hP 0 rfl rfl 0 (by decide) (hW _ wd_13) (fun _ h9 => h9) rfl dX6_writeLine_74 ?_
  refine va_getN (host := "QuietChecks") (D := D) (ci := 2) (v := .ref (ad (b + 9))) (C := RX1) (T := TX1) (N := 17) hx hb hW inlX1 hown hK hP 1 rfl rfl 4 (by decide) (va_Nw.use rfl (hF.1 _ (by decide +kernel : Cond.fieldLinkNest "QuietChecks" 103 "QuietChecks$Disk" "log" "LQuietChecks$Log;" "QuietChecks" ∈ zNest))) (fun _ h9 => h9) rfl dX6_writeLine_77 ?_
  refine lv_iload_n hx hb dX6_writeLine_80 rfl (lv_at hl 1 rfl) ?_
  replace hf := zb_s hf
  obtain ⟨r81, hr81, hf⟩ := hf
  refine z_Vi (rest := [.ref (ad (b + 116))]) C0 kX6_122 (c_X3_spanAt l D G ad (b + 9) u.1.2.2.2.2.1 p1 r81 hr81) (z_pcomp (pmX6_disk G ad (b) (u.1, u.2.1, u.2.2.1, u.2.2.2.1, (r65.1, u.2.2.2.2.2.1, r5.1, r65.2))) (pmX1_log G ad (b + 1) u.1)) ((z_pcomp (pmX6_disk G ad (b) (u.1, u.2.1, u.2.2.1, u.2.2.2.1, (r65.1, u.2.2.2.2.2.1, r5.1, r65.2))) (pmX1_log G ad (b + 1) u.1))).symm (ci := 4) (T := TX3) (N := 5) rfl rfl rfl ⟨Nat.le_of_ble_eq_true rfl, Nat.le_of_ble_eq_true rfl⟩ (Nat.le_of_ble_eq_true rfl) rfl hl.1 hP hD hS dX6_writeLine_81 (fun H locs hP hD hS => ?_)
  replace hf := zb_s hf
  obtain ⟨r84, hr84, hf⟩ := hf
  refine z_Vq (rest := []) C0 kX6_211 (c_J4_append_bf812 l D G ad (b + 116) (r65.1, u.2.2.2.2.2.1, r5.1, r65.2) r81 r84 hr84) (pmX6_line G ad (b) (u.1, u.2.1, u.2.2.1, u.2.2.2.1, (r65.1, u.2.2.2.2.2.1, r5.1, r65.2))) (pnX6_line G ad (b) (u.1, u.2.1, u.2.2.1, u.2.2.2.1, (r65.1, u.2.2.2.2.2.1, r5.1, r65.2)) (r84.1, u.2.2.2.2.2.1, r5.1, r84.2)) (ci := 0) (T := TJ4) (N := 4) rfl rfl rfl ⟨Nat.le_of_ble_eq_true rfl, Nat.le_of_ble_eq_true rfl⟩ (Nat.le_of_ble_eq_true rfl) rfl hl.1 hP hD hS dX6_writeLine_84 (fun H locs hP hD hS => ?_)
  replace hP : va_P D vwCl (wX6 G ad b (u.1, u.2.1, u.2.2.1, u.2.2.2.1, (r84.1, u.2.2.2.2.2.1, r5.1, r84.2))) H := hP
  replace hD : va_D A (wX6 G ad b (u.1, u.2.1, u.2.2.1, u.2.2.2.1, (r84.1, u.2.2.2.2.2.1, r5.1, r84.2))) := hD
  refine lv_pop hx hb dX6_writeLine_87 rfl ?_
  obtain rfl := zo hf
  exact hret _ _ _ _ hP hD hS dX6_writeLine_88
theorem kX6_142 : zLkV RX6 142 yX1_copyFrom cX1_copyFrom 2 none 1 := ⟨⟨wd_678, wd_143, wd_144, wd_12, wd_145⟩, by decide +kernel⟩
theorem kX6_136 : zLkV RX6 136 yX1_overdueSpans cX1_overdueSpans 3 (some .int) 0 := ⟨⟨wd_390, wd_391, wd_392, wd_12, wd_393⟩, by decide +kernel⟩
theorem kX6_145 : zLkV RX6 145 yX1_passQuietTick cX1_passQuietTick 2 (some .int) 0 := ⟨⟨wd_679, wd_265, wd_266, wd_12, wd_267⟩, by decide +kernel⟩
noncomputable def q_X6_overdueAfter_J40  (w40_0 : tX1) : Option (Int32 × tX1) :=
  zb (q_X1_overdueSpans w40_0) fun r44 => some (r44, w40_0)
noncomputable def q_X6_overdueAfter_L21 (p1 : Int32) (v21 : Int32 × tX1) : Option ((Int32 × tX1) ⊕ (tX1)) :=
  (if p1 ≤ v21.1 then some (Sum.inr (v21.2)) else zb (q_X1_passQuietTick v21.2) fun r30 => some (Sum.inl ((v21.1 + 1), r30.2)))
noncomputable def q_X6_overdueAfter (u : tX6) (p1 : Int32) (p2 : Int32) : Option (Int32 × tX1) :=
  zb (q_X1_copyFrom u.2.1 u.1) fun r8 => zb (zl 1000000 (q_X6_overdueAfter_L21 p1) (0, (r8.1, r8.2.1, r8.2.2.1, r8.2.2.2.1, r8.2.2.2.2.1, p2, r8.2.2.2.2.2.2.1, r8.2.2.2.2.2.2.2.1, r8.2.2.2.2.2.2.2.2.1, r8.2.2.2.2.2.2.2.2.2.1, r8.2.2.2.2.2.2.2.2.2.2.1, r8.2.2.2.2.2.2.2.2.2.2.2.1, r8.2.2.2.2.2.2.2.2.2.2.2.2.1, r8.2.2.2.2.2.2.2.2.2.2.2.2.2.1, r8.2.2.2.2.2.2.2.2.2.2.2.2.2.2.1, r8.2.2.2.2.2.2.2.2.2.2.2.2.2.2.2.1, r8.2.2.2.2.2.2.2.2.2.2.2.2.2.2.2.2))) (fun b21 => q_X6_overdueAfter_J40 b21)
set_option maxRecDepth 100000 in
set_option maxHeartbeats 4000000 in
theorem c_X6_overdueAfter (l : Launch) (D : va_G) (G : zG) (ad : Nat → Nat) (b : Nat) (u : tX6) (p1 : Int32) (p2 : Int32) (res : Int32 × tX1) (hf : q_X6_overdueAfter u p1 p2 = some res) : zMi l yX6_overdueAfter cX6_overdueAfter 4 (some .int) 5 123 D G (wX6 G ad b u) (wX6 G ad b (u.1, res.2, u.2.2.1, u.2.2.2.1, u.2.2.2.2)) [.ref (ad b), .int p1, .int p2] res.1 := by
  refine zs_i (plainFor_of_name (by decide)) (Nat.le_of_ble_eq_true rfl) ?_
  intro p e s m args below meth c A Q H ls C0 hret hP hD hS hl
  obtain ⟨hx, hb, hml, hown, hW, hK, hlocks, hF, hr, hA⟩ := id C0
  replace hl : lv_has ls 4 [(0, .ref (ad b)), (1, .int p1), (2, .int p2)] := hl
  unfold q_X6_overdueAfter at hf
  refine lv_aload_n hx hb dX6_overdueAfter_0 rfl (lv_at hl 0 rfl) ?_
  refine va_get (D := D) (ci := 7) (v := .ref (ad (b + 13))) (C := RX6) (T := TX6) (N := 5) hx hb hW inlX6 hown hK hP 0 rfl rfl 1 (by decide) (hW _ wd_14) (fun _ h9 => h9) rfl dX6_overdueAfter_1 ?_
  refine lv_aload_n hx hb dX6_overdueAfter_4 rfl (lv_at hl 0 rfl) ?_
  refine va_get (D := D) (ci := 7) (v := .ref (ad (b + 1))) (C := RX6) (T := TX6) (N := 5) hx hb hW inlX6 hown hK hP 0 rfl rfl 0 (by decide) (hW _ wd_13) (fun _ h9 => h9) rfl dX6_overdueAfter_5 ?_
  replace hf := zb_s hf
  obtain ⟨r8, hr8, hf⟩ := hf
  refine z_Vv (rest := []) C0 kX6_142 (c_X1_copyFrom l D G ad (b + 13) ad (b + 1) u.2.1 u.1 r8 hr8) (pmX6_trial_disk G ad b u) (pnX6_trial_disk G ad b u r8 u.1) (ci := 2) (T := TX1) (N := 17) rfl rfl rfl ⟨Nat.le_of_ble_eq_true rfl, Nat.le_of_ble_eq_true rfl⟩ (Nat.le_of_ble_eq_true rfl) rfl hl.1 hP hD hS dX6_overdueAfter_8 (fun H locs hP hD hS => ?_)
  replace hP : va_P D vwCl (wX6 G ad b (u.1, r8, u.2.2.1, u.2.2.2.1, u.2.2.2.2)) H := hP
  replace hD : va_D A (wX6 G ad b (u.1, r8, u.2.2.1, u.2.2.2.1, u.2.2.2.2)) := hD
  refine lv_aload_n hx hb dX6_overdueAfter_11 rfl (lv_at hl 0 rfl) ?_
  refine va_get (D := D) (ci := 7) (v := .ref (ad (b + 13))) (C := RX6) (T := TX6) (N := 5) hx hb hW inlX6 hown hK hP 0 rfl rfl 1 (by decide) (hW _ wd_14) (fun _ h9 => h9) rfl dX6_overdueAfter_12 ?_
  refine lv_iload_n hx hb dX6_overdueAfter_15 rfl (lv_at hl 2 rfl) ?_
  refine z_putN (ws' := wX6 G ad b (u.1, (r8.1, r8.2.1, r8.2.2.1, r8.2.2.2.1, r8.2.2.2.2.1, p2, r8.2.2.2.2.2.2.1, r8.2.2.2.2.2.2.2.1, r8.2.2.2.2.2.2.2.2.1, r8.2.2.2.2.2.2.2.2.2.1, r8.2.2.2.2.2.2.2.2.2.2.1, r8.2.2.2.2.2.2.2.2.2.2.2.1, r8.2.2.2.2.2.2.2.2.2.2.2.2.1, r8.2.2.2.2.2.2.2.2.2.2.2.2.2.1, r8.2.2.2.2.2.2.2.2.2.2.2.2.2.2.1, r8.2.2.2.2.2.2.2.2.2.2.2.2.2.2.2.1, r8.2.2.2.2.2.2.2.2.2.2.2.2.2.2.2.2), u.2.2.1, u.2.2.2.1, u.2.2.2.2)) (ci := 2) (C := RX1) (T := TX1) (N := 17) hx hb hW inlX1 tyX1 tyX1_ok nmX1 hown hK hP hD hS 13 rfl rfl 5 (by decide) (va_Nw.use rfl (hF.1 _ (by decide +kernel : Cond.fieldLinkNest "QuietChecks" 148 "QuietChecks$Disk" "way" "I" "QuietChecks" ∈ zNest))) rfl rfl (Nat.le_of_ble_eq_true rfl) rfl dX6_overdueAfter_16 (fun H locs hP hD hS => ?_)
  refine lv_iconst (v := 0) hx hb dX6_overdueAfter_19 (by decide) ?_
  refine lv_istore_n (lv' := [(3, .int 0), (0, .ref (ad b)), (1, .int p1), (2, .int p2)]) hx hb dX6_overdueAfter_20 rfl hl (by decide) rfl (fun ls hl => ?_)
  have J40 : ∀ (w40_0 : tX1) (hf : q_X6_overdueAfter_J40 w40_0 = some res) (H : Heap) (locs : List Loc) (hP : va_P D vwCl (wX6 G ad b (u.1, w40_0, u.2.2.1, u.2.2.2.1, u.2.2.2.2)) H) (hD : va_D A (wX6 G ad b (u.1, w40_0, u.2.2.1, u.2.2.2.1, u.2.2.2.2))) (hS : va_S A s.heap H locs) (ls : Array Slot) (hl : lv_has ls 4 [(0, .ref (ad b))]), W p l e (zRm 5 123) s m args below meth c H locs 0 0 Q (F0 m 40 ls []) := by
    intro w40_0 hf H locs hP hD hS ls hl
    unfold q_X6_overdueAfter_J40 at hf
    refine lv_aload_n hx hb dX6_overdueAfter_40 rfl (lv_at hl 0 rfl) ?_
    refine va_get (D := D) (ci := 7) (v := .ref (ad (b + 13))) (C := RX6) (T := TX6) (N := 5) hx hb hW inlX6 hown hK hP 0 rfl rfl 1 (by decide) (hW _ wd_14) (fun _ h9 => h9) rfl dX6_overdueAfter_41 ?_
    replace hf := zb_s hf
    obtain ⟨r44, hr44, hf⟩ := hf
    refine z_Vi (rest := []) C0 kX6_136 (c_X1_overdueSpans l D G ad (b + 13) w40_0 r44 hr44) (pmX6_trial G ad (b) (u.1, w40_0, u.2.2.1, u.2.2.2.1, u.2.2.2.2)) ((pmX6_trial G ad (b) (u.1, w40_0, u.2.2.1, u.2.2.2.1, u.2.2.2.2))).symm (ci := 2) (T := TX1) (N := 17) rfl rfl rfl ⟨Nat.le_of_ble_eq_true rfl, Nat.le_of_ble_eq_true rfl⟩ (Nat.le_of_ble_eq_true rfl) rfl hl.1 hP hD hS dX6_overdueAfter_44 (fun H locs hP hD hS => ?_)
    obtain rfl := zo hf
    exact hret _ _ _ _ _ hP hD hS rfl dX6_overdueAfter_47
  replace hf := zb_s hf
  obtain ⟨b21, hz21, hk21⟩ := hf
  have L21 : ∀ (n21 : Nat) (v21 : Int32 × tX1) (hz21 : zl n21 (q_X6_overdueAfter_L21 p1) v21 = some b21) (H : Heap) (locs : List Loc) (hP : va_P D vwCl (wX6 G ad b (u.1, v21.2, u.2.2.1, u.2.2.2.1, u.2.2.2.2)) H) (hD : va_D A (wX6 G ad b (u.1, v21.2, u.2.2.1, u.2.2.2.1, u.2.2.2.2))) (hS : va_S A s.heap H locs) (ls : Array Slot) (hl : lv_has ls 4 [(0, .ref (ad b)), (1, .int p1), (3, .int v21.1)]), W p l e (zRm 5 123) s m args below meth c H locs 0 0 Q (F0 m 21 ls []) := by
    intro n21
    induction n21 with
    | zero => intro v21 hz21; exact (zl_0 hz21).elim
    | succ n21 ih21 =>
      intro v21 hz21 H locs hP hD hS ls hl
      obtain ⟨o21, hf, hz21⟩ := zl_s hz21
      unfold q_X6_overdueAfter_L21 at hf
      refine lv_iload_n hx hb dX6_overdueAfter_21 rfl (lv_at hl 2 rfl) ?_
      refine lv_iload_n hx hb dX6_overdueAfter_22 rfl (lv_at hl 1 rfl) ?_
      refine lv_icmp_ge (tgt := 40) hx hb dX6_overdueAfter_23 (by decide) (fun c23 => ?_) (fun c23 => ?_)
      · replace hf := zi_p hf c23
        have hb21 := zk_r hf hz21
        subst hb21
        replace hf := hk21
        exact J40 v21.2 hf _ _ hP hD hS _ (lv_sub hl [0] rfl)
      · replace hf := zi_n hf c23
        refine lv_aload_n hx hb dX6_overdueAfter_26 rfl (lv_at hl 0 rfl) ?_
        refine va_get (D := D) (ci := 7) (v := .ref (ad (b + 13))) (C := RX6) (T := TX6) (N := 5) hx hb hW inlX6 hown hK hP 0 rfl rfl 1 (by decide) (hW _ wd_14) (fun _ h9 => h9) rfl dX6_overdueAfter_27 ?_
        replace hf := zb_s hf
        obtain ⟨r30, hr30, hf⟩ := hf
        refine z_Vi (rest := []) C0 kX6_145 (c_X1_passQuietTick l D G ad (b + 13) v21.2 r30 hr30) (pmX6_trial G ad (b) (u.1, v21.2, u.2.2.1, u.2.2.2.1, u.2.2.2.2)) (pnX6_trial G ad (b) (u.1, v21.2, u.2.2.1, u.2.2.2.1, u.2.2.2.2) r30.2) (ci := 2) (T := TX1) (N := 17) rfl rfl rfl ⟨Nat.le_of_ble_eq_true rfl, Nat.le_of_ble_eq_true rfl⟩ (Nat.le_of_ble_eq_true rfl) rfl hl.1 hP hD hS dX6_overdueAfter_30 (fun H locs hP hD hS => ?_)
        replace hP : va_P D vwCl (wX6 G ad b (u.1, r30.2, u.2.2.1, u.2.2.2.1, u.2.2.2.2)) H := hP
        replace hD : va_D A (wX6 G ad b (u.1, r30.2, u.2.2.1, u.2.2.2.1, u.2.2.2.2)) := hD
        refine lv_pop hx hb dX6_overdueAfter_33 rfl ?_
        refine lv_iinc (v := (v21.1 + 1)) (lv' := [(3, .int (v21.1 + 1)), (0, .ref (ad b)), (1, .int p1)]) hx hb dX6_overdueAfter_34 hl (k := 2) rfl rfl (by decide) rfl (fun ls hl => ?_)
        refine lv_goto (tgt := 21) hx hb dX6_overdueAfter_37 (by decide) ?_
        exact ih21 _ (zk_l hf hz21) _ _ hP hD hS _ (lv_sub hl [1, 2, 0] rfl)
  exact L21 _ _ hz21 _ _ hP hD hS _ (lv_sub hl [1, 2, 0] rfl)
theorem kX6_40 : zLkV RX6 40 yX2_draft cX2_draft 3 none 1 := ⟨⟨wd_134, wd_135, wd_136, wd_17, wd_137⟩, by decide +kernel⟩
theorem kX6_44 : zLkV RX6 44 yX1_changeSetting cX1_changeSetting 4 (some .int) 2 := ⟨⟨wd_339, wd_340, wd_341, wd_12, wd_342⟩, by decide +kernel⟩
theorem kX6_48 : zLkV RX6 48 yX2_keep cX2_keep 2 (some .int) 1 := ⟨⟨wd_175, wd_176, wd_177, wd_17, wd_178⟩, by decide +kernel⟩
noncomputable def q_X6_set (u : tX6) (p1 : Int32) (p2 : Int32) : Option (Int32 × (Nat → Int32) × tX2) :=
  zb (q_X2_draft u.2.2.1 u.1) fun r8 => zb (q_X1_changeSetting u.1 p1 p2) fun r21 => zb (q_X2_keep (u.2.2.1.1, r8, u.2.2.1.2.2) r21.1) fun r24 => some (r24.1, r21.2, r24.2)
set_option maxRecDepth 100000 in
set_option maxHeartbeats 4000000 in
theorem c_X6_set (l : Launch) (D : va_G) (G : zG) (ad : Nat → Nat) (b : Nat) (u : tX6) (p1 : Int32) (p2 : Int32) (res : Int32 × (Nat → Int32) × tX2) (hf : q_X6_set u p1 p2 = some res) : zMi l yX6_set cX6_set 3 (some .int) 4 90 D G (wX6 G ad b u) (wX6 G ad b ((res.2.1, u.1.2.1, u.1.2.2.1, u.1.2.2.2.1, u.1.2.2.2.2.1, u.1.2.2.2.2.2.1, u.1.2.2.2.2.2.2.1, u.1.2.2.2.2.2.2.2.1, u.1.2.2.2.2.2.2.2.2.1, u.1.2.2.2.2.2.2.2.2.2.1, u.1.2.2.2.2.2.2.2.2.2.2.1, u.1.2.2.2.2.2.2.2.2.2.2.2.1, u.1.2.2.2.2.2.2.2.2.2.2.2.2.1, u.1.2.2.2.2.2.2.2.2.2.2.2.2.2.1, u.1.2.2.2.2.2.2.2.2.2.2.2.2.2.2.1, u.1.2.2.2.2.2.2.2.2.2.2.2.2.2.2.2.1, u.1.2.2.2.2.2.2.2.2.2.2.2.2.2.2.2.2), u.2.1, res.2.2, u.2.2.2.1, u.2.2.2.2)) [.ref (ad b), .int p1, .int p2] res.1 := by
  refine zs_i (plainFor_of_name (by decide)) (Nat.le_of_ble_eq_true rfl) ?_
  intro p e s m args below meth c A Q H ls C0 hret hP hD hS hl
  obtain ⟨hx, hb, hml, hown, hW, hK, hlocks, hF, hr, hA⟩ := id C0
  replace hl : lv_has ls 3 [(0, .ref (ad b)), (1, .int p1), (2, .int p2)] := hl
  unfold q_X6_set at hf
  refine lv_aload_n hx hb dX6_set_0 rfl (lv_at hl 0 rfl) ?_
  refine va_get (D := D) (ci := 7) (v := .ref (ad (b + 25))) (C := RX6) (T := TX6) (N := 5) hx hb hW inlX6 hown hK hP 0 rfl rfl 2 (by decide) (hW _ wd_18) (fun _ h9 => h9) rfl dX6_set_1 ?_
  refine lv_aload_n hx hb dX6_set_4 rfl (lv_at hl 0 rfl) ?_
  refine va_get (D := D) (ci := 7) (v := .ref (ad (b + 1))) (C := RX6) (T := TX6) (N := 5) hx hb hW inlX6 hown hK hP 0 rfl rfl 0 (by decide) (hW _ wd_13) (fun _ h9 => h9) rfl dX6_set_5 ?_
  replace hf := zb_s hf
  obtain ⟨r8, hr8, hf⟩ := hf
  refine z_Vv (rest := []) C0 kX6_40 (c_X2_draft l D G ad (b + 25) ad (b + 1) u.2.2.1 u.1 r8 hr8) (pmX6_history_disk G ad b u) (pnX6_history_disk G ad b u (u.2.2.1.1, r8, u.2.2.1.2.2) u.1) (ci := 3) (T := TX2) (N := 2) rfl rfl rfl ⟨Nat.le_of_ble_eq_true rfl, Nat.le_of_ble_eq_true rfl⟩ (Nat.le_of_ble_eq_true rfl) rfl hl.1 hP hD hS dX6_set_8 (fun H locs hP hD hS => ?_)
  replace hP : va_P D vwCl (wX6 G ad b (u.1, u.2.1, (u.2.2.1.1, r8, u.2.2.1.2.2), u.2.2.2.1, u.2.2.2.2)) H := hP
  replace hD : va_D A (wX6 G ad b (u.1, u.2.1, (u.2.2.1.1, r8, u.2.2.1.2.2), u.2.2.2.1, u.2.2.2.2)) := hD
  refine lv_aload_n hx hb dX6_set_11 rfl (lv_at hl 0 rfl) ?_
  refine va_get (D := D) (ci := 7) (v := .ref (ad (b + 25))) (C := RX6) (T := TX6) (N := 5) hx hb hW inlX6 hown hK hP 0 rfl rfl 2 (by decide) (hW _ wd_18) (fun _ h9 => h9) rfl dX6_set_12 ?_
  refine lv_aload_n hx hb dX6_set_15 rfl (lv_at hl 0 rfl) ?_
  refine va_get (D := D) (ci := 7) (v := .ref (ad (b + 1))) (C := RX6) (T := TX6) (N := 5) hx hb hW inlX6 hown hK hP 0 rfl rfl 0 (by decide) (hW _ wd_13) (fun _ h9 => h9) rfl dX6_set_16 ?_
  refine lv_iload_n hx hb dX6_set_19 rfl (lv_at hl 1 rfl) ?_
  refine lv_iload_n hx hb dX6_set_20 rfl (lv_at hl 2 rfl) ?_
  replace hf := zb_s hf
  obtain ⟨r21, hr21, hf⟩ := hf
  refine z_Vi (rest := [.ref (ad (b + 25))]) C0 kX6_44 (c_X1_changeSetting l D G ad (b + 1) u.1 p1 p2 r21 hr21) (pmX6_disk G ad (b) (u.1, u.2.1, (u.2.2.1.1, r8, u.2.2.1.2.2), u.2.2.2.1, u.2.2.2.2)) (pnX6_disk G ad (b) (u.1, u.2.1, (u.2.2.1.1, r8, u.2.2.1.2.2), u.2.2.2.1, u.2.2.2.2) (r21.2, u.1.2.1, u.1.2.2.1, u.1.2.2.2.1, u.1.2.2.2.2.1, u.1.2.2.2.2.2.1, u.1.2.2.2.2.2.2.1, u.1.2.2.2.2.2.2.2.1, u.1.2.2.2.2.2.2.2.2.1, u.1.2.2.2.2.2.2.2.2.2.1, u.1.2.2.2.2.2.2.2.2.2.2.1, u.1.2.2.2.2.2.2.2.2.2.2.2.1, u.1.2.2.2.2.2.2.2.2.2.2.2.2.1, u.1.2.2.2.2.2.2.2.2.2.2.2.2.2.1, u.1.2.2.2.2.2.2.2.2.2.2.2.2.2.2.1, u.1.2.2.2.2.2.2.2.2.2.2.2.2.2.2.2.1, u.1.2.2.2.2.2.2.2.2.2.2.2.2.2.2.2.2)) (ci := 2) (T := TX1) (N := 17) rfl rfl rfl ⟨Nat.le_of_ble_eq_true rfl, Nat.le_of_ble_eq_true rfl⟩ (Nat.le_of_ble_eq_true rfl) rfl hl.1 hP hD hS dX6_set_21 (fun H locs hP hD hS => ?_)
  replace hP : va_P D vwCl (wX6 G ad b ((r21.2, u.1.2.1, u.1.2.2.1, u.1.2.2.2.1, u.1.2.2.2.2.1, u.1.2.2.2.2.2.1, u.1.2.2.2.2.2.2.1, u.1.2.2.2.2.2.2.2.1, u.1.2.2.2.2.2.2.2.2.1, u.1.2.2.2.2.2.2.2.2.2.1, u.1.2.2.2.2.2.2.2.2.2.2.1, u.1.2.2.2.2.2.2.2.2.2.2.2.1, u.1.2.2.2.2.2.2.2.2.2.2.2.2.1, u.1.2.2.2.2.2.2.2.2.2.2.2.2.2.1, u.1.2.2.2.2.2.2.2.2.2.2.2.2.2.2.1, u.1.2.2.2.2.2.2.2.2.2.2.2.2.2.2.2.1, u.1.2.2.2.2.2.2.2.2.2.2.2.2.2.2.2.2), u.2.1, (u.2.2.1.1, r8, u.2.2.1.2.2), u.2.2.2.1, u.2.2.2.2)) H := hP
  replace hD : va_D A (wX6 G ad b ((r21.2, u.1.2.1, u.1.2.2.1, u.1.2.2.2.1, u.1.2.2.2.2.1, u.1.2.2.2.2.2.1, u.1.2.2.2.2.2.2.1, u.1.2.2.2.2.2.2.2.1, u.1.2.2.2.2.2.2.2.2.1, u.1.2.2.2.2.2.2.2.2.2.1, u.1.2.2.2.2.2.2.2.2.2.2.1, u.1.2.2.2.2.2.2.2.2.2.2.2.1, u.1.2.2.2.2.2.2.2.2.2.2.2.2.1, u.1.2.2.2.2.2.2.2.2.2.2.2.2.2.1, u.1.2.2.2.2.2.2.2.2.2.2.2.2.2.2.1, u.1.2.2.2.2.2.2.2.2.2.2.2.2.2.2.2.1, u.1.2.2.2.2.2.2.2.2.2.2.2.2.2.2.2.2), u.2.1, (u.2.2.1.1, r8, u.2.2.1.2.2), u.2.2.2.1, u.2.2.2.2)) := hD
  replace hf := zb_s hf
  obtain ⟨r24, hr24, hf⟩ := hf
  refine z_Vi (rest := []) C0 kX6_48 (c_X2_keep l D G ad (b + 25) (u.2.2.1.1, r8, u.2.2.1.2.2) r21.1 r24 hr24) (pmX6_history G ad (b) ((r21.2, u.1.2.1, u.1.2.2.1, u.1.2.2.2.1, u.1.2.2.2.2.1, u.1.2.2.2.2.2.1, u.1.2.2.2.2.2.2.1, u.1.2.2.2.2.2.2.2.1, u.1.2.2.2.2.2.2.2.2.1, u.1.2.2.2.2.2.2.2.2.2.1, u.1.2.2.2.2.2.2.2.2.2.2.1, u.1.2.2.2.2.2.2.2.2.2.2.2.1, u.1.2.2.2.2.2.2.2.2.2.2.2.2.1, u.1.2.2.2.2.2.2.2.2.2.2.2.2.2.1, u.1.2.2.2.2.2.2.2.2.2.2.2.2.2.2.1, u.1.2.2.2.2.2.2.2.2.2.2.2.2.2.2.2.1, u.1.2.2.2.2.2.2.2.2.2.2.2.2.2.2.2.2), u.2.1, (u.2.2.1.1, r8, u.2.2.1.2.2), u.2.2.2.1, u.2.2.2.2)) (pnX6_history G ad (b) ((r21.2, u.1.2.1, u.1.2.2.1, u.1.2.2.2.1, u.1.2.2.2.2.1, u.1.2.2.2.2.2.1, u.1.2.2.2.2.2.2.1, u.1.2.2.2.2.2.2.2.1, u.1.2.2.2.2.2.2.2.2.1, u.1.2.2.2.2.2.2.2.2.2.1, u.1.2.2.2.2.2.2.2.2.2.2.1, u.1.2.2.2.2.2.2.2.2.2.2.2.1, u.1.2.2.2.2.2.2.2.2.2.2.2.2.1, u.1.2.2.2.2.2.2.2.2.2.2.2.2.2.1, u.1.2.2.2.2.2.2.2.2.2.2.2.2.2.2.1, u.1.2.2.2.2.2.2.2.2.2.2.2.2.2.2.2.1, u.1.2.2.2.2.2.2.2.2.2.2.2.2.2.2.2.2), u.2.1, (u.2.2.1.1, r8, u.2.2.1.2.2), u.2.2.2.1, u.2.2.2.2) r24.2) (ci := 3) (T := TX2) (N := 2) rfl rfl rfl ⟨Nat.le_of_ble_eq_true rfl, Nat.le_of_ble_eq_true rfl⟩ (Nat.le_of_ble_eq_true rfl) rfl hl.1 hP hD hS dX6_set_24 (fun H locs hP hD hS => ?_)
  replace hP : va_P D vwCl (wX6 G ad b ((r21.2, u.1.2.1, u.1.2.2.1, u.1.2.2.2.1, u.1.2.2.2.2.1, u.1.2.2.2.2.2.1, u.1.2.2.2.2.2.2.1, u.1.2.2.2.2.2.2.2.1, u.1.2.2.2.2.2.2.2.2.1, u.1.2.2.2.2.2.2.2.2.2.1, u.1.2.2.2.2.2.2.2.2.2.2.1, u.1.2.2.2.2.2.2.2.2.2.2.2.1, u.1.2.2.2.2.2.2.2.2.2.2.2.2.1, u.1.2.2.2.2.2.2.2.2.2.2.2.2.2.1, u.1.2.2.2.2.2.2.2.2.2.2.2.2.2.2.1, u.1.2.2.2.2.2.2.2.2.2.2.2.2.2.2.2.1, u.1.2.2.2.2.2.2.2.2.2.2.2.2.2.2.2.2), u.2.1, r24.2, u.2.2.2.1, u.2.2.2.2)) H := hP
  replace hD : va_D A (wX6 G ad b ((r21.2, u.1.2.1, u.1.2.2.1, u.1.2.2.2.1, u.1.2.2.2.2.1, u.1.2.2.2.2.2.1, u.1.2.2.2.2.2.2.1, u.1.2.2.2.2.2.2.2.1, u.1.2.2.2.2.2.2.2.2.1, u.1.2.2.2.2.2.2.2.2.2.1, u.1.2.2.2.2.2.2.2.2.2.2.1, u.1.2.2.2.2.2.2.2.2.2.2.2.1, u.1.2.2.2.2.2.2.2.2.2.2.2.2.1, u.1.2.2.2.2.2.2.2.2.2.2.2.2.2.1, u.1.2.2.2.2.2.2.2.2.2.2.2.2.2.2.1, u.1.2.2.2.2.2.2.2.2.2.2.2.2.2.2.2.1, u.1.2.2.2.2.2.2.2.2.2.2.2.2.2.2.2.2), u.2.1, r24.2, u.2.2.2.1, u.2.2.2.2)) := hD
  obtain rfl := zo hf
  exact hret _ _ _ _ _ hP hD hS rfl dX6_set_27
theorem kX6_52 : zLkV RX6 52 yX1_changeWay cX1_changeWay 3 (some .int) 1 := ⟨⟨wd_323, wd_324, wd_325, wd_12, wd_326⟩, by decide +kernel⟩
noncomputable def q_X6_setWay (u : tX6) (p1 : Int32) : Option (Int32 × Int32 × tX2) :=
  zb (q_X2_draft u.2.2.1 u.1) fun r8 => zb (q_X1_changeWay u.1 p1) fun r20 => zb (q_X2_keep (u.2.2.1.1, r8, u.2.2.1.2.2) r20.1) fun r23 => some (r23.1, r20.2, r23.2)
set_option maxRecDepth 100000 in
set_option maxHeartbeats 4000000 in
theorem c_X6_setWay (l : Launch) (D : va_G) (G : zG) (ad : Nat → Nat) (b : Nat) (u : tX6) (p1 : Int32) (res : Int32 × Int32 × tX2) (hf : q_X6_setWay u p1 = some res) : zMi l yX6_setWay cX6_setWay 2 (some .int) 4 90 D G (wX6 G ad b u) (wX6 G ad b ((u.1.1, u.1.2.1, u.1.2.2.1, u.1.2.2.2.1, u.1.2.2.2.2.1, res.2.1, u.1.2.2.2.2.2.2.1, u.1.2.2.2.2.2.2.2.1, u.1.2.2.2.2.2.2.2.2.1, u.1.2.2.2.2.2.2.2.2.2.1, u.1.2.2.2.2.2.2.2.2.2.2.1, u.1.2.2.2.2.2.2.2.2.2.2.2.1, u.1.2.2.2.2.2.2.2.2.2.2.2.2.1, u.1.2.2.2.2.2.2.2.2.2.2.2.2.2.1, u.1.2.2.2.2.2.2.2.2.2.2.2.2.2.2.1, u.1.2.2.2.2.2.2.2.2.2.2.2.2.2.2.2.1, u.1.2.2.2.2.2.2.2.2.2.2.2.2.2.2.2.2), u.2.1, res.2.2, u.2.2.2.1, u.2.2.2.2)) [.ref (ad b), .int p1] res.1 := by
  refine zs_i (plainFor_of_name (by decide)) (Nat.le_of_ble_eq_true rfl) ?_
  intro p e s m args below meth c A Q H ls C0 hret hP hD hS hl
  obtain ⟨hx, hb, hml, hown, hW, hK, hlocks, hF, hr, hA⟩ := id C0
  replace hl : lv_has ls 2 [(0, .ref (ad b)), (1, .int p1)] := hl
  unfold q_X6_setWay at hf
  refine lv_aload_n hx hb dX6_setWay_0 rfl (lv_at hl 0 rfl) ?_
  refine va_get (D := D) (ci := 7) (v := .ref (ad (b + 25))) (C := RX6) (T := TX6) (N := 5) hx hb hW inlX6 hown hK hP 0 rfl rfl 2 (by decide) (hW _ wd_18) (fun _ h9 => h9) rfl dX6_setWay_1 ?_
  refine lv_aload_n hx hb dX6_setWay_4 rfl (lv_at hl 0 rfl) ?_
  refine va_get (D := D) (ci := 7) (v := .ref (ad (b + 1))) (C := RX6) (T := TX6) (N := 5) hx hb hW inlX6 hown hK hP 0 rfl rfl 0 (by decide) (hW _ wd_13) (fun _ h9 => h9) rfl dX6_setWay_5 ?_
  replace hf := zb_s hf
  obtain ⟨r8, hr8, hf⟩ := hf
  refine z_Vv (rest := []) C0 kX6_40 (c_X2_draft l D G ad (b + 25) ad (b + 1) u.2.2.1 u.1 r8 hr8) (pmX6_history_disk G ad b u) (pnX6_history_disk G ad b u (u.2.2.1.1, r8, u.2.2.1.2.2) u.1) (ci := 3) (T := TX2) (N := 2) rfl rfl rfl ⟨Nat.le_of_ble_eq_true rfl, Nat.le_of_ble_eq_true rfl⟩ (Nat.le_of_ble_eq_true rfl) rfl hl.1 hP hD hS dX6_setWay_8 (fun H locs hP hD hS => ?_)
  replace hP : va_P D vwCl (wX6 G ad b (u.1, u.2.1, (u.2.2.1.1, r8, u.2.2.1.2.2), u.2.2.2.1, u.2.2.2.2)) H := hP
  replace hD : va_D A (wX6 G ad b (u.1, u.2.1, (u.2.2.1.1, r8, u.2.2.1.2.2), u.2.2.2.1, u.2.2.2.2)) := hD
  refine lv_aload_n hx hb dX6_setWay_11 rfl (lv_at hl 0 rfl) ?_
  refine va_get (D := D) (ci := 7) (v := .ref (ad (b + 25))) (C := RX6) (T := TX6) (N := 5) hx hb hW inlX6 hown hK hP 0 rfl rfl 2 (by decide) (hW _ wd_18) (fun _ h9 => h9) rfl dX6_setWay_12 ?_
  refine lv_aload_n hx hb dX6_setWay_15 rfl (lv_at hl 0 rfl) ?_
  refine va_get (D := D) (ci := 7) (v := .ref (ad (b + 1))) (C := RX6) (T := TX6) (N := 5) hx hb hW inlX6 hown hK hP 0 rfl rfl 0 (by decide) (hW _ wd_13) (fun _ h9 => h9) rfl dX6_setWay_16 ?_
  refine lv_iload_n hx hb dX6_setWay_19 rfl (lv_at hl 1 rfl) ?_
  replace hf := zb_s hf
  obtain ⟨r20, hr20, hf⟩ := hf
  refine z_Vi (rest := [.ref (ad (b + 25))]) C0 kX6_52 (c_X1_changeWay l D G ad (b + 1) u.1 p1 r20 hr20) (pmX6_disk G ad (b) (u.1, u.2.1, (u.2.2.1.1, r8, u.2.2.1.2.2), u.2.2.2.1, u.2.2.2.2)) (pnX6_disk G ad (b) (u.1, u.2.1, (u.2.2.1.1, r8, u.2.2.1.2.2), u.2.2.2.1, u.2.2.2.2) (u.1.1, u.1.2.1, u.1.2.2.1, u.1.2.2.2.1, u.1.2.2.2.2.1, r20.2, u.1.2.2.2.2.2.2.1, u.1.2.2.2.2.2.2.2.1, u.1.2.2.2.2.2.2.2.2.1, u.1.2.2.2.2.2.2.2.2.2.1, u.1.2.2.2.2.2.2.2.2.2.2.1, u.1.2.2.2.2.2.2.2.2.2.2.2.1, u.1.2.2.2.2.2.2.2.2.2.2.2.2.1, u.1.2.2.2.2.2.2.2.2.2.2.2.2.2.1, u.1.2.2.2.2.2.2.2.2.2.2.2.2.2.2.1, u.1.2.2.2.2.2.2.2.2.2.2.2.2.2.2.2.1, u.1.2.2.2.2.2.2.2.2.2.2.2.2.2.2.2.2)) (ci := 2) (T := TX1) (N := 17) rfl rfl rfl ⟨Nat.le_of_ble_eq_true rfl, Nat.le_of_ble_eq_true rfl⟩ (Nat.le_of_ble_eq_true rfl) rfl hl.1 hP hD hS dX6_setWay_20 (fun H locs hP hD hS => ?_)
  replace hP : va_P D vwCl (wX6 G ad b ((u.1.1, u.1.2.1, u.1.2.2.1, u.1.2.2.2.1, u.1.2.2.2.2.1, r20.2, u.1.2.2.2.2.2.2.1, u.1.2.2.2.2.2.2.2.1, u.1.2.2.2.2.2.2.2.2.1, u.1.2.2.2.2.2.2.2.2.2.1, u.1.2.2.2.2.2.2.2.2.2.2.1, u.1.2.2.2.2.2.2.2.2.2.2.2.1, u.1.2.2.2.2.2.2.2.2.2.2.2.2.1, u.1.2.2.2.2.2.2.2.2.2.2.2.2.2.1, u.1.2.2.2.2.2.2.2.2.2.2.2.2.2.2.1, u.1.2.2.2.2.2.2.2.2.2.2.2.2.2.2.2.1, u.1.2.2.2.2.2.2.2.2.2.2.2.2.2.2.2.2), u.2.1, (u.2.2.1.1, r8, u.2.2.1.2.2), u.2.2.2.1, u.2.2.2.2)) H := hP
  replace hD : va_D A (wX6 G ad b ((u.1.1, u.1.2.1, u.1.2.2.1, u.1.2.2.2.1, u.1.2.2.2.2.1, r20.2, u.1.2.2.2.2.2.2.1, u.1.2.2.2.2.2.2.2.1, u.1.2.2.2.2.2.2.2.2.1, u.1.2.2.2.2.2.2.2.2.2.1, u.1.2.2.2.2.2.2.2.2.2.2.1, u.1.2.2.2.2.2.2.2.2.2.2.2.1, u.1.2.2.2.2.2.2.2.2.2.2.2.2.1, u.1.2.2.2.2.2.2.2.2.2.2.2.2.2.1, u.1.2.2.2.2.2.2.2.2.2.2.2.2.2.2.1, u.1.2.2.2.2.2.2.2.2.2.2.2.2.2.2.2.1, u.1.2.2.2.2.2.2.2.2.2.2.2.2.2.2.2.2), u.2.1, (u.2.2.1.1, r8, u.2.2.1.2.2), u.2.2.2.1, u.2.2.2.2)) := hD
  replace hf := zb_s hf
  obtain ⟨r23, hr23, hf⟩ := hf
  refine z_Vi (rest := []) C0 kX6_48 (c_X2_keep l D G ad (b + 25) (u.2.2.1.1, r8, u.2.2.1.2.2) r20.1 r23 hr23) (pmX6_history G ad (b) ((u.1.1, u.1.2.1, u.1.2.2.1, u.1.2.2.2.1, u.1.2.2.2.2.1, r20.2, u.1.2.2.2.2.2.2.1, u.1.2.2.2.2.2.2.2.1, u.1.2.2.2.2.2.2.2.2.1, u.1.2.2.2.2.2.2.2.2.2.1, u.1.2.2.2.2.2.2.2.2.2.2.1, u.1.2.2.2.2.2.2.2.2.2.2.2.1, u.1.2.2.2.2.2.2.2.2.2.2.2.2.1, u.1.2.2.2.2.2.2.2.2.2.2.2.2.2.1, u.1.2.2.2.2.2.2.2.2.2.2.2.2.2.2.1, u.1.2.2.2.2.2.2.2.2.2.2.2.2.2.2.2.1, u.1.2.2.2.2.2.2.2.2.2.2.2.2.2.2.2.2), u.2.1, (u.2.2.1.1, r8, u.2.2.1.2.2), u.2.2.2.1, u.2.2.2.2)) (pnX6_history G ad (b) ((u.1.1, u.1.2.1, u.1.2.2.1, u.1.2.2.2.1, u.1.2.2.2.2.1, r20.2, u.1.2.2.2.2.2.2.1, u.1.2.2.2.2.2.2.2.1, u.1.2.2.2.2.2.2.2.2.1, u.1.2.2.2.2.2.2.2.2.2.1, u.1.2.2.2.2.2.2.2.2.2.2.1, u.1.2.2.2.2.2.2.2.2.2.2.2.1, u.1.2.2.2.2.2.2.2.2.2.2.2.2.1, u.1.2.2.2.2.2.2.2.2.2.2.2.2.2.1, u.1.2.2.2.2.2.2.2.2.2.2.2.2.2.2.1, u.1.2.2.2.2.2.2.2.2.2.2.2.2.2.2.2.1, u.1.2.2.2.2.2.2.2.2.2.2.2.2.2.2.2.2), u.2.1, (u.2.2.1.1, r8, u.2.2.1.2.2), u.2.2.2.1, u.2.2.2.2) r23.2) (ci := 3) (T := TX2) (N := 2) rfl rfl rfl ⟨Nat.le_of_ble_eq_true rfl, Nat.le_of_ble_eq_true rfl⟩ (Nat.le_of_ble_eq_true rfl) rfl hl.1 hP hD hS dX6_setWay_23 (fun H locs hP hD hS => ?_)
  replace hP : va_P D vwCl (wX6 G ad b ((u.1.1, u.1.2.1, u.1.2.2.1, u.1.2.2.2.1, u.1.2.2.2.2.1, r20.2, u.1.2.2.2.2.2.2.1, u.1.2.2.2.2.2.2.2.1, u.1.2.2.2.2.2.2.2.2.1, u.1.2.2.2.2.2.2.2.2.2.1, u.1.2.2.2.2.2.2.2.2.2.2.1, u.1.2.2.2.2.2.2.2.2.2.2.2.1, u.1.2.2.2.2.2.2.2.2.2.2.2.2.1, u.1.2.2.2.2.2.2.2.2.2.2.2.2.2.1, u.1.2.2.2.2.2.2.2.2.2.2.2.2.2.2.1, u.1.2.2.2.2.2.2.2.2.2.2.2.2.2.2.2.1, u.1.2.2.2.2.2.2.2.2.2.2.2.2.2.2.2.2), u.2.1, r23.2, u.2.2.2.1, u.2.2.2.2)) H := hP
  replace hD : va_D A (wX6 G ad b ((u.1.1, u.1.2.1, u.1.2.2.1, u.1.2.2.2.1, u.1.2.2.2.2.1, r20.2, u.1.2.2.2.2.2.2.1, u.1.2.2.2.2.2.2.2.1, u.1.2.2.2.2.2.2.2.2.1, u.1.2.2.2.2.2.2.2.2.2.1, u.1.2.2.2.2.2.2.2.2.2.2.1, u.1.2.2.2.2.2.2.2.2.2.2.2.1, u.1.2.2.2.2.2.2.2.2.2.2.2.2.1, u.1.2.2.2.2.2.2.2.2.2.2.2.2.2.1, u.1.2.2.2.2.2.2.2.2.2.2.2.2.2.2.1, u.1.2.2.2.2.2.2.2.2.2.2.2.2.2.2.2.1, u.1.2.2.2.2.2.2.2.2.2.2.2.2.2.2.2.2), u.2.1, r23.2, u.2.2.2.1, u.2.2.2.2)) := hD
  obtain rfl := zo hf
  exact hret _ _ _ _ _ hP hD hS rfl dX6_setWay_26
theorem kX6_55 : zLkV RX6 55 yX1_takeSpares cX1_takeSpares 2 (some .int) 1 := ⟨⟨wd_331, wd_332, wd_333, wd_12, wd_334⟩, by decide +kernel⟩
noncomputable def q_X6_addSpares (u : tX6) (p1 : Int32) : Option (Int32 × Int32 × tX2) :=
  zb (q_X2_draft u.2.2.1 u.1) fun r8 => zb (q_X1_takeSpares u.1 p1) fun r20 => zb (q_X2_keep (u.2.2.1.1, r8, u.2.2.1.2.2) r20.1) fun r23 => some (r23.1, r20.2, r23.2)
set_option maxRecDepth 100000 in
set_option maxHeartbeats 4000000 in
theorem c_X6_addSpares (l : Launch) (D : va_G) (G : zG) (ad : Nat → Nat) (b : Nat) (u : tX6) (p1 : Int32) (res : Int32 × Int32 × tX2) (hf : q_X6_addSpares u p1 = some res) : zMi l yX6_addSpares cX6_addSpares 2 (some .int) 4 90 D G (wX6 G ad b u) (wX6 G ad b ((u.1.1, u.1.2.1, u.1.2.2.1, u.1.2.2.2.1, u.1.2.2.2.2.1, u.1.2.2.2.2.2.1, res.2.1, u.1.2.2.2.2.2.2.2.1, u.1.2.2.2.2.2.2.2.2.1, u.1.2.2.2.2.2.2.2.2.2.1, u.1.2.2.2.2.2.2.2.2.2.2.1, u.1.2.2.2.2.2.2.2.2.2.2.2.1, u.1.2.2.2.2.2.2.2.2.2.2.2.2.1, u.1.2.2.2.2.2.2.2.2.2.2.2.2.2.1, u.1.2.2.2.2.2.2.2.2.2.2.2.2.2.2.1, u.1.2.2.2.2.2.2.2.2.2.2.2.2.2.2.2.1, u.1.2.2.2.2.2.2.2.2.2.2.2.2.2.2.2.2), u.2.1, res.2.2, u.2.2.2.1, u.2.2.2.2)) [.ref (ad b), .int p1] res.1 := by
  refine zs_i (plainFor_of_name (by decide)) (Nat.le_of_ble_eq_true rfl) ?_
  intro p e s m args below meth c A Q H ls C0 hret hP hD hS hl
  obtain ⟨hx, hb, hml, hown, hW, hK, hlocks, hF, hr, hA⟩ := id C0
  replace hl : lv_has ls 2 [(0, .ref (ad b)), (1, .int p1)] := hl
  unfold q_X6_addSpares at hf
  refine lv_aload_n hx hb dX6_addSpares_0 rfl (lv_at hl 0 rfl) ?_
  refine va_get (D := D) (ci := 7) (v := .ref (ad (b + 25))) (C := RX6) (T := TX6) (N := 5) hx hb hW inlX6 hown hK hP 0 rfl rfl 2 (by decide) (hW _ wd_18) (fun _ h9 => h9) rfl dX6_addSpares_1 ?_
  refine lv_aload_n hx hb dX6_addSpares_4 rfl (lv_at hl 0 rfl) ?_
  refine va_get (D := D) (ci := 7) (v := .ref (ad (b + 1))) (C := RX6) (T := TX6) (N := 5) hx hb hW inlX6 hown hK hP 0 rfl rfl 0 (by decide) (hW _ wd_13) (fun _ h9 => h9) rfl dX6_addSpares_5 ?_
  replace hf := zb_s hf
  obtain ⟨r8, hr8, hf⟩ := hf
  refine z_Vv (rest := []) C0 kX6_40 (c_X2_draft l D G ad (b + 25) ad (b + 1) u.2.2.1 u.1 r8 hr8) (pmX6_history_disk G ad b u) (pnX6_history_disk G ad b u (u.2.2.1.1, r8, u.2.2.1.2.2) u.1) (ci := 3) (T := TX2) (N := 2) rfl rfl rfl ⟨Nat.le_of_ble_eq_true rfl, Nat.le_of_ble_eq_true rfl⟩ (Nat.le_of_ble_eq_true rfl) rfl hl.1 hP hD hS dX6_addSpares_8 (fun H locs hP hD hS => ?_)
  replace hP : va_P D vwCl (wX6 G ad b (u.1, u.2.1, (u.2.2.1.1, r8, u.2.2.1.2.2), u.2.2.2.1, u.2.2.2.2)) H := hP
  replace hD : va_D A (wX6 G ad b (u.1, u.2.1, (u.2.2.1.1, r8, u.2.2.1.2.2), u.2.2.2.1, u.2.2.2.2)) := hD
  refine lv_aload_n hx hb dX6_addSpares_11 rfl (lv_at hl 0 rfl) ?_
  refine va_get (D := D) (ci := 7) (v := .ref (ad (b + 25))) (C := RX6) (T := TX6) (N := 5) hx hb hW inlX6 hown hK hP 0 rfl rfl 2 (by decide) (hW _ wd_18) (fun _ h9 => h9) rfl dX6_addSpares_12 ?_
  refine lv_aload_n hx hb dX6_addSpares_15 rfl (lv_at hl 0 rfl) ?_
  refine va_get (D := D) (ci := 7) (v := .ref (ad (b + 1))) (C := RX6) (T := TX6) (N := 5) hx hb hW inlX6 hown hK hP 0 rfl rfl 0 (by decide) (hW _ wd_13) (fun _ h9 => h9) rfl dX6_addSpares_16 ?_
  refine lv_iload_n hx hb dX6_addSpares_19 rfl (lv_at hl 1 rfl) ?_
  replace hf := zb_s hf
  obtain ⟨r20, hr20, hf⟩ := hf
  refine z_Vi (rest := [.ref (ad (b + 25))]) C0 kX6_55 (c_X1_takeSpares l D G ad (b + 1) u.1 p1 r20 hr20) (pmX6_disk G ad (b) (u.1, u.2.1, (u.2.2.1.1, r8, u.2.2.1.2.2), u.2.2.2.1, u.2.2.2.2)) (pnX6_disk G ad (b) (u.1, u.2.1, (u.2.2.1.1, r8, u.2.2.1.2.2), u.2.2.2.1, u.2.2.2.2) (u.1.1, u.1.2.1, u.1.2.2.1, u.1.2.2.2.1, u.1.2.2.2.2.1, u.1.2.2.2.2.2.1, r20.2, u.1.2.2.2.2.2.2.2.1, u.1.2.2.2.2.2.2.2.2.1, u.1.2.2.2.2.2.2.2.2.2.1, u.1.2.2.2.2.2.2.2.2.2.2.1, u.1.2.2.2.2.2.2.2.2.2.2.2.1, u.1.2.2.2.2.2.2.2.2.2.2.2.2.1, u.1.2.2.2.2.2.2.2.2.2.2.2.2.2.1, u.1.2.2.2.2.2.2.2.2.2.2.2.2.2.2.1, u.1.2.2.2.2.2.2.2.2.2.2.2.2.2.2.2.1, u.1.2.2.2.2.2.2.2.2.2.2.2.2.2.2.2.2)) (ci := 2) (T := TX1) (N := 17) rfl rfl rfl ⟨Nat.le_of_ble_eq_true rfl, Nat.le_of_ble_eq_true rfl⟩ (Nat.le_of_ble_eq_true rfl) rfl hl.1 hP hD hS dX6_addSpares_20 (fun H locs hP hD hS => ?_)
  replace hP : va_P D vwCl (wX6 G ad b ((u.1.1, u.1.2.1, u.1.2.2.1, u.1.2.2.2.1, u.1.2.2.2.2.1, u.1.2.2.2.2.2.1, r20.2, u.1.2.2.2.2.2.2.2.1, u.1.2.2.2.2.2.2.2.2.1, u.1.2.2.2.2.2.2.2.2.2.1, u.1.2.2.2.2.2.2.2.2.2.2.1, u.1.2.2.2.2.2.2.2.2.2.2.2.1, u.1.2.2.2.2.2.2.2.2.2.2.2.2.1, u.1.2.2.2.2.2.2.2.2.2.2.2.2.2.1, u.1.2.2.2.2.2.2.2.2.2.2.2.2.2.2.1, u.1.2.2.2.2.2.2.2.2.2.2.2.2.2.2.2.1, u.1.2.2.2.2.2.2.2.2.2.2.2.2.2.2.2.2), u.2.1, (u.2.2.1.1, r8, u.2.2.1.2.2), u.2.2.2.1, u.2.2.2.2)) H := hP
  replace hD : va_D A (wX6 G ad b ((u.1.1, u.1.2.1, u.1.2.2.1, u.1.2.2.2.1, u.1.2.2.2.2.1, u.1.2.2.2.2.2.1, r20.2, u.1.2.2.2.2.2.2.2.1, u.1.2.2.2.2.2.2.2.2.1, u.1.2.2.2.2.2.2.2.2.2.1, u.1.2.2.2.2.2.2.2.2.2.2.1, u.1.2.2.2.2.2.2.2.2.2.2.2.1, u.1.2.2.2.2.2.2.2.2.2.2.2.2.1, u.1.2.2.2.2.2.2.2.2.2.2.2.2.2.1, u.1.2.2.2.2.2.2.2.2.2.2.2.2.2.2.1, u.1.2.2.2.2.2.2.2.2.2.2.2.2.2.2.2.1, u.1.2.2.2.2.2.2.2.2.2.2.2.2.2.2.2.2), u.2.1, (u.2.2.1.1, r8, u.2.2.1.2.2), u.2.2.2.1, u.2.2.2.2)) := hD
  replace hf := zb_s hf
  obtain ⟨r23, hr23, hf⟩ := hf
  refine z_Vi (rest := []) C0 kX6_48 (c_X2_keep l D G ad (b + 25) (u.2.2.1.1, r8, u.2.2.1.2.2) r20.1 r23 hr23) (pmX6_history G ad (b) ((u.1.1, u.1.2.1, u.1.2.2.1, u.1.2.2.2.1, u.1.2.2.2.2.1, u.1.2.2.2.2.2.1, r20.2, u.1.2.2.2.2.2.2.2.1, u.1.2.2.2.2.2.2.2.2.1, u.1.2.2.2.2.2.2.2.2.2.1, u.1.2.2.2.2.2.2.2.2.2.2.1, u.1.2.2.2.2.2.2.2.2.2.2.2.1, u.1.2.2.2.2.2.2.2.2.2.2.2.2.1, u.1.2.2.2.2.2.2.2.2.2.2.2.2.2.1, u.1.2.2.2.2.2.2.2.2.2.2.2.2.2.2.1, u.1.2.2.2.2.2.2.2.2.2.2.2.2.2.2.2.1, u.1.2.2.2.2.2.2.2.2.2.2.2.2.2.2.2.2), u.2.1, (u.2.2.1.1, r8, u.2.2.1.2.2), u.2.2.2.1, u.2.2.2.2)) (pnX6_history G ad (b) ((u.1.1, u.1.2.1, u.1.2.2.1, u.1.2.2.2.1, u.1.2.2.2.2.1, u.1.2.2.2.2.2.1, r20.2, u.1.2.2.2.2.2.2.2.1, u.1.2.2.2.2.2.2.2.2.1, u.1.2.2.2.2.2.2.2.2.2.1, u.1.2.2.2.2.2.2.2.2.2.2.1, u.1.2.2.2.2.2.2.2.2.2.2.2.1, u.1.2.2.2.2.2.2.2.2.2.2.2.2.1, u.1.2.2.2.2.2.2.2.2.2.2.2.2.2.1, u.1.2.2.2.2.2.2.2.2.2.2.2.2.2.2.1, u.1.2.2.2.2.2.2.2.2.2.2.2.2.2.2.2.1, u.1.2.2.2.2.2.2.2.2.2.2.2.2.2.2.2.2), u.2.1, (u.2.2.1.1, r8, u.2.2.1.2.2), u.2.2.2.1, u.2.2.2.2) r23.2) (ci := 3) (T := TX2) (N := 2) rfl rfl rfl ⟨Nat.le_of_ble_eq_true rfl, Nat.le_of_ble_eq_true rfl⟩ (Nat.le_of_ble_eq_true rfl) rfl hl.1 hP hD hS dX6_addSpares_23 (fun H locs hP hD hS => ?_)
  replace hP : va_P D vwCl (wX6 G ad b ((u.1.1, u.1.2.1, u.1.2.2.1, u.1.2.2.2.1, u.1.2.2.2.2.1, u.1.2.2.2.2.2.1, r20.2, u.1.2.2.2.2.2.2.2.1, u.1.2.2.2.2.2.2.2.2.1, u.1.2.2.2.2.2.2.2.2.2.1, u.1.2.2.2.2.2.2.2.2.2.2.1, u.1.2.2.2.2.2.2.2.2.2.2.2.1, u.1.2.2.2.2.2.2.2.2.2.2.2.2.1, u.1.2.2.2.2.2.2.2.2.2.2.2.2.2.1, u.1.2.2.2.2.2.2.2.2.2.2.2.2.2.2.1, u.1.2.2.2.2.2.2.2.2.2.2.2.2.2.2.2.1, u.1.2.2.2.2.2.2.2.2.2.2.2.2.2.2.2.2), u.2.1, r23.2, u.2.2.2.1, u.2.2.2.2)) H := hP
  replace hD : va_D A (wX6 G ad b ((u.1.1, u.1.2.1, u.1.2.2.1, u.1.2.2.2.1, u.1.2.2.2.2.1, u.1.2.2.2.2.2.1, r20.2, u.1.2.2.2.2.2.2.2.1, u.1.2.2.2.2.2.2.2.2.1, u.1.2.2.2.2.2.2.2.2.2.1, u.1.2.2.2.2.2.2.2.2.2.2.1, u.1.2.2.2.2.2.2.2.2.2.2.2.1, u.1.2.2.2.2.2.2.2.2.2.2.2.2.1, u.1.2.2.2.2.2.2.2.2.2.2.2.2.2.1, u.1.2.2.2.2.2.2.2.2.2.2.2.2.2.2.1, u.1.2.2.2.2.2.2.2.2.2.2.2.2.2.2.2.1, u.1.2.2.2.2.2.2.2.2.2.2.2.2.2.2.2.2), u.2.1, r23.2, u.2.2.2.1, u.2.2.2.2)) := hD
  obtain rfl := zo hf
  exact hret _ _ _ _ _ hP hD hS rfl dX6_addSpares_26
theorem kX6_58 : zLkV RX6 58 yX1_takeSpot cX1_takeSpot 3 (some .int) 2 := ⟨⟨wd_161, wd_162, wd_163, wd_12, wd_164⟩, by decide +kernel⟩
noncomputable def q_X6_spot (u : tX6) (p1 : Int32) (p2 : Int32) : Option (Int32 × tX5 × tX2) :=
  zb (q_X2_draft u.2.2.1 u.1) fun r8 => zb (q_X1_takeSpot u.1 p1 p2) fun r21 => zb (q_X2_keep (u.2.2.1.1, r8, u.2.2.1.2.2) r21.1) fun r24 => some (r24.1, r21.2, r24.2)
set_option maxRecDepth 100000 in
set_option maxHeartbeats 4000000 in
theorem c_X6_spot (l : Launch) (D : va_G) (G : zG) (ad : Nat → Nat) (b : Nat) (u : tX6) (p1 : Int32) (p2 : Int32) (res : Int32 × tX5 × tX2) (hf : q_X6_spot u p1 p2 = some res) : zMi l yX6_spot cX6_spot 3 (some .int) 4 90 D G (wX6 G ad b u) (wX6 G ad b ((u.1.1, u.1.2.1, res.2.1, u.1.2.2.2.1, u.1.2.2.2.2.1, u.1.2.2.2.2.2.1, u.1.2.2.2.2.2.2.1, u.1.2.2.2.2.2.2.2.1, u.1.2.2.2.2.2.2.2.2.1, u.1.2.2.2.2.2.2.2.2.2.1, u.1.2.2.2.2.2.2.2.2.2.2.1, u.1.2.2.2.2.2.2.2.2.2.2.2.1, u.1.2.2.2.2.2.2.2.2.2.2.2.2.1, u.1.2.2.2.2.2.2.2.2.2.2.2.2.2.1, u.1.2.2.2.2.2.2.2.2.2.2.2.2.2.2.1, u.1.2.2.2.2.2.2.2.2.2.2.2.2.2.2.2.1, u.1.2.2.2.2.2.2.2.2.2.2.2.2.2.2.2.2), u.2.1, res.2.2, u.2.2.2.1, u.2.2.2.2)) [.ref (ad b), .int p1, .int p2] res.1 := by
  refine zs_i (plainFor_of_name (by decide)) (Nat.le_of_ble_eq_true rfl) ?_
  intro p e s m args below meth c A Q H ls C0 hret hP hD hS hl
  obtain ⟨hx, hb, hml, hown, hW, hK, hlocks, hF, hr, hA⟩ := id C0
  replace hl : lv_has ls 3 [(0, .ref (ad b)), (1, .int p1), (2, .int p2)] := hl
  unfold q_X6_spot at hf
  refine lv_aload_n hx hb dX6_spot_0 rfl (lv_at hl 0 rfl) ?_
  refine va_get (D := D) (ci := 7) (v := .ref (ad (b + 25))) (C := RX6) (T := TX6) (N := 5) hx hb hW inlX6 hown hK hP 0 rfl rfl 2 (by decide) (hW _ wd_18) (fun _ h9 => h9) rfl dX6_spot_1 ?_
  refine lv_aload_n hx hb dX6_spot_4 rfl (lv_at hl 0 rfl) ?_
  refine va_get (D := D) (ci := 7) (v := .ref (ad (b + 1))) (C := RX6) (T := TX6) (N := 5) hx hb hW inlX6 hown hK hP 0 rfl rfl 0 (by decide) (hW _ wd_13) (fun _ h9 => h9) rfl dX6_spot_5 ?_
  replace hf := zb_s hf
  obtain ⟨r8, hr8, hf⟩ := hf
  refine z_Vv (rest := []) C0 kX6_40 (c_X2_draft l D G ad (b + 25) ad (b + 1) u.2.2.1 u.1 r8 hr8) (pmX6_history_disk G ad b u) (pnX6_history_disk G ad b u (u.2.2.1.1, r8, u.2.2.1.2.2) u.1) (ci := 3) (T := TX2) (N := 2) rfl rfl rfl ⟨Nat.le_of_ble_eq_true rfl, Nat.le_of_ble_eq_true rfl⟩ (Nat.le_of_ble_eq_true rfl) rfl hl.1 hP hD hS dX6_spot_8 (fun H locs hP hD hS => ?_)
  replace hP : va_P D vwCl (wX6 G ad b (u.1, u.2.1, (u.2.2.1.1, r8, u.2.2.1.2.2), u.2.2.2.1, u.2.2.2.2)) H := hP
  replace hD : va_D A (wX6 G ad b (u.1, u.2.1, (u.2.2.1.1, r8, u.2.2.1.2.2), u.2.2.2.1, u.2.2.2.2)) := hD
  refine lv_aload_n hx hb dX6_spot_11 rfl (lv_at hl 0 rfl) ?_
  refine va_get (D := D) (ci := 7) (v := .ref (ad (b + 25))) (C := RX6) (T := TX6) (N := 5) hx hb hW inlX6 hown hK hP 0 rfl rfl 2 (by decide) (hW _ wd_18) (fun _ h9 => h9) rfl dX6_spot_12 ?_
  refine lv_aload_n hx hb dX6_spot_15 rfl (lv_at hl 0 rfl) ?_
  refine va_get (D := D) (ci := 7) (v := .ref (ad (b + 1))) (C := RX6) (T := TX6) (N := 5) hx hb hW inlX6 hown hK hP 0 rfl rfl 0 (by decide) (hW _ wd_13) (fun _ h9 => h9) rfl dX6_spot_16 ?_
  refine lv_iload_n hx hb dX6_spot_19 rfl (lv_at hl 1 rfl) ?_
  refine lv_iload_n hx hb dX6_spot_20 rfl (lv_at hl 2 rfl) ?_
  replace hf := zb_s hf
  obtain ⟨r21, hr21, hf⟩ := hf
  refine z_Vi (rest := [.ref (ad (b + 25))]) C0 kX6_58 (c_X1_takeSpot l D G ad (b + 1) u.1 p1 p2 r21 hr21) (pmX6_disk G ad (b) (u.1, u.2.1, (u.2.2.1.1, r8, u.2.2.1.2.2), u.2.2.2.1, u.2.2.2.2)) (pnX6_disk G ad (b) (u.1, u.2.1, (u.2.2.1.1, r8, u.2.2.1.2.2), u.2.2.2.1, u.2.2.2.2) (u.1.1, u.1.2.1, r21.2, u.1.2.2.2.1, u.1.2.2.2.2.1, u.1.2.2.2.2.2.1, u.1.2.2.2.2.2.2.1, u.1.2.2.2.2.2.2.2.1, u.1.2.2.2.2.2.2.2.2.1, u.1.2.2.2.2.2.2.2.2.2.1, u.1.2.2.2.2.2.2.2.2.2.2.1, u.1.2.2.2.2.2.2.2.2.2.2.2.1, u.1.2.2.2.2.2.2.2.2.2.2.2.2.1, u.1.2.2.2.2.2.2.2.2.2.2.2.2.2.1, u.1.2.2.2.2.2.2.2.2.2.2.2.2.2.2.1, u.1.2.2.2.2.2.2.2.2.2.2.2.2.2.2.2.1, u.1.2.2.2.2.2.2.2.2.2.2.2.2.2.2.2.2)) (ci := 2) (T := TX1) (N := 17) rfl rfl rfl ⟨Nat.le_of_ble_eq_true rfl, Nat.le_of_ble_eq_true rfl⟩ (Nat.le_of_ble_eq_true rfl) rfl hl.1 hP hD hS dX6_spot_21 (fun H locs hP hD hS => ?_)
  replace hP : va_P D vwCl (wX6 G ad b ((u.1.1, u.1.2.1, r21.2, u.1.2.2.2.1, u.1.2.2.2.2.1, u.1.2.2.2.2.2.1, u.1.2.2.2.2.2.2.1, u.1.2.2.2.2.2.2.2.1, u.1.2.2.2.2.2.2.2.2.1, u.1.2.2.2.2.2.2.2.2.2.1, u.1.2.2.2.2.2.2.2.2.2.2.1, u.1.2.2.2.2.2.2.2.2.2.2.2.1, u.1.2.2.2.2.2.2.2.2.2.2.2.2.1, u.1.2.2.2.2.2.2.2.2.2.2.2.2.2.1, u.1.2.2.2.2.2.2.2.2.2.2.2.2.2.2.1, u.1.2.2.2.2.2.2.2.2.2.2.2.2.2.2.2.1, u.1.2.2.2.2.2.2.2.2.2.2.2.2.2.2.2.2), u.2.1, (u.2.2.1.1, r8, u.2.2.1.2.2), u.2.2.2.1, u.2.2.2.2)) H := hP
  replace hD : va_D A (wX6 G ad b ((u.1.1, u.1.2.1, r21.2, u.1.2.2.2.1, u.1.2.2.2.2.1, u.1.2.2.2.2.2.1, u.1.2.2.2.2.2.2.1, u.1.2.2.2.2.2.2.2.1, u.1.2.2.2.2.2.2.2.2.1, u.1.2.2.2.2.2.2.2.2.2.1, u.1.2.2.2.2.2.2.2.2.2.2.1, u.1.2.2.2.2.2.2.2.2.2.2.2.1, u.1.2.2.2.2.2.2.2.2.2.2.2.2.1, u.1.2.2.2.2.2.2.2.2.2.2.2.2.2.1, u.1.2.2.2.2.2.2.2.2.2.2.2.2.2.2.1, u.1.2.2.2.2.2.2.2.2.2.2.2.2.2.2.2.1, u.1.2.2.2.2.2.2.2.2.2.2.2.2.2.2.2.2), u.2.1, (u.2.2.1.1, r8, u.2.2.1.2.2), u.2.2.2.1, u.2.2.2.2)) := hD
  replace hf := zb_s hf
  obtain ⟨r24, hr24, hf⟩ := hf
  refine z_Vi (rest := []) C0 kX6_48 (c_X2_keep l D G ad (b + 25) (u.2.2.1.1, r8, u.2.2.1.2.2) r21.1 r24 hr24) (pmX6_history G ad (b) ((u.1.1, u.1.2.1, r21.2, u.1.2.2.2.1, u.1.2.2.2.2.1, u.1.2.2.2.2.2.1, u.1.2.2.2.2.2.2.1, u.1.2.2.2.2.2.2.2.1, u.1.2.2.2.2.2.2.2.2.1, u.1.2.2.2.2.2.2.2.2.2.1, u.1.2.2.2.2.2.2.2.2.2.2.1, u.1.2.2.2.2.2.2.2.2.2.2.2.1, u.1.2.2.2.2.2.2.2.2.2.2.2.2.1, u.1.2.2.2.2.2.2.2.2.2.2.2.2.2.1, u.1.2.2.2.2.2.2.2.2.2.2.2.2.2.2.1, u.1.2.2.2.2.2.2.2.2.2.2.2.2.2.2.2.1, u.1.2.2.2.2.2.2.2.2.2.2.2.2.2.2.2.2), u.2.1, (u.2.2.1.1, r8, u.2.2.1.2.2), u.2.2.2.1, u.2.2.2.2)) (pnX6_history G ad (b) ((u.1.1, u.1.2.1, r21.2, u.1.2.2.2.1, u.1.2.2.2.2.1, u.1.2.2.2.2.2.1, u.1.2.2.2.2.2.2.1, u.1.2.2.2.2.2.2.2.1, u.1.2.2.2.2.2.2.2.2.1, u.1.2.2.2.2.2.2.2.2.2.1, u.1.2.2.2.2.2.2.2.2.2.2.1, u.1.2.2.2.2.2.2.2.2.2.2.2.1, u.1.2.2.2.2.2.2.2.2.2.2.2.2.1, u.1.2.2.2.2.2.2.2.2.2.2.2.2.2.1, u.1.2.2.2.2.2.2.2.2.2.2.2.2.2.2.1, u.1.2.2.2.2.2.2.2.2.2.2.2.2.2.2.2.1, u.1.2.2.2.2.2.2.2.2.2.2.2.2.2.2.2.2), u.2.1, (u.2.2.1.1, r8, u.2.2.1.2.2), u.2.2.2.1, u.2.2.2.2) r24.2) (ci := 3) (T := TX2) (N := 2) rfl rfl rfl ⟨Nat.le_of_ble_eq_true rfl, Nat.le_of_ble_eq_true rfl⟩ (Nat.le_of_ble_eq_true rfl) rfl hl.1 hP hD hS dX6_spot_24 (fun H locs hP hD hS => ?_)
  replace hP : va_P D vwCl (wX6 G ad b ((u.1.1, u.1.2.1, r21.2, u.1.2.2.2.1, u.1.2.2.2.2.1, u.1.2.2.2.2.2.1, u.1.2.2.2.2.2.2.1, u.1.2.2.2.2.2.2.2.1, u.1.2.2.2.2.2.2.2.2.1, u.1.2.2.2.2.2.2.2.2.2.1, u.1.2.2.2.2.2.2.2.2.2.2.1, u.1.2.2.2.2.2.2.2.2.2.2.2.1, u.1.2.2.2.2.2.2.2.2.2.2.2.2.1, u.1.2.2.2.2.2.2.2.2.2.2.2.2.2.1, u.1.2.2.2.2.2.2.2.2.2.2.2.2.2.2.1, u.1.2.2.2.2.2.2.2.2.2.2.2.2.2.2.2.1, u.1.2.2.2.2.2.2.2.2.2.2.2.2.2.2.2.2), u.2.1, r24.2, u.2.2.2.1, u.2.2.2.2)) H := hP
  replace hD : va_D A (wX6 G ad b ((u.1.1, u.1.2.1, r21.2, u.1.2.2.2.1, u.1.2.2.2.2.1, u.1.2.2.2.2.2.1, u.1.2.2.2.2.2.2.1, u.1.2.2.2.2.2.2.2.1, u.1.2.2.2.2.2.2.2.2.1, u.1.2.2.2.2.2.2.2.2.2.1, u.1.2.2.2.2.2.2.2.2.2.2.1, u.1.2.2.2.2.2.2.2.2.2.2.2.1, u.1.2.2.2.2.2.2.2.2.2.2.2.2.1, u.1.2.2.2.2.2.2.2.2.2.2.2.2.2.1, u.1.2.2.2.2.2.2.2.2.2.2.2.2.2.2.1, u.1.2.2.2.2.2.2.2.2.2.2.2.2.2.2.2.1, u.1.2.2.2.2.2.2.2.2.2.2.2.2.2.2.2.2), u.2.1, r24.2, u.2.2.2.1, u.2.2.2.2)) := hD
  obtain rfl := zo hf
  exact hret _ _ _ _ _ hP hD hS rfl dX6_spot_27
theorem kX6_61 : zLkV RX6 61 yX1_askByHand cX1_askByHand 2 (some .int) 1 := ⟨⟨wd_190, wd_191, wd_192, wd_12, wd_193⟩, by decide +kernel⟩
noncomputable def q_X6_ask (u : tX6) (p1 : Int32) : Option (Int32 × tX0 × tX2) :=
  zb (q_X2_draft u.2.2.1 u.1) fun r8 => zb (q_X1_askByHand u.1 p1) fun r20 => zb (q_X2_keep (u.2.2.1.1, r8, u.2.2.1.2.2) r20.1) fun r23 => some (r23.1, r20.2, r23.2)
set_option maxRecDepth 100000 in
set_option maxHeartbeats 4000000 in
theorem c_X6_ask (l : Launch) (D : va_G) (G : zG) (ad : Nat → Nat) (b : Nat) (u : tX6) (p1 : Int32) (res : Int32 × tX0 × tX2) (hf : q_X6_ask u p1 = some res) : zMi l yX6_ask cX6_ask 2 (some .int) 4 90 D G (wX6 G ad b u) (wX6 G ad b ((u.1.1, u.1.2.1, u.1.2.2.1, res.2.1, u.1.2.2.2.2.1, u.1.2.2.2.2.2.1, u.1.2.2.2.2.2.2.1, u.1.2.2.2.2.2.2.2.1, u.1.2.2.2.2.2.2.2.2.1, u.1.2.2.2.2.2.2.2.2.2.1, u.1.2.2.2.2.2.2.2.2.2.2.1, u.1.2.2.2.2.2.2.2.2.2.2.2.1, u.1.2.2.2.2.2.2.2.2.2.2.2.2.1, u.1.2.2.2.2.2.2.2.2.2.2.2.2.2.1, u.1.2.2.2.2.2.2.2.2.2.2.2.2.2.2.1, u.1.2.2.2.2.2.2.2.2.2.2.2.2.2.2.2.1, u.1.2.2.2.2.2.2.2.2.2.2.2.2.2.2.2.2), u.2.1, res.2.2, u.2.2.2.1, u.2.2.2.2)) [.ref (ad b), .int p1] res.1 := by
  refine zs_i (plainFor_of_name (by decide)) (Nat.le_of_ble_eq_true rfl) ?_
  intro p e s m args below meth c A Q H ls C0 hret hP hD hS hl
  obtain ⟨hx, hb, hml, hown, hW, hK, hlocks, hF, hr, hA⟩ := id C0
  replace hl : lv_has ls 2 [(0, .ref (ad b)), (1, .int p1)] := hl
  unfold q_X6_ask at hf
  refine lv_aload_n hx hb dX6_ask_0 rfl (lv_at hl 0 rfl) ?_
  refine va_get (D := D) (ci := 7) (v := .ref (ad (b + 25))) (C := RX6) (T := TX6) (N := 5) hx hb hW inlX6 hown hK hP 0 rfl rfl 2 (by decide) (hW _ wd_18) (fun _ h9 => h9) rfl dX6_ask_1 ?_
  refine lv_aload_n hx hb dX6_ask_4 rfl (lv_at hl 0 rfl) ?_
  refine va_get (D := D) (ci := 7) (v := .ref (ad (b + 1))) (C := RX6) (T := TX6) (N := 5) hx hb hW inlX6 hown hK hP 0 rfl rfl 0 (by decide) (hW _ wd_13) (fun _ h9 => h9) rfl dX6_ask_5 ?_
  replace hf := zb_s hf
  obtain ⟨r8, hr8, hf⟩ := hf
  refine z_Vv (rest := []) C0 kX6_40 (c_X2_draft l D G ad (b + 25) ad (b + 1) u.2.2.1 u.1 r8 hr8) (pmX6_history_disk G ad b u) (pnX6_history_disk G ad b u (u.2.2.1.1, r8, u.2.2.1.2.2) u.1) (ci := 3) (T := TX2) (N := 2) rfl rfl rfl ⟨Nat.le_of_ble_eq_true rfl, Nat.le_of_ble_eq_true rfl⟩ (Nat.le_of_ble_eq_true rfl) rfl hl.1 hP hD hS dX6_ask_8 (fun H locs hP hD hS => ?_)
  replace hP : va_P D vwCl (wX6 G ad b (u.1, u.2.1, (u.2.2.1.1, r8, u.2.2.1.2.2), u.2.2.2.1, u.2.2.2.2)) H := hP
  replace hD : va_D A (wX6 G ad b (u.1, u.2.1, (u.2.2.1.1, r8, u.2.2.1.2.2), u.2.2.2.1, u.2.2.2.2)) := hD
  refine lv_aload_n hx hb dX6_ask_11 rfl (lv_at hl 0 rfl) ?_
  refine va_get (D := D) (ci := 7) (v := .ref (ad (b + 25))) (C := RX6) (T := TX6) (N := 5) hx hb hW inlX6 hown hK hP 0 rfl rfl 2 (by decide) (hW _ wd_18) (fun _ h9 => h9) rfl dX6_ask_12 ?_
  refine lv_aload_n hx hb dX6_ask_15 rfl (lv_at hl 0 rfl) ?_
  refine va_get (D := D) (ci := 7) (v := .ref (ad (b + 1))) (C := RX6) (T := TX6) (N := 5) hx hb hW inlX6 hown hK hP 0 rfl rfl 0 (by decide) (hW _ wd_13) (fun _ h9 => h9) rfl dX6_ask_16 ?_
  refine lv_iload_n hx hb dX6_ask_19 rfl (lv_at hl 1 rfl) ?_
  replace hf := zb_s hf
  obtain ⟨r20, hr20, hf⟩ := hf
  refine z_Vi (rest := [.ref (ad (b + 25))]) C0 kX6_61 (c_X1_askByHand l D G ad (b + 1) u.1 p1 r20 hr20) (pmX6_disk G ad (b) (u.1, u.2.1, (u.2.2.1.1, r8, u.2.2.1.2.2), u.2.2.2.1, u.2.2.2.2)) (pnX6_disk G ad (b) (u.1, u.2.1, (u.2.2.1.1, r8, u.2.2.1.2.2), u.2.2.2.1, u.2.2.2.2) (u.1.1, u.1.2.1, u.1.2.2.1, r20.2, u.1.2.2.2.2.1, u.1.2.2.2.2.2.1, u.1.2.2.2.2.2.2.1, u.1.2.2.2.2.2.2.2.1, u.1.2.2.2.2.2.2.2.2.1, u.1.2.2.2.2.2.2.2.2.2.1, u.1.2.2.2.2.2.2.2.2.2.2.1, u.1.2.2.2.2.2.2.2.2.2.2.2.1, u.1.2.2.2.2.2.2.2.2.2.2.2.2.1, u.1.2.2.2.2.2.2.2.2.2.2.2.2.2.1, u.1.2.2.2.2.2.2.2.2.2.2.2.2.2.2.1, u.1.2.2.2.2.2.2.2.2.2.2.2.2.2.2.2.1, u.1.2.2.2.2.2.2.2.2.2.2.2.2.2.2.2.2)) (ci := 2) (T := TX1) (N := 17) rfl rfl rfl ⟨Nat.le_of_ble_eq_true rfl, Nat.le_of_ble_eq_true rfl⟩ (Nat.le_of_ble_eq_true rfl) rfl hl.1 hP hD hS dX6_ask_20 (fun H locs hP hD hS => ?_)
  replace hP : va_P D vwCl (wX6 G ad b ((u.1.1, u.1.2.1, u.1.2.2.1, r20.2, u.1.2.2.2.2.1, u.1.2.2.2.2.2.1, u.1.2.2.2.2.2.2.1, u.1.2.2.2.2.2.2.2.1, u.1.2.2.2.2.2.2.2.2.1, u.1.2.2.2.2.2.2.2.2.2.1, u.1.2.2.2.2.2.2.2.2.2.2.1, u.1.2.2.2.2.2.2.2.2.2.2.2.1, u.1.2.2.2.2.2.2.2.2.2.2.2.2.1, u.1.2.2.2.2.2.2.2.2.2.2.2.2.2.1, u.1.2.2.2.2.2.2.2.2.2.2.2.2.2.2.1, u.1.2.2.2.2.2.2.2.2.2.2.2.2.2.2.2.1, u.1.2.2.2.2.2.2.2.2.2.2.2.2.2.2.2.2), u.2.1, (u.2.2.1.1, r8, u.2.2.1.2.2), u.2.2.2.1, u.2.2.2.2)) H := hP
  replace hD : va_D A (wX6 G ad b ((u.1.1, u.1.2.1, u.1.2.2.1, r20.2, u.1.2.2.2.2.1, u.1.2.2.2.2.2.1, u.1.2.2.2.2.2.2.1, u.1.2.2.2.2.2.2.2.1, u.1.2.2.2.2.2.2.2.2.1, u.1.2.2.2.2.2.2.2.2.2.1, u.1.2.2.2.2.2.2.2.2.2.2.1, u.1.2.2.2.2.2.2.2.2.2.2.2.1, u.1.2.2.2.2.2.2.2.2.2.2.2.2.1, u.1.2.2.2.2.2.2.2.2.2.2.2.2.2.1, u.1.2.2.2.2.2.2.2.2.2.2.2.2.2.2.1, u.1.2.2.2.2.2.2.2.2.2.2.2.2.2.2.2.1, u.1.2.2.2.2.2.2.2.2.2.2.2.2.2.2.2.2), u.2.1, (u.2.2.1.1, r8, u.2.2.1.2.2), u.2.2.2.1, u.2.2.2.2)) := hD
  replace hf := zb_s hf
  obtain ⟨r23, hr23, hf⟩ := hf
  refine z_Vi (rest := []) C0 kX6_48 (c_X2_keep l D G ad (b + 25) (u.2.2.1.1, r8, u.2.2.1.2.2) r20.1 r23 hr23) (pmX6_history G ad (b) ((u.1.1, u.1.2.1, u.1.2.2.1, r20.2, u.1.2.2.2.2.1, u.1.2.2.2.2.2.1, u.1.2.2.2.2.2.2.1, u.1.2.2.2.2.2.2.2.1, u.1.2.2.2.2.2.2.2.2.1, u.1.2.2.2.2.2.2.2.2.2.1, u.1.2.2.2.2.2.2.2.2.2.2.1, u.1.2.2.2.2.2.2.2.2.2.2.2.1, u.1.2.2.2.2.2.2.2.2.2.2.2.2.1, u.1.2.2.2.2.2.2.2.2.2.2.2.2.2.1, u.1.2.2.2.2.2.2.2.2.2.2.2.2.2.2.1, u.1.2.2.2.2.2.2.2.2.2.2.2.2.2.2.2.1, u.1.2.2.2.2.2.2.2.2.2.2.2.2.2.2.2.2), u.2.1, (u.2.2.1.1, r8, u.2.2.1.2.2), u.2.2.2.1, u.2.2.2.2)) (pnX6_history G ad (b) ((u.1.1, u.1.2.1, u.1.2.2.1, r20.2, u.1.2.2.2.2.1, u.1.2.2.2.2.2.1, u.1.2.2.2.2.2.2.1, u.1.2.2.2.2.2.2.2.1, u.1.2.2.2.2.2.2.2.2.1, u.1.2.2.2.2.2.2.2.2.2.1, u.1.2.2.2.2.2.2.2.2.2.2.1, u.1.2.2.2.2.2.2.2.2.2.2.2.1, u.1.2.2.2.2.2.2.2.2.2.2.2.2.1, u.1.2.2.2.2.2.2.2.2.2.2.2.2.2.1, u.1.2.2.2.2.2.2.2.2.2.2.2.2.2.2.1, u.1.2.2.2.2.2.2.2.2.2.2.2.2.2.2.2.1, u.1.2.2.2.2.2.2.2.2.2.2.2.2.2.2.2.2), u.2.1, (u.2.2.1.1, r8, u.2.2.1.2.2), u.2.2.2.1, u.2.2.2.2) r23.2) (ci := 3) (T := TX2) (N := 2) rfl rfl rfl ⟨Nat.le_of_ble_eq_true rfl, Nat.le_of_ble_eq_true rfl⟩ (Nat.le_of_ble_eq_true rfl) rfl hl.1 hP hD hS dX6_ask_23 (fun H locs hP hD hS => ?_)
  replace hP : va_P D vwCl (wX6 G ad b ((u.1.1, u.1.2.1, u.1.2.2.1, r20.2, u.1.2.2.2.2.1, u.1.2.2.2.2.2.1, u.1.2.2.2.2.2.2.1, u.1.2.2.2.2.2.2.2.1, u.1.2.2.2.2.2.2.2.2.1, u.1.2.2.2.2.2.2.2.2.2.1, u.1.2.2.2.2.2.2.2.2.2.2.1, u.1.2.2.2.2.2.2.2.2.2.2.2.1, u.1.2.2.2.2.2.2.2.2.2.2.2.2.1, u.1.2.2.2.2.2.2.2.2.2.2.2.2.2.1, u.1.2.2.2.2.2.2.2.2.2.2.2.2.2.2.1, u.1.2.2.2.2.2.2.2.2.2.2.2.2.2.2.2.1, u.1.2.2.2.2.2.2.2.2.2.2.2.2.2.2.2.2), u.2.1, r23.2, u.2.2.2.1, u.2.2.2.2)) H := hP
  replace hD : va_D A (wX6 G ad b ((u.1.1, u.1.2.1, u.1.2.2.1, r20.2, u.1.2.2.2.2.1, u.1.2.2.2.2.2.1, u.1.2.2.2.2.2.2.1, u.1.2.2.2.2.2.2.2.1, u.1.2.2.2.2.2.2.2.2.1, u.1.2.2.2.2.2.2.2.2.2.1, u.1.2.2.2.2.2.2.2.2.2.2.1, u.1.2.2.2.2.2.2.2.2.2.2.2.1, u.1.2.2.2.2.2.2.2.2.2.2.2.2.1, u.1.2.2.2.2.2.2.2.2.2.2.2.2.2.1, u.1.2.2.2.2.2.2.2.2.2.2.2.2.2.2.1, u.1.2.2.2.2.2.2.2.2.2.2.2.2.2.2.2.1, u.1.2.2.2.2.2.2.2.2.2.2.2.2.2.2.2.2), u.2.1, r23.2, u.2.2.2.1, u.2.2.2.2)) := hD
  obtain rfl := zo hf
  exact hret _ _ _ _ _ hP hD hS rfl dX6_ask_26
theorem kX6_64 : zLkV RX6 64 yX1_withdraw cX1_withdraw 2 (some .int) 1 := ⟨⟨wd_209, wd_210, wd_211, wd_12, wd_212⟩, by decide +kernel⟩
noncomputable def q_X6_unask (u : tX6) (p1 : Int32) : Option (Int32 × tX0 × tX2) :=
  zb (q_X2_draft u.2.2.1 u.1) fun r8 => zb (q_X1_withdraw u.1 p1) fun r20 => zb (q_X2_keep (u.2.2.1.1, r8, u.2.2.1.2.2) r20.1) fun r23 => some (r23.1, r20.2, r23.2)
set_option maxRecDepth 100000 in
set_option maxHeartbeats 4000000 in
theorem c_X6_unask (l : Launch) (D : va_G) (G : zG) (ad : Nat → Nat) (b : Nat) (u : tX6) (p1 : Int32) (res : Int32 × tX0 × tX2) (hf : q_X6_unask u p1 = some res) : zMi l yX6_unask cX6_unask 2 (some .int) 4 90 D G (wX6 G ad b u) (wX6 G ad b ((u.1.1, u.1.2.1, u.1.2.2.1, res.2.1, u.1.2.2.2.2.1, u.1.2.2.2.2.2.1, u.1.2.2.2.2.2.2.1, u.1.2.2.2.2.2.2.2.1, u.1.2.2.2.2.2.2.2.2.1, u.1.2.2.2.2.2.2.2.2.2.1, u.1.2.2.2.2.2.2.2.2.2.2.1, u.1.2.2.2.2.2.2.2.2.2.2.2.1, u.1.2.2.2.2.2.2.2.2.2.2.2.2.1, u.1.2.2.2.2.2.2.2.2.2.2.2.2.2.1, u.1.2.2.2.2.2.2.2.2.2.2.2.2.2.2.1, u.1.2.2.2.2.2.2.2.2.2.2.2.2.2.2.2.1, u.1.2.2.2.2.2.2.2.2.2.2.2.2.2.2.2.2), u.2.1, res.2.2, u.2.2.2.1, u.2.2.2.2)) [.ref (ad b), .int p1] res.1 := by
  refine zs_i (plainFor_of_name (by decide)) (Nat.le_of_ble_eq_true rfl) ?_
  intro p e s m args below meth c A Q H ls C0 hret hP hD hS hl
  obtain ⟨hx, hb, hml, hown, hW, hK, hlocks, hF, hr, hA⟩ := id C0
  replace hl : lv_has ls 2 [(0, .ref (ad b)), (1, .int p1)] := hl
  unfold q_X6_unask at hf
  refine lv_aload_n hx hb dX6_unask_0 rfl (lv_at hl 0 rfl) ?_
  refine va_get (D := D) (ci := 7) (v := .ref (ad (b + 25))) (C := RX6) (T := TX6) (N := 5) hx hb hW inlX6 hown hK hP 0 rfl rfl 2 (by decide) (hW _ wd_18) (fun _ h9 => h9) rfl dX6_unask_1 ?_
  refine lv_aload_n hx hb dX6_unask_4 rfl (lv_at hl 0 rfl) ?_
  refine va_get (D := D) (ci := 7) (v := .ref (ad (b + 1))) (C := RX6) (T := TX6) (N := 5) hx hb hW inlX6 hown hK hP 0 rfl rfl 0 (by decide) (hW _ wd_13) (fun _ h9 => h9) rfl dX6_unask_5 ?_
  replace hf := zb_s hf
  obtain ⟨r8, hr8, hf⟩ := hf
  refine z_Vv (rest := []) C0 kX6_40 (c_X2_draft l D G ad (b + 25) ad (b + 1) u.2.2.1 u.1 r8 hr8) (pmX6_history_disk G ad b u) (pnX6_history_disk G ad b u (u.2.2.1.1, r8, u.2.2.1.2.2) u.1) (ci := 3) (T := TX2) (N := 2) rfl rfl rfl ⟨Nat.le_of_ble_eq_true rfl, Nat.le_of_ble_eq_true rfl⟩ (Nat.le_of_ble_eq_true rfl) rfl hl.1 hP hD hS dX6_unask_8 (fun H locs hP hD hS => ?_)
  replace hP : va_P D vwCl (wX6 G ad b (u.1, u.2.1, (u.2.2.1.1, r8, u.2.2.1.2.2), u.2.2.2.1, u.2.2.2.2)) H := hP
  replace hD : va_D A (wX6 G ad b (u.1, u.2.1, (u.2.2.1.1, r8, u.2.2.1.2.2), u.2.2.2.1, u.2.2.2.2)) := hD
  refine lv_aload_n hx hb dX6_unask_11 rfl (lv_at hl 0 rfl) ?_
  refine va_get (D := D) (ci := 7) (v := .ref (ad (b + 25))) (C := RX6) (T := TX6) (N := 5) hx hb hW inlX6 hown hK hP 0 rfl rfl 2 (by decide) (hW _ wd_18) (fun _ h9 => h9) rfl dX6_unask_12 ?_
  refine lv_aload_n hx hb dX6_unask_15 rfl (lv_at hl 0 rfl) ?_
  refine va_get (D := D) (ci := 7) (v := .ref (ad (b + 1))) (C := RX6) (T := TX6) (N := 5) hx hb hW inlX6 hown hK hP 0 rfl rfl 0 (by decide) (hW _ wd_13) (fun _ h9 => h9) rfl dX6_unask_16 ?_
  refine lv_iload_n hx hb dX6_unask_19 rfl (lv_at hl 1 rfl) ?_
  replace hf := zb_s hf
  obtain ⟨r20, hr20, hf⟩ := hf
  refine z_Vi (rest := [.ref (ad (b + 25))]) C0 kX6_64 (c_X1_withdraw l D G ad (b + 1) u.1 p1 r20 hr20) (pmX6_disk G ad (b) (u.1, u.2.1, (u.2.2.1.1, r8, u.2.2.1.2.2), u.2.2.2.1, u.2.2.2.2)) (pnX6_disk G ad (b) (u.1, u.2.1, (u.2.2.1.1, r8, u.2.2.1.2.2), u.2.2.2.1, u.2.2.2.2) (u.1.1, u.1.2.1, u.1.2.2.1, r20.2, u.1.2.2.2.2.1, u.1.2.2.2.2.2.1, u.1.2.2.2.2.2.2.1, u.1.2.2.2.2.2.2.2.1, u.1.2.2.2.2.2.2.2.2.1, u.1.2.2.2.2.2.2.2.2.2.1, u.1.2.2.2.2.2.2.2.2.2.2.1, u.1.2.2.2.2.2.2.2.2.2.2.2.1, u.1.2.2.2.2.2.2.2.2.2.2.2.2.1, u.1.2.2.2.2.2.2.2.2.2.2.2.2.2.1, u.1.2.2.2.2.2.2.2.2.2.2.2.2.2.2.1, u.1.2.2.2.2.2.2.2.2.2.2.2.2.2.2.2.1, u.1.2.2.2.2.2.2.2.2.2.2.2.2.2.2.2.2)) (ci := 2) (T := TX1) (N := 17) rfl rfl rfl ⟨Nat.le_of_ble_eq_true rfl, Nat.le_of_ble_eq_true rfl⟩ (Nat.le_of_ble_eq_true rfl) rfl hl.1 hP hD hS dX6_unask_20 (fun H locs hP hD hS => ?_)
  replace hP : va_P D vwCl (wX6 G ad b ((u.1.1, u.1.2.1, u.1.2.2.1, r20.2, u.1.2.2.2.2.1, u.1.2.2.2.2.2.1, u.1.2.2.2.2.2.2.1, u.1.2.2.2.2.2.2.2.1, u.1.2.2.2.2.2.2.2.2.1, u.1.2.2.2.2.2.2.2.2.2.1, u.1.2.2.2.2.2.2.2.2.2.2.1, u.1.2.2.2.2.2.2.2.2.2.2.2.1, u.1.2.2.2.2.2.2.2.2.2.2.2.2.1, u.1.2.2.2.2.2.2.2.2.2.2.2.2.2.1, u.1.2.2.2.2.2.2.2.2.2.2.2.2.2.2.1, u.1.2.2.2.2.2.2.2.2.2.2.2.2.2.2.2.1, u.1.2.2.2.2.2.2.2.2.2.2.2.2.2.2.2.2), u.2.1, (u.2.2.1.1, r8, u.2.2.1.2.2), u.2.2.2.1, u.2.2.2.2)) H := hP
  replace hD : va_D A (wX6 G ad b ((u.1.1, u.1.2.1, u.1.2.2.1, r20.2, u.1.2.2.2.2.1, u.1.2.2.2.2.2.1, u.1.2.2.2.2.2.2.1, u.1.2.2.2.2.2.2.2.1, u.1.2.2.2.2.2.2.2.2.1, u.1.2.2.2.2.2.2.2.2.2.1, u.1.2.2.2.2.2.2.2.2.2.2.1, u.1.2.2.2.2.2.2.2.2.2.2.2.1, u.1.2.2.2.2.2.2.2.2.2.2.2.2.1, u.1.2.2.2.2.2.2.2.2.2.2.2.2.2.1, u.1.2.2.2.2.2.2.2.2.2.2.2.2.2.2.1, u.1.2.2.2.2.2.2.2.2.2.2.2.2.2.2.2.1, u.1.2.2.2.2.2.2.2.2.2.2.2.2.2.2.2.2), u.2.1, (u.2.2.1.1, r8, u.2.2.1.2.2), u.2.2.2.1, u.2.2.2.2)) := hD
  replace hf := zb_s hf
  obtain ⟨r23, hr23, hf⟩ := hf
  refine z_Vi (rest := []) C0 kX6_48 (c_X2_keep l D G ad (b + 25) (u.2.2.1.1, r8, u.2.2.1.2.2) r20.1 r23 hr23) (pmX6_history G ad (b) ((u.1.1, u.1.2.1, u.1.2.2.1, r20.2, u.1.2.2.2.2.1, u.1.2.2.2.2.2.1, u.1.2.2.2.2.2.2.1, u.1.2.2.2.2.2.2.2.1, u.1.2.2.2.2.2.2.2.2.1, u.1.2.2.2.2.2.2.2.2.2.1, u.1.2.2.2.2.2.2.2.2.2.2.1, u.1.2.2.2.2.2.2.2.2.2.2.2.1, u.1.2.2.2.2.2.2.2.2.2.2.2.2.1, u.1.2.2.2.2.2.2.2.2.2.2.2.2.2.1, u.1.2.2.2.2.2.2.2.2.2.2.2.2.2.2.1, u.1.2.2.2.2.2.2.2.2.2.2.2.2.2.2.2.1, u.1.2.2.2.2.2.2.2.2.2.2.2.2.2.2.2.2), u.2.1, (u.2.2.1.1, r8, u.2.2.1.2.2), u.2.2.2.1, u.2.2.2.2)) (pnX6_history G ad (b) ((u.1.1, u.1.2.1, u.1.2.2.1, r20.2, u.1.2.2.2.2.1, u.1.2.2.2.2.2.1, u.1.2.2.2.2.2.2.1, u.1.2.2.2.2.2.2.2.1, u.1.2.2.2.2.2.2.2.2.1, u.1.2.2.2.2.2.2.2.2.2.1, u.1.2.2.2.2.2.2.2.2.2.2.1, u.1.2.2.2.2.2.2.2.2.2.2.2.1, u.1.2.2.2.2.2.2.2.2.2.2.2.2.1, u.1.2.2.2.2.2.2.2.2.2.2.2.2.2.1, u.1.2.2.2.2.2.2.2.2.2.2.2.2.2.2.1, u.1.2.2.2.2.2.2.2.2.2.2.2.2.2.2.2.1, u.1.2.2.2.2.2.2.2.2.2.2.2.2.2.2.2.2), u.2.1, (u.2.2.1.1, r8, u.2.2.1.2.2), u.2.2.2.1, u.2.2.2.2) r23.2) (ci := 3) (T := TX2) (N := 2) rfl rfl rfl ⟨Nat.le_of_ble_eq_true rfl, Nat.le_of_ble_eq_true rfl⟩ (Nat.le_of_ble_eq_true rfl) rfl hl.1 hP hD hS dX6_unask_23 (fun H locs hP hD hS => ?_)
  replace hP : va_P D vwCl (wX6 G ad b ((u.1.1, u.1.2.1, u.1.2.2.1, r20.2, u.1.2.2.2.2.1, u.1.2.2.2.2.2.1, u.1.2.2.2.2.2.2.1, u.1.2.2.2.2.2.2.2.1, u.1.2.2.2.2.2.2.2.2.1, u.1.2.2.2.2.2.2.2.2.2.1, u.1.2.2.2.2.2.2.2.2.2.2.1, u.1.2.2.2.2.2.2.2.2.2.2.2.1, u.1.2.2.2.2.2.2.2.2.2.2.2.2.1, u.1.2.2.2.2.2.2.2.2.2.2.2.2.2.1, u.1.2.2.2.2.2.2.2.2.2.2.2.2.2.2.1, u.1.2.2.2.2.2.2.2.2.2.2.2.2.2.2.2.1, u.1.2.2.2.2.2.2.2.2.2.2.2.2.2.2.2.2), u.2.1, r23.2, u.2.2.2.1, u.2.2.2.2)) H := hP
  replace hD : va_D A (wX6 G ad b ((u.1.1, u.1.2.1, u.1.2.2.1, r20.2, u.1.2.2.2.2.1, u.1.2.2.2.2.2.1, u.1.2.2.2.2.2.2.1, u.1.2.2.2.2.2.2.2.1, u.1.2.2.2.2.2.2.2.2.1, u.1.2.2.2.2.2.2.2.2.2.1, u.1.2.2.2.2.2.2.2.2.2.2.1, u.1.2.2.2.2.2.2.2.2.2.2.2.1, u.1.2.2.2.2.2.2.2.2.2.2.2.2.1, u.1.2.2.2.2.2.2.2.2.2.2.2.2.2.1, u.1.2.2.2.2.2.2.2.2.2.2.2.2.2.2.1, u.1.2.2.2.2.2.2.2.2.2.2.2.2.2.2.2.1, u.1.2.2.2.2.2.2.2.2.2.2.2.2.2.2.2.2), u.2.1, r23.2, u.2.2.2.1, u.2.2.2.2)) := hD
  obtain rfl := zo hf
  exact hret _ _ _ _ _ hP hD hS rfl dX6_unask_26
theorem kX6_67 : zLkV RX6 67 yX1_hostReads cX1_hostReads 3 (some .int) 2 := ⟨⟨wd_225, wd_226, wd_227, wd_12, wd_228⟩, by decide +kernel⟩
noncomputable def q_X6_read (u : tX6) (p1 : Int32) (p2 : Int32) : Option (Int32 × tX1 × tX2) :=
  zb (q_X2_draft u.2.2.1 u.1) fun r8 => zb (q_X1_hostReads u.1 p1 p2) fun r21 => zb (q_X2_keep (u.2.2.1.1, r8, u.2.2.1.2.2) r21.1) fun r24 => some (r24.1, r21.2, r24.2)
set_option maxRecDepth 100000 in
set_option maxHeartbeats 4000000 in
theorem c_X6_read (l : Launch) (D : va_G) (G : zG) (ad : Nat → Nat) (b : Nat) (u : tX6) (p1 : Int32) (p2 : Int32) (res : Int32 × tX1 × tX2) (hf : q_X6_read u p1 p2 = some res) : zMi l yX6_read cX6_read 3 (some .int) 4 90 D G (wX6 G ad b u) (wX6 G ad b (res.2.1, u.2.1, res.2.2, u.2.2.2.1, u.2.2.2.2)) [.ref (ad b), .int p1, .int p2] res.1 := by
  refine zs_i (plainFor_of_name (by decide)) (Nat.le_of_ble_eq_true rfl) ?_
  intro p e s m args below meth c A Q H ls C0 hret hP hD hS hl
  obtain ⟨hx, hb, hml, hown, hW, hK, hlocks, hF, hr, hA⟩ := id C0
  replace hl : lv_has ls 3 [(0, .ref (ad b)), (1, .int p1), (2, .int p2)] := hl
  unfold q_X6_read at hf
  refine lv_aload_n hx hb dX6_read_0 rfl (lv_at hl 0 rfl) ?_
  refine va_get (D := D) (ci := 7) (v := .ref (ad (b + 25))) (C := RX6) (T := TX6) (N := 5) hx hb hW inlX6 hown hK hP 0 rfl rfl 2 (by decide) (hW _ wd_18) (fun _ h9 => h9) rfl dX6_read_1 ?_
  refine lv_aload_n hx hb dX6_read_4 rfl (lv_at hl 0 rfl) ?_
  refine va_get (D := D) (ci := 7) (v := .ref (ad (b + 1))) (C := RX6) (T := TX6) (N := 5) hx hb hW inlX6 hown hK hP 0 rfl rfl 0 (by decide) (hW _ wd_13) (fun _ h9 => h9) rfl dX6_read_5 ?_
  replace hf := zb_s hf
  obtain ⟨r8, hr8, hf⟩ := hf
  refine z_Vv (rest := []) C0 kX6_40 (c_X2_draft l D G ad (b + 25) ad (b + 1) u.2.2.1 u.1 r8 hr8) (pmX6_history_disk G ad b u) (pnX6_history_disk G ad b u (u.2.2.1.1, r8, u.2.2.1.2.2) u.1) (ci := 3) (T := TX2) (N := 2) rfl rfl rfl ⟨Nat.le_of_ble_eq_true rfl, Nat.le_of_ble_eq_true rfl⟩ (Nat.le_of_ble_eq_true rfl) rfl hl.1 hP hD hS dX6_read_8 (fun H locs hP hD hS => ?_)
  replace hP : va_P D vwCl (wX6 G ad b (u.1, u.2.1, (u.2.2.1.1, r8, u.2.2.1.2.2), u.2.2.2.1, u.2.2.2.2)) H := hP
  replace hD : va_D A (wX6 G ad b (u.1, u.2.1, (u.2.2.1.1, r8, u.2.2.1.2.2), u.2.2.2.1, u.2.2.2.2)) := hD
  refine lv_aload_n hx hb dX6_read_11 rfl (lv_at hl 0 rfl) ?_
  refine va_get (D := D) (ci := 7) (v := .ref (ad (b + 25))) (C := RX6) (T := TX6) (N := 5) hx hb hW inlX6 hown hK hP 0 rfl rfl 2 (by decide) (hW _ wd_18) (fun _ h9 => h9) rfl dX6_read_12 ?_
  refine lv_aload_n hx hb dX6_read_15 rfl (lv_at hl 0 rfl) ?_
  refine va_get (D := D) (ci := 7) (v := .ref (ad (b + 1))) (C := RX6) (T := TX6) (N := 5) hx hb hW inlX6 hown hK hP 0 rfl rfl 0 (by decide) (hW _ wd_13) (fun _ h9 => h9) rfl dX6_read_16 ?_
  refine lv_iload_n hx hb dX6_read_19 rfl (lv_at hl 1 rfl) ?_
  refine lv_iload_n hx hb dX6_read_20 rfl (lv_at hl 2 rfl) ?_
  replace hf := zb_s hf
  obtain ⟨r21, hr21, hf⟩ := hf
  refine z_Vi (rest := [.ref (ad (b + 25))]) C0 kX6_67 (c_X1_hostReads l D G ad (b + 1) u.1 p1 p2 r21 hr21) (pmX6_disk G ad (b) (u.1, u.2.1, (u.2.2.1.1, r8, u.2.2.1.2.2), u.2.2.2.1, u.2.2.2.2)) (pnX6_disk G ad (b) (u.1, u.2.1, (u.2.2.1.1, r8, u.2.2.1.2.2), u.2.2.2.1, u.2.2.2.2) r21.2) (ci := 2) (T := TX1) (N := 17) rfl rfl rfl ⟨Nat.le_of_ble_eq_true rfl, Nat.le_of_ble_eq_true rfl⟩ (Nat.le_of_ble_eq_true rfl) rfl hl.1 hP hD hS dX6_read_21 (fun H locs hP hD hS => ?_)
  replace hP : va_P D vwCl (wX6 G ad b (r21.2, u.2.1, (u.2.2.1.1, r8, u.2.2.1.2.2), u.2.2.2.1, u.2.2.2.2)) H := hP
  replace hD : va_D A (wX6 G ad b (r21.2, u.2.1, (u.2.2.1.1, r8, u.2.2.1.2.2), u.2.2.2.1, u.2.2.2.2)) := hD
  replace hf := zb_s hf
  obtain ⟨r24, hr24, hf⟩ := hf
  refine z_Vi (rest := []) C0 kX6_48 (c_X2_keep l D G ad (b + 25) (u.2.2.1.1, r8, u.2.2.1.2.2) r21.1 r24 hr24) (pmX6_history G ad (b) (r21.2, u.2.1, (u.2.2.1.1, r8, u.2.2.1.2.2), u.2.2.2.1, u.2.2.2.2)) (pnX6_history G ad (b) (r21.2, u.2.1, (u.2.2.1.1, r8, u.2.2.1.2.2), u.2.2.2.1, u.2.2.2.2) r24.2) (ci := 3) (T := TX2) (N := 2) rfl rfl rfl ⟨Nat.le_of_ble_eq_true rfl, Nat.le_of_ble_eq_true rfl⟩ (Nat.le_of_ble_eq_true rfl) rfl hl.1 hP hD hS dX6_read_24 (fun H locs hP hD hS => ?_)
  replace hP : va_P D vwCl (wX6 G ad b (r21.2, u.2.1, r24.2, u.2.2.2.1, u.2.2.2.2)) H := hP
  replace hD : va_D A (wX6 G ad b (r21.2, u.2.1, r24.2, u.2.2.2.1, u.2.2.2.2)) := hD
  obtain rfl := zo hf
  exact hret _ _ _ _ _ hP hD hS rfl dX6_read_27
theorem kX6_70 : zLkV RX6 70 yX1_passQuietTicks cX1_passQuietTicks 4 (some .int) 1 := ⟨⟨wd_260, wd_261, wd_262, wd_12, wd_263⟩, by decide +kernel⟩
noncomputable def q_X6_quiet (u : tX6) (p1 : Int32) : Option (Int32 × tX1 × tX2) :=
  zb (q_X2_draft u.2.2.1 u.1) fun r8 => zb (q_X1_passQuietTicks u.1 p1) fun r20 => zb (q_X2_keep (u.2.2.1.1, r8, u.2.2.1.2.2) r20.1) fun r23 => some (r23.1, r20.2, r23.2)
set_option maxRecDepth 100000 in
set_option maxHeartbeats 4000000 in
theorem c_X6_quiet (l : Launch) (D : va_G) (G : zG) (ad : Nat → Nat) (b : Nat) (u : tX6) (p1 : Int32) (res : Int32 × tX1 × tX2) (hf : q_X6_quiet u p1 = some res) : zMi l yX6_quiet cX6_quiet 2 (some .int) 6 146 D G (wX6 G ad b u) (wX6 G ad b (res.2.1, u.2.1, res.2.2, u.2.2.2.1, u.2.2.2.2)) [.ref (ad b), .int p1] res.1 := by
  refine zs_i (plainFor_of_name (by decide)) (Nat.le_of_ble_eq_true rfl) ?_
  intro p e s m args below meth c A Q H ls C0 hret hP hD hS hl
  obtain ⟨hx, hb, hml, hown, hW, hK, hlocks, hF, hr, hA⟩ := id C0
  replace hl : lv_has ls 2 [(0, .ref (ad b)), (1, .int p1)] := hl
  unfold q_X6_quiet at hf
  refine lv_aload_n hx hb dX6_quiet_0 rfl (lv_at hl 0 rfl) ?_
  refine va_get (D := D) (ci := 7) (v := .ref (ad (b + 25))) (C := RX6) (T := TX6) (N := 5) hx hb hW inlX6 hown hK hP 0 rfl rfl 2 (by decide) (hW _ wd_18) (fun _ h9 => h9) rfl dX6_quiet_1 ?_
  refine lv_aload_n hx hb dX6_quiet_4 rfl (lv_at hl 0 rfl) ?_
  refine va_get (D := D) (ci := 7) (v := .ref (ad (b + 1))) (C := RX6) (T := TX6) (N := 5) hx hb hW inlX6 hown hK hP 0 rfl rfl 0 (by decide) (hW _ wd_13) (fun _ h9 => h9) rfl dX6_quiet_5 ?_
  replace hf := zb_s hf
  obtain ⟨r8, hr8, hf⟩ := hf
  refine z_Vv (rest := []) C0 kX6_40 (c_X2_draft l D G ad (b + 25) ad (b + 1) u.2.2.1 u.1 r8 hr8) (pmX6_history_disk G ad b u) (pnX6_history_disk G ad b u (u.2.2.1.1, r8, u.2.2.1.2.2) u.1) (ci := 3) (T := TX2) (N := 2) rfl rfl rfl ⟨Nat.le_of_ble_eq_true rfl, Nat.le_of_ble_eq_true rfl⟩ (Nat.le_of_ble_eq_true rfl) rfl hl.1 hP hD hS dX6_quiet_8 (fun H locs hP hD hS => ?_)
  replace hP : va_P D vwCl (wX6 G ad b (u.1, u.2.1, (u.2.2.1.1, r8, u.2.2.1.2.2), u.2.2.2.1, u.2.2.2.2)) H := hP
  replace hD : va_D A (wX6 G ad b (u.1, u.2.1, (u.2.2.1.1, r8, u.2.2.1.2.2), u.2.2.2.1, u.2.2.2.2)) := hD
  refine lv_aload_n hx hb dX6_quiet_11 rfl (lv_at hl 0 rfl) ?_
  refine va_get (D := D) (ci := 7) (v := .ref (ad (b + 25))) (C := RX6) (T := TX6) (N := 5) hx hb hW inlX6 hown hK hP 0 rfl rfl 2 (by decide) (hW _ wd_18) (fun _ h9 => h9) rfl dX6_quiet_12 ?_
  refine lv_aload_n hx hb dX6_quiet_15 rfl (lv_at hl 0 rfl) ?_
  refine va_get (D := D) (ci := 7) (v := .ref (ad (b + 1))) (C := RX6) (T := TX6) (N := 5) hx hb hW inlX6 hown hK hP 0 rfl rfl 0 (by decide) (hW _ wd_13) (fun _ h9 => h9) rfl dX6_quiet_16 ?_
  refine lv_iload_n hx hb dX6_quiet_19 rfl (lv_at hl 1 rfl) ?_
  replace hf := zb_s hf
  obtain ⟨r20, hr20, hf⟩ := hf
  refine z_Vi (rest := [.ref (ad (b + 25))]) C0 kX6_70 (c_X1_passQuietTicks l D G ad (b + 1) u.1 p1 r20 hr20) (pmX6_disk G ad (b) (u.1, u.2.1, (u.2.2.1.1, r8, u.2.2.1.2.2), u.2.2.2.1, u.2.2.2.2)) (pnX6_disk G ad (b) (u.1, u.2.1, (u.2.2.1.1, r8, u.2.2.1.2.2), u.2.2.2.1, u.2.2.2.2) r20.2) (ci := 2) (T := TX1) (N := 17) rfl rfl rfl ⟨Nat.le_of_ble_eq_true rfl, Nat.le_of_ble_eq_true rfl⟩ (Nat.le_of_ble_eq_true rfl) rfl hl.1 hP hD hS dX6_quiet_20 (fun H locs hP hD hS => ?_)
  replace hP : va_P D vwCl (wX6 G ad b (r20.2, u.2.1, (u.2.2.1.1, r8, u.2.2.1.2.2), u.2.2.2.1, u.2.2.2.2)) H := hP
  replace hD : va_D A (wX6 G ad b (r20.2, u.2.1, (u.2.2.1.1, r8, u.2.2.1.2.2), u.2.2.2.1, u.2.2.2.2)) := hD
  replace hf := zb_s hf
  obtain ⟨r23, hr23, hf⟩ := hf
  refine z_Vi (rest := []) C0 kX6_48 (c_X2_keep l D G ad (b + 25) (u.2.2.1.1, r8, u.2.2.1.2.2) r20.1 r23 hr23) (pmX6_history G ad (b) (r20.2, u.2.1, (u.2.2.1.1, r8, u.2.2.1.2.2), u.2.2.2.1, u.2.2.2.2)) (pnX6_history G ad (b) (r20.2, u.2.1, (u.2.2.1.1, r8, u.2.2.1.2.2), u.2.2.2.1, u.2.2.2.2) r23.2) (ci := 3) (T := TX2) (N := 2) rfl rfl rfl ⟨Nat.le_of_ble_eq_true rfl, Nat.le_of_ble_eq_true rfl⟩ (Nat.le_of_ble_eq_true rfl) rfl hl.1 hP hD hS dX6_quiet_23 (fun H locs hP hD hS => ?_)
  replace hP : va_P D vwCl (wX6 G ad b (r20.2, u.2.1, r23.2, u.2.2.2.1, u.2.2.2.2)) H := hP
  replace hD : va_D A (wX6 G ad b (r20.2, u.2.1, r23.2, u.2.2.2.1, u.2.2.2.2)) := hD
  obtain rfl := zo hf
  exact hret _ _ _ _ _ hP hD hS rfl dX6_quiet_26
theorem kX6_73 : zLkV RX6 73 yX1_dropCheck cX1_dropCheck 2 (some .int) 0 := ⟨⟨wd_315, wd_316, wd_317, wd_12, wd_318⟩, by decide +kernel⟩
noncomputable def q_X6_giveUp (u : tX6) : Option (Int32 × tX6) :=
  zb (q_X2_draft u.2.2.1 u.1) fun r8 => zb (q_X1_dropCheck u.1) fun r19 => zb (q_X2_keep (u.2.2.1.1, r8, u.2.2.1.2.2) r19.1) fun r22 => some (r22.1, ((u.1.1, u.1.2.1, u.1.2.2.1, u.1.2.2.2.1, u.1.2.2.2.2.1, u.1.2.2.2.2.2.1, u.1.2.2.2.2.2.2.1, u.1.2.2.2.2.2.2.2.1, u.1.2.2.2.2.2.2.2.2.1, r19.2.1, r19.2.2.1, r19.2.2.2, u.1.2.2.2.2.2.2.2.2.2.2.2.2.1, u.1.2.2.2.2.2.2.2.2.2.2.2.2.2.1, u.1.2.2.2.2.2.2.2.2.2.2.2.2.2.2.1, u.1.2.2.2.2.2.2.2.2.2.2.2.2.2.2.2.1, u.1.2.2.2.2.2.2.2.2.2.2.2.2.2.2.2.2), u.2.1, r22.2, u.2.2.2.1, u.2.2.2.2))
set_option maxRecDepth 100000 in
set_option maxHeartbeats 4000000 in
theorem c_X6_giveUp (l : Launch) (D : va_G) (G : zG) (ad : Nat → Nat) (b : Nat) (u : tX6) (res : Int32 × tX6) (hf : q_X6_giveUp u = some res) : zMi l yX6_giveUp cX6_giveUp 1 (some .int) 4 90 D G (wX6 G ad b u) (wX6 G ad b res.2) [.ref (ad b)] res.1 := by
  refine zs_i (plainFor_of_name (by decide)) (Nat.le_of_ble_eq_true rfl) ?_
  intro p e s m args below meth c A Q H ls C0 hret hP hD hS hl
  obtain ⟨hx, hb, hml, hown, hW, hK, hlocks, hF, hr, hA⟩ := id C0
  replace hl : lv_has ls 1 [(0, .ref (ad b))] := hl
  unfold q_X6_giveUp at hf
  refine lv_aload_n hx hb dX6_giveUp_0 rfl (lv_at hl 0 rfl) ?_
  refine va_get (D := D) (ci := 7) (v := .ref (ad (b + 25))) (C := RX6) (T := TX6) (N := 5) hx hb hW inlX6 hown hK hP 0 rfl rfl 2 (by decide) (hW _ wd_18) (fun _ h9 => h9) rfl dX6_giveUp_1 ?_
  refine lv_aload_n hx hb dX6_giveUp_4 rfl (lv_at hl 0 rfl) ?_
  refine va_get (D := D) (ci := 7) (v := .ref (ad (b + 1))) (C := RX6) (T := TX6) (N := 5) hx hb hW inlX6 hown hK hP 0 rfl rfl 0 (by decide) (hW _ wd_13) (fun _ h9 => h9) rfl dX6_giveUp_5 ?_
  replace hf := zb_s hf
  obtain ⟨r8, hr8, hf⟩ := hf
  refine z_Vv (rest := []) C0 kX6_40 (c_X2_draft l D G ad (b + 25) ad (b + 1) u.2.2.1 u.1 r8 hr8) (pmX6_history_disk G ad b u) (pnX6_history_disk G ad b u (u.2.2.1.1, r8, u.2.2.1.2.2) u.1) (ci := 3) (T := TX2) (N := 2) rfl rfl rfl ⟨Nat.le_of_ble_eq_true rfl, Nat.le_of_ble_eq_true rfl⟩ (Nat.le_of_ble_eq_true rfl) rfl hl.1 hP hD hS dX6_giveUp_8 (fun H locs hP hD hS => ?_)
  replace hP : va_P D vwCl (wX6 G ad b (u.1, u.2.1, (u.2.2.1.1, r8, u.2.2.1.2.2), u.2.2.2.1, u.2.2.2.2)) H := hP
  replace hD : va_D A (wX6 G ad b (u.1, u.2.1, (u.2.2.1.1, r8, u.2.2.1.2.2), u.2.2.2.1, u.2.2.2.2)) := hD
  refine lv_aload_n hx hb dX6_giveUp_11 rfl (lv_at hl 0 rfl) ?_
  refine va_get (D := D) (ci := 7) (v := .ref (ad (b + 25))) (C := RX6) (T := TX6) (N := 5) hx hb hW inlX6 hown hK hP 0 rfl rfl 2 (by decide) (hW _ wd_18) (fun _ h9 => h9) rfl dX6_giveUp_12 ?_
  refine lv_aload_n hx hb dX6_giveUp_15 rfl (lv_at hl 0 rfl) ?_
  refine va_get (D := D) (ci := 7) (v := .ref (ad (b + 1))) (C := RX6) (T := TX6) (N := 5) hx hb hW inlX6 hown hK hP 0 rfl rfl 0 (by decide) (hW _ wd_13) (fun _ h9 => h9) rfl dX6_giveUp_16 ?_
  replace hf := zb_s hf
  obtain ⟨r19, hr19, hf⟩ := hf
  refine z_Vi (rest := [.ref (ad (b + 25))]) C0 kX6_73 (c_X1_dropCheck l D G ad (b + 1) u.1 r19 hr19) (pmX6_disk G ad (b) (u.1, u.2.1, (u.2.2.1.1, r8, u.2.2.1.2.2), u.2.2.2.1, u.2.2.2.2)) (pnX6_disk G ad (b) (u.1, u.2.1, (u.2.2.1.1, r8, u.2.2.1.2.2), u.2.2.2.1, u.2.2.2.2) (u.1.1, u.1.2.1, u.1.2.2.1, u.1.2.2.2.1, u.1.2.2.2.2.1, u.1.2.2.2.2.2.1, u.1.2.2.2.2.2.2.1, u.1.2.2.2.2.2.2.2.1, u.1.2.2.2.2.2.2.2.2.1, r19.2.1, r19.2.2.1, r19.2.2.2, u.1.2.2.2.2.2.2.2.2.2.2.2.2.1, u.1.2.2.2.2.2.2.2.2.2.2.2.2.2.1, u.1.2.2.2.2.2.2.2.2.2.2.2.2.2.2.1, u.1.2.2.2.2.2.2.2.2.2.2.2.2.2.2.2.1, u.1.2.2.2.2.2.2.2.2.2.2.2.2.2.2.2.2)) (ci := 2) (T := TX1) (N := 17) rfl rfl rfl ⟨Nat.le_of_ble_eq_true rfl, Nat.le_of_ble_eq_true rfl⟩ (Nat.le_of_ble_eq_true rfl) rfl hl.1 hP hD hS dX6_giveUp_19 (fun H locs hP hD hS => ?_)
  replace hP : va_P D vwCl (wX6 G ad b ((u.1.1, u.1.2.1, u.1.2.2.1, u.1.2.2.2.1, u.1.2.2.2.2.1, u.1.2.2.2.2.2.1, u.1.2.2.2.2.2.2.1, u.1.2.2.2.2.2.2.2.1, u.1.2.2.2.2.2.2.2.2.1, r19.2.1, r19.2.2.1, r19.2.2.2, u.1.2.2.2.2.2.2.2.2.2.2.2.2.1, u.1.2.2.2.2.2.2.2.2.2.2.2.2.2.1, u.1.2.2.2.2.2.2.2.2.2.2.2.2.2.2.1, u.1.2.2.2.2.2.2.2.2.2.2.2.2.2.2.2.1, u.1.2.2.2.2.2.2.2.2.2.2.2.2.2.2.2.2), u.2.1, (u.2.2.1.1, r8, u.2.2.1.2.2), u.2.2.2.1, u.2.2.2.2)) H := hP
  replace hD : va_D A (wX6 G ad b ((u.1.1, u.1.2.1, u.1.2.2.1, u.1.2.2.2.1, u.1.2.2.2.2.1, u.1.2.2.2.2.2.1, u.1.2.2.2.2.2.2.1, u.1.2.2.2.2.2.2.2.1, u.1.2.2.2.2.2.2.2.2.1, r19.2.1, r19.2.2.1, r19.2.2.2, u.1.2.2.2.2.2.2.2.2.2.2.2.2.1, u.1.2.2.2.2.2.2.2.2.2.2.2.2.2.1, u.1.2.2.2.2.2.2.2.2.2.2.2.2.2.2.1, u.1.2.2.2.2.2.2.2.2.2.2.2.2.2.2.2.1, u.1.2.2.2.2.2.2.2.2.2.2.2.2.2.2.2.2), u.2.1, (u.2.2.1.1, r8, u.2.2.1.2.2), u.2.2.2.1, u.2.2.2.2)) := hD
  replace hf := zb_s hf
  obtain ⟨r22, hr22, hf⟩ := hf
  refine z_Vi (rest := []) C0 kX6_48 (c_X2_keep l D G ad (b + 25) (u.2.2.1.1, r8, u.2.2.1.2.2) r19.1 r22 hr22) (pmX6_history G ad (b) ((u.1.1, u.1.2.1, u.1.2.2.1, u.1.2.2.2.1, u.1.2.2.2.2.1, u.1.2.2.2.2.2.1, u.1.2.2.2.2.2.2.1, u.1.2.2.2.2.2.2.2.1, u.1.2.2.2.2.2.2.2.2.1, r19.2.1, r19.2.2.1, r19.2.2.2, u.1.2.2.2.2.2.2.2.2.2.2.2.2.1, u.1.2.2.2.2.2.2.2.2.2.2.2.2.2.1, u.1.2.2.2.2.2.2.2.2.2.2.2.2.2.2.1, u.1.2.2.2.2.2.2.2.2.2.2.2.2.2.2.2.1, u.1.2.2.2.2.2.2.2.2.2.2.2.2.2.2.2.2), u.2.1, (u.2.2.1.1, r8, u.2.2.1.2.2), u.2.2.2.1, u.2.2.2.2)) (pnX6_history G ad (b) ((u.1.1, u.1.2.1, u.1.2.2.1, u.1.2.2.2.1, u.1.2.2.2.2.1, u.1.2.2.2.2.2.1, u.1.2.2.2.2.2.2.1, u.1.2.2.2.2.2.2.2.1, u.1.2.2.2.2.2.2.2.2.1, r19.2.1, r19.2.2.1, r19.2.2.2, u.1.2.2.2.2.2.2.2.2.2.2.2.2.1, u.1.2.2.2.2.2.2.2.2.2.2.2.2.2.1, u.1.2.2.2.2.2.2.2.2.2.2.2.2.2.2.1, u.1.2.2.2.2.2.2.2.2.2.2.2.2.2.2.2.1, u.1.2.2.2.2.2.2.2.2.2.2.2.2.2.2.2.2), u.2.1, (u.2.2.1.1, r8, u.2.2.1.2.2), u.2.2.2.1, u.2.2.2.2) r22.2) (ci := 3) (T := TX2) (N := 2) rfl rfl rfl ⟨Nat.le_of_ble_eq_true rfl, Nat.le_of_ble_eq_true rfl⟩ (Nat.le_of_ble_eq_true rfl) rfl hl.1 hP hD hS dX6_giveUp_22 (fun H locs hP hD hS => ?_)
  replace hP : va_P D vwCl (wX6 G ad b ((u.1.1, u.1.2.1, u.1.2.2.1, u.1.2.2.2.1, u.1.2.2.2.2.1, u.1.2.2.2.2.2.1, u.1.2.2.2.2.2.2.1, u.1.2.2.2.2.2.2.2.1, u.1.2.2.2.2.2.2.2.2.1, r19.2.1, r19.2.2.1, r19.2.2.2, u.1.2.2.2.2.2.2.2.2.2.2.2.2.1, u.1.2.2.2.2.2.2.2.2.2.2.2.2.2.1, u.1.2.2.2.2.2.2.2.2.2.2.2.2.2.2.1, u.1.2.2.2.2.2.2.2.2.2.2.2.2.2.2.2.1, u.1.2.2.2.2.2.2.2.2.2.2.2.2.2.2.2.2), u.2.1, r22.2, u.2.2.2.1, u.2.2.2.2)) H := hP
  replace hD : va_D A (wX6 G ad b ((u.1.1, u.1.2.1, u.1.2.2.1, u.1.2.2.2.1, u.1.2.2.2.2.1, u.1.2.2.2.2.2.1, u.1.2.2.2.2.2.2.1, u.1.2.2.2.2.2.2.2.1, u.1.2.2.2.2.2.2.2.2.1, r19.2.1, r19.2.2.1, r19.2.2.2, u.1.2.2.2.2.2.2.2.2.2.2.2.2.1, u.1.2.2.2.2.2.2.2.2.2.2.2.2.2.1, u.1.2.2.2.2.2.2.2.2.2.2.2.2.2.2.1, u.1.2.2.2.2.2.2.2.2.2.2.2.2.2.2.2.1, u.1.2.2.2.2.2.2.2.2.2.2.2.2.2.2.2.2), u.2.1, r22.2, u.2.2.2.1, u.2.2.2.2)) := hD
  obtain rfl := zo hf
  exact hret _ _ _ _ _ hP hD hS rfl dX6_giveUp_25
theorem kX6_77 : zLkV RX6 77 yX1_numberOfDisk cX1_numberOfDisk 2 (some .int) 1 := ⟨⟨wd_352, wd_353, wd_354, wd_12, wd_355⟩, by decide +kernel⟩
noncomputable def q_X6_count (u : tX6) (p1 : Int32) : Option (Int32) :=
  (if p1 < 0 then some ((-2)) else (if p1 < 13 then zb (q_X1_numberOfDisk u.1 p1) fun r18 => some (r18) else some ((-2))))
set_option maxRecDepth 100000 in
set_option maxHeartbeats 4000000 in
theorem c_X6_count (l : Launch) (D : va_G) (G : zG) (ad : Nat → Nat) (b : Nat) (u : tX6) (p1 : Int32) (res : Int32) (hf : q_X6_count u p1 = some res) : zMi l yX6_count cX6_count 2 (some .int) 1 21 D G (wX6 G ad b u) (wX6 G ad b u) [.ref (ad b), .int p1] res := by
  refine zs_i (plainFor_of_name (by decide)) (Nat.le_of_ble_eq_true rfl) ?_
  intro p e s m args below meth c A Q H ls C0 hret hP hD hS hl
  obtain ⟨hx, hb, hml, hown, hW, hK, hlocks, hF, hr, hA⟩ := id C0
  replace hl : lv_has ls 2 [(0, .ref (ad b)), (1, .int p1)] := hl
  unfold q_X6_count at hf
  refine lv_iload_n hx hb dX6_count_0 rfl (lv_at hl 1 rfl) ?_
  refine lv_if_lt (tgt := 10) hx hb dX6_count_1 (by decide) (fun c1 => ?_) (fun c1 => ?_)
  · replace hf := zi_p hf c1
    refine lv_bipush (v := (-2)) hx hb dX6_count_10 (by decide) ?_
    obtain rfl := zo hf
    exact hret _ _ _ _ _ hP hD hS rfl dX6_count_12
  · replace hf := zi_n hf c1
    refine lv_iload_n hx hb dX6_count_4 rfl (lv_at hl 1 rfl) ?_
    refine lv_bipush (v := 13) hx hb dX6_count_5 (by decide) ?_
    refine lv_icmp_lt (tgt := 13) hx hb dX6_count_7 (by decide) (fun c7 => ?_) (fun c7 => ?_)
    · replace hf := zi_p hf c7
      refine lv_aload_n hx hb dX6_count_13 rfl (lv_at hl 0 rfl) ?_
      refine va_get (D := D) (ci := 7) (v := .ref (ad (b + 1))) (C := RX6) (T := TX6) (N := 5) hx hb hW inlX6 hown hK hP 0 rfl rfl 0 (by decide) (hW _ wd_13) (fun _ h9 => h9) rfl dX6_count_14 ?_
      refine lv_iload_n hx hb dX6_count_17 rfl (lv_at hl 1 rfl) ?_
      replace hf := zb_s hf
      obtain ⟨r18, hr18, hf⟩ := hf
      refine z_Vi (rest := []) C0 kX6_77 (c_X1_numberOfDisk l D G ad (b + 1) u.1 p1 r18 hr18) (pmX6_disk G ad (b) u) ((pmX6_disk G ad (b) u)).symm (ci := 2) (T := TX1) (N := 17) rfl rfl rfl ⟨Nat.le_of_ble_eq_true rfl, Nat.le_of_ble_eq_true rfl⟩ (Nat.le_of_ble_eq_true rfl) rfl hl.1 hP hD hS dX6_count_18 (fun H locs hP hD hS => ?_)
      obtain rfl := zo hf
      exact hret _ _ _ _ _ hP hD hS rfl dX6_count_21
    · replace hf := zi_n hf c7
      refine lv_bipush (v := (-2)) hx hb dX6_count_10 (by decide) ?_
      obtain rfl := zo hf
      exact hret _ _ _ _ _ hP hD hS rfl dX6_count_12
theorem kX6_80 : zLkS RX6 80 yX6_isSetting cX6_isSetting 1 (some .boolean) 1 := ⟨⟨wd_360, wd_343, wd_2, wd_344⟩, by decide +kernel⟩
noncomputable def q_X6_setting (u : tX6) (p1 : Int32) : Option (Int32) :=
  zb (q_X6_isSetting p1) fun r1 => (if r1 = 0 then some ((-1)) else zg 5 u.1.1 p1 fun a17 => some (a17))
set_option maxRecDepth 100000 in
set_option maxHeartbeats 4000000 in
theorem c_X6_setting (l : Launch) (D : va_G) (G : zG) (ad : Nat → Nat) (b : Nat) (u : tX6) (p1 : Int32) (res : Int32) (hf : q_X6_setting u p1 = some res) : zMi l yX6_setting cX6_setting 2 (some .int) 1 20 D G (wX6 G ad b u) (wX6 G ad b u) [.ref (ad b), .int p1] res := by
  refine zs_i (plainFor_of_name (by decide)) (Nat.le_of_ble_eq_true rfl) ?_
  intro p e s m args below meth c A Q H ls C0 hret hP hD hS hl
  obtain ⟨hx, hb, hml, hown, hW, hK, hlocks, hF, hr, hA⟩ := id C0
  replace hl : lv_has ls 2 [(0, .ref (ad b)), (1, .int p1)] := hl
  unfold q_X6_setting at hf
  refine lv_iload_n hx hb dX6_setting_0 rfl (lv_at hl 1 rfl) ?_
  replace hf := zb_s hf
  obtain ⟨r1, hr1, hf⟩ := hf
  refine z_Si (rest := []) C0 kX6_80 (c_X6_isSetting l D G p1 r1 hr1) (List.Perm.refl _) (List.Perm.refl _) rfl ⟨Nat.le_of_ble_eq_true rfl, Nat.le_of_ble_eq_true rfl⟩ (Nat.le_of_ble_eq_true rfl) rfl hl.1 hP hD hS dX6_setting_1 (fun H locs hP hD hS => ?_)
  refine lv_if_ne (tgt := 9) hx hb dX6_setting_4 (by decide) (fun c4 => ?_) (fun c4 => ?_)
  · replace hf := zi_n hf c4
    refine lv_aload_n hx hb dX6_setting_9 rfl (lv_at hl 0 rfl) ?_
    refine va_get (D := D) (ci := 7) (v := .ref (ad (b + 1))) (C := RX6) (T := TX6) (N := 5) hx hb hW inlX6 hown hK hP 0 rfl rfl 0 (by decide) (hW _ wd_13) (fun _ h9 => h9) rfl dX6_setting_10 ?_
    refine va_getN (host := "QuietChecks") (D := D) (ci := 2) (v := .ref (ad (b + 2))) (C := RX1) (T := TX1) (N := 17) hx hb hW inlX1 hown hK hP 1 rfl rfl 0 (by decide) (va_Nw.use rfl (hF.1 _ (by decide +kernel : Cond.fieldLinkNest "QuietChecks" 84 "QuietChecks$Disk" "settings" "[I" "QuietChecks" ∈ zNest))) (fun _ h9 => h9) rfl dX6_setting_13 ?_
    refine lv_iload_n hx hb dX6_setting_16 rfl (lv_at hl 1 rfl) ?_
    replace hf := zg_s hf
    obtain ⟨hi17, a17, ea17, hf⟩ := hf
    refine z_iald hx hb hK hP 2 0 rfl rfl hi17 ea17 dX6_setting_17 ?_
    obtain rfl := zo hf
    exact hret _ _ _ _ _ hP hD hS rfl dX6_setting_18
  · replace hf := zi_p hf c4
    refine lv_iconst (v := (-1)) hx hb dX6_setting_7 (by decide) ?_
    obtain rfl := zo hf
    exact hret _ _ _ _ _ hP hD hS rfl dX6_setting_8
theorem kX6_88 : zLkS RX6 88 yX6_isSpan cX6_isSpan 1 (some .boolean) 1 := ⟨⟨wd_365, wd_165, wd_2, wd_166⟩, by decide +kernel⟩
theorem kX6_91 : zLkV RX6 91 yX1_numberOfSpan cX1_numberOfSpan 3 (some .int) 2 := ⟨⟨wd_374, wd_375, wd_376, wd_12, wd_377⟩, by decide +kernel⟩
noncomputable def q_X6_span (u : tX6) (p1 : Int32) (p2 : Int32) : Option (Int32) :=
  zb (q_X6_isSpan p1) fun r1 => (if r1 = 0 then some ((-1)) else (if p2 < 0 then some ((-2)) else (if p2 < 7 then zb (q_X1_numberOfSpan u.1 p1 p2) fun r28 => some (r28) else some ((-2)))))
set_option maxRecDepth 100000 in
set_option maxHeartbeats 4000000 in
theorem c_X6_span (l : Launch) (D : va_G) (G : zG) (ad : Nat → Nat) (b : Nat) (u : tX6) (p1 : Int32) (p2 : Int32) (res : Int32) (hf : q_X6_span u p1 p2 = some res) : zMi l yX6_span cX6_span 3 (some .int) 4 99 D G (wX6 G ad b u) (wX6 G ad b u) [.ref (ad b), .int p1, .int p2] res := by
  refine zs_i (plainFor_of_name (by decide)) (Nat.le_of_ble_eq_true rfl) ?_
  intro p e s m args below meth c A Q H ls C0 hret hP hD hS hl
  obtain ⟨hx, hb, hml, hown, hW, hK, hlocks, hF, hr, hA⟩ := id C0
  replace hl : lv_has ls 3 [(0, .ref (ad b)), (1, .int p1), (2, .int p2)] := hl
  unfold q_X6_span at hf
  refine lv_iload_n hx hb dX6_span_0 rfl (lv_at hl 1 rfl) ?_
  replace hf := zb_s hf
  obtain ⟨r1, hr1, hf⟩ := hf
  refine z_Si (rest := []) C0 kX6_88 (c_X6_isSpan l D G p1 r1 hr1) (List.Perm.refl _) (List.Perm.refl _) rfl ⟨Nat.le_of_ble_eq_true rfl, Nat.le_of_ble_eq_true rfl⟩ (Nat.le_of_ble_eq_true rfl) rfl hl.1 hP hD hS dX6_span_1 (fun H locs hP hD hS => ?_)
  refine lv_if_ne (tgt := 9) hx hb dX6_span_4 (by decide) (fun c4 => ?_) (fun c4 => ?_)
  · replace hf := zi_n hf c4
    refine lv_iload_n hx hb dX6_span_9 rfl (lv_at hl 2 rfl) ?_
    refine lv_if_lt (tgt := 19) hx hb dX6_span_10 (by decide) (fun c10 => ?_) (fun c10 => ?_)
    · replace hf := zi_p hf c10
      refine lv_bipush (v := (-2)) hx hb dX6_span_19 (by decide) ?_
      obtain rfl := zo hf
      exact hret _ _ _ _ _ hP hD hS rfl dX6_span_21
    · replace hf := zi_n hf c10
      refine lv_iload_n hx hb dX6_span_13 rfl (lv_at hl 2 rfl) ?_
      refine lv_bipush (v := 7) hx hb dX6_span_14 (by decide) ?_
      refine lv_icmp_lt (tgt := 22) hx hb dX6_span_16 (by decide) (fun c16 => ?_) (fun c16 => ?_)
      · replace hf := zi_p hf c16
        refine lv_aload_n hx hb dX6_span_22 rfl (lv_at hl 0 rfl) ?_
        refine va_get (D := D) (ci := 7) (v := .ref (ad (b + 1))) (C := RX6) (T := TX6) (N := 5) hx hb hW inlX6 hown hK hP 0 rfl rfl 0 (by decide) (hW _ wd_13) (fun _ h9 => h9) rfl dX6_span_23 ?_
        refine lv_iload_n hx hb dX6_span_26 rfl (lv_at hl 1 rfl) ?_
        refine lv_iload_n hx hb dX6_span_27 rfl (lv_at hl 2 rfl) ?_
        replace hf := zb_s hf
        obtain ⟨r28, hr28, hf⟩ := hf
        refine z_Vi (rest := []) C0 kX6_91 (c_X1_numberOfSpan l D G ad (b + 1) u.1 p1 p2 r28 hr28) (pmX6_disk G ad (b) u) ((pmX6_disk G ad (b) u)).symm (ci := 2) (T := TX1) (N := 17) rfl rfl rfl ⟨Nat.le_of_ble_eq_true rfl, Nat.le_of_ble_eq_true rfl⟩ (Nat.le_of_ble_eq_true rfl) rfl hl.1 hP hD hS dX6_span_28 (fun H locs hP hD hS => ?_)
        obtain rfl := zo hf
        exact hret _ _ _ _ _ hP hD hS rfl dX6_span_31
      · replace hf := zi_n hf c16
        refine lv_bipush (v := (-2)) hx hb dX6_span_19 (by decide) ?_
        obtain rfl := zo hf
        exact hret _ _ _ _ _ hP hD hS rfl dX6_span_21
  · replace hf := zi_p hf c4
    refine lv_iconst (v := (-1)) hx hb dX6_span_7 (by decide) ?_
    obtain rfl := zo hf
    exact hret _ _ _ _ _ hP hD hS rfl dX6_span_8
theorem kX6_98 : zLkV RX6 98 yX5_triesAt cX5_triesAt 5 (some .int) 2 := ⟨⟨wd_366, wd_367, wd_368, wd_35, wd_369⟩, by decide +kernel⟩
noncomputable def q_X6_tries (u : tX6) (p1 : Int32) (p2 : Int32) : Option (Int32) :=
  zb (q_X6_isSpan p1) fun r1 => (if r1 = 0 then some ((-1)) else zb (q_X5_triesAt u.1.2.2.1 p1 p2) fun r18 => some (r18))
set_option maxRecDepth 100000 in
set_option maxHeartbeats 4000000 in
theorem c_X6_tries (l : Launch) (D : va_G) (G : zG) (ad : Nat → Nat) (b : Nat) (u : tX6) (p1 : Int32) (p2 : Int32) (res : Int32) (hf : q_X6_tries u p1 p2 = some res) : zMi l yX6_tries cX6_tries 3 (some .int) 1 24 D G (wX6 G ad b u) (wX6 G ad b u) [.ref (ad b), .int p1, .int p2] res := by
  refine zs_i (plainFor_of_name (by decide)) (Nat.le_of_ble_eq_true rfl) ?_
  intro p e s m args below meth c A Q H ls C0 hret hP hD hS hl
  obtain ⟨hx, hb, hml, hown, hW, hK, hlocks, hF, hr, hA⟩ := id C0
  replace hl : lv_has ls 3 [(0, .ref (ad b)), (1, .int p1), (2, .int p2)] := hl
  unfold q_X6_tries at hf
  refine lv_iload_n hx hb dX6_tries_0 rfl (lv_at hl 1 rfl) ?_
  replace hf := zb_s hf
  obtain ⟨r1, hr1, hf⟩ := hf
  refine z_Si (rest := []) C0 kX6_88 (c_X6_isSpan l D G p1 r1 hr1) (List.Perm.refl _) (List.Perm.refl _) rfl ⟨Nat.le_of_ble_eq_true rfl, Nat.le_of_ble_eq_true rfl⟩ (Nat.le_of_ble_eq_true rfl) rfl hl.1 hP hD hS dX6_tries_1 (fun H locs hP hD hS => ?_)
  refine lv_if_ne (tgt := 9) hx hb dX6_tries_4 (by decide) (fun c4 => ?_) (fun c4 => ?_)
  · replace hf := zi_n hf c4
    refine lv_aload_n hx hb dX6_tries_9 rfl (lv_at hl 0 rfl) ?_
    refine va_get (D := D) (ci := 7) (v := .ref (ad (b + 1))) (C := RX6) (T := TX6) (N := 5) hx hb hW inlX6 hown hK hP 0 rfl rfl 0 (by decide) (hW _ wd_13) (fun _ h9 => h9) rfl dX6_tries_10 ?_
    refine va_getN (host := "QuietChecks") (D := D) (ci := 2) (v := .ref (ad (b + 4))) (C := RX1) (T := TX1) (N := 17) hx hb hW inlX1 hown hK hP 1 rfl rfl 2 (by decide) (va_Nw.use rfl (hF.1 _ (by decide +kernel : Cond.fieldLinkNest "QuietChecks" 94 "QuietChecks$Disk" "spots" "LQuietChecks$Spots;" "QuietChecks" ∈ zNest))) (fun _ h9 => h9) rfl dX6_tries_13 ?_
    refine lv_iload_n hx hb dX6_tries_16 rfl (lv_at hl 1 rfl) ?_
    refine lv_iload_n hx hb dX6_tries_17 rfl (lv_at hl 2 rfl) ?_
    replace hf := zb_s hf
    obtain ⟨r18, hr18, hf⟩ := hf
    refine z_Vi (rest := []) C0 kX6_98 (c_X5_triesAt l D G ad (b + 4) u.1.2.2.1 p1 p2 r18 hr18) (z_pcomp (pmX6_disk G ad (b) u) (pmX1_spots G ad (b + 1) u.1)) ((z_pcomp (pmX6_disk G ad (b) u) (pmX1_spots G ad (b + 1) u.1))).symm (ci := 6) (T := TX5) (N := 3) rfl rfl rfl ⟨Nat.le_of_ble_eq_true rfl, Nat.le_of_ble_eq_true rfl⟩ (Nat.le_of_ble_eq_true rfl) rfl hl.1 hP hD hS dX6_tries_18 (fun H locs hP hD hS => ?_)
    obtain rfl := zo hf
    exact hret _ _ _ _ _ hP hD hS rfl dX6_tries_21
  · replace hf := zi_p hf c4
    refine lv_iconst (v := (-1)) hx hb dX6_tries_7 (by decide) ?_
    obtain rfl := zo hf
    exact hret _ _ _ _ _ hP hD hS rfl dX6_tries_8
noncomputable def q_X6_entries (u : tX6) : Option (Int32) :=
  some (u.1.2.2.2.2.1.2.2.2.2)
set_option maxRecDepth 100000 in
set_option maxHeartbeats 4000000 in
theorem c_X6_entries (l : Launch) (D : va_G) (G : zG) (ad : Nat → Nat) (b : Nat) (u : tX6) (res : Int32) (hf : q_X6_entries u = some res) : zMi l yX6_entries cX6_entries 1 (some .int) 0 0 D G (wX6 G ad b u) (wX6 G ad b u) [.ref (ad b)] res := by
  refine zs_i (plainFor_of_name (by decide)) (Nat.le_of_ble_eq_true rfl) ?_
  intro p e s m args below meth c A Q H ls C0 hret hP hD hS hl
  obtain ⟨hx, hb, hml, hown, hW, hK, hlocks, hF, hr, hA⟩ := id C0
  replace hl : lv_has ls 1 [(0, .ref (ad b))] := hl
  unfold q_X6_entries at hf
  refine lv_aload_n hx hb dX6_entries_0 rfl (lv_at hl 0 rfl) ?_
  refine va_get (D := D) (ci := 7) (v := .ref (ad (b + 1))) (C := RX6) (T := TX6) (N := 5) hx hb hW inlX6 hown hK hP 0 rfl rfl 0 (by decide) (hW _ wd_13) (fun _ h9 => h9) rfl dX6_entries_1 ?_
  refine va_getN (host := "QuietChecks") (D := D) (ci := 2) (v := .ref (ad (b + 9))) (C := RX1) (T := TX1) (N := 17) hx hb hW inlX1 hown hK hP 1 rfl rfl 4 (by decide) (va_Nw.use rfl (hF.1 _ (by decide +kernel : Cond.fieldLinkNest "QuietChecks" 103 "QuietChecks$Disk" "log" "LQuietChecks$Log;" "QuietChecks" ∈ zNest))) (fun _ h9 => h9) rfl dX6_entries_4 ?_
  refine va_getN (host := "QuietChecks") (D := D) (ci := 4) (v := .int u.1.2.2.2.2.1.2.2.2.2) (C := RX3) (T := TX3) (N := 5) hx hb hW inlX3 hown hK hP 9 rfl rfl 4 (by decide) (va_Nw.use rfl (hF.1 _ (by decide +kernel : Cond.fieldLinkNest "QuietChecks" 107 "QuietChecks$Log" "size" "I" "QuietChecks" ∈ zNest))) (fun _ h9 => h9) rfl dX6_entries_7 ?_
  obtain rfl := zo hf
  exact hret _ _ _ _ _ hP hD hS rfl dX6_entries_10
theorem kX6_113 : zLkV RX6 113 yX3_has cX3_has 2 (some .boolean) 1 := ⟨⟨wd_406, wd_407, wd_408, wd_43, wd_409⟩, by decide +kernel⟩
theorem kX6_125 : zLkV RX6 125 yX6_writeLine cX6_writeLine 2 none 1 := ⟨⟨wd_430, wd_431, wd_432, wd_2, wd_433⟩, by decide +kernel⟩
theorem kX6_129 : zLkV RX6 129 yJ4_length_8abf5 cJ4_length_8abf5 1 (some .int) 0 := ⟨⟨wd_632, wd_633, wd_634, wd_25, wd_635⟩, by decide +kernel⟩
noncomputable def q_X6_entry (u : tX6) (p1 : Int32) (p2 : Int32) : Option (Int32 × tJ4) :=
  zb (q_X3_has u.1.2.2.2.2.1 p1) fun r8 => (if r8 = 0 then some ((-1), u.2.2.2.2) else (if p2 < 0 then some ((-2), u.2.2.2.2) else (if p2 < 4 then (if p2 = 0 then zb (q_X3_tickAt u.1.2.2.2.2.1 p1) fun r64 => some (r64, u.2.2.2.2) else if p2 = 1 then zb (q_X3_kindAt u.1.2.2.2.2.1 p1) fun r76 => some (r76, u.2.2.2.2) else if p2 = 2 then zb (q_X3_spanAt u.1.2.2.2.2.1 p1) fun r88 => some (r88, u.2.2.2.2) else zb (q_X6_writeLine u p1) fun r94 => zb (q_J4_length_8abf5 r94) fun r101 => some (r101, r94)) else some ((-2), u.2.2.2.2))))
set_option maxRecDepth 100000 in
set_option maxHeartbeats 4000000 in
theorem c_X6_entry (l : Launch) (D : va_G) (G : zG) (ad : Nat → Nat) (b : Nat) (u : tX6) (p1 : Int32) (p2 : Int32) (res : Int32 × tJ4) (hf : q_X6_entry u p1 p2 = some res) : zMi l yX6_entry cX6_entry 3 (some .int) 6 135 D G (wX6 G ad b u) (wX6 G ad b (u.1, u.2.1, u.2.2.1, u.2.2.2.1, res.2)) [.ref (ad b), .int p1, .int p2] res.1 := by
  refine zs_i (plainFor_of_name (by decide)) (Nat.le_of_ble_eq_true rfl) ?_
  intro p e s m args below meth c A Q H ls C0 hret hP hD hS hl
  obtain ⟨hx, hb, hml, hown, hW, hK, hlocks, hF, hr, hA⟩ := id C0
  replace hl : lv_has ls 3 [(0, .ref (ad b)), (1, .int p1), (2, .int p2)] := hl
  unfold q_X6_entry at hf
  refine lv_aload_n hx hb dX6_entry_0 rfl (lv_at hl 0 rfl) ?_
  refine va_get (D := D) (ci := 7) (v := .ref (ad (b + 1))) (C := RX6) (T := TX6) (N := 5) hx hb hW inlX6 hown hK hP 0 rfl rfl 0 (by decide) (hW _ wd_13) (fun _ h9 => h9) rfl dX6_entry_1 ?_
  refine va_getN (host := "QuietChecks") (D := D) (ci := 2) (v := .ref (ad (b + 9))) (C := RX1) (T := TX1) (N := 17) hx hb hW inlX1 hown hK hP 1 rfl rfl 4 (by decide) (va_Nw.use rfl (hF.1 _ (by decide +kernel : Cond.fieldLinkNest "QuietChecks" 103 "QuietChecks$Disk" "log" "LQuietChecks$Log;" "QuietChecks" ∈ zNest))) (fun _ h9 => h9) rfl dX6_entry_4 ?_
  refine lv_iload_n hx hb dX6_entry_7 rfl (lv_at hl 1 rfl) ?_
  replace hf := zb_s hf
  obtain ⟨r8, hr8, hf⟩ := hf
  refine z_Vi (rest := []) C0 kX6_113 (c_X3_has l D G ad (b + 9) u.1.2.2.2.2.1 p1 r8 hr8) (z_pcomp (pmX6_disk G ad (b) u) (pmX1_log G ad (b + 1) u.1)) ((z_pcomp (pmX6_disk G ad (b) u) (pmX1_log G ad (b + 1) u.1))).symm (ci := 4) (T := TX3) (N := 5) rfl rfl rfl ⟨Nat.le_of_ble_eq_true rfl, Nat.le_of_ble_eq_true rfl⟩ (Nat.le_of_ble_eq_true rfl) rfl hl.1 hP hD hS dX6_entry_8 (fun H locs hP hD hS => ?_)
  refine lv_if_ne (tgt := 16) hx hb dX6_entry_11 (by decide) (fun c11 => ?_) (fun c11 => ?_)
  · replace hf := zi_n hf c11
    refine lv_iload_n hx hb dX6_entry_16 rfl (lv_at hl 2 rfl) ?_
    refine lv_if_lt (tgt := 25) hx hb dX6_entry_17 (by decide) (fun c17 => ?_) (fun c17 => ?_)
    · replace hf := zi_p hf c17
      refine lv_bipush (v := (-2)) hx hb dX6_entry_25 (by decide) ?_
      obtain rfl := zo hf
      exact hret _ _ _ _ _ hP hD hS rfl dX6_entry_27
    · replace hf := zi_n hf c17
      refine lv_iload_n hx hb dX6_entry_20 rfl (lv_at hl 2 rfl) ?_
      refine lv_iconst (v := 4) hx hb dX6_entry_21 (by decide) ?_
      refine lv_icmp_lt (tgt := 28) hx hb dX6_entry_22 (by decide) (fun c22 => ?_) (fun c22 => ?_)
      · replace hf := zi_p hf c22
        refine lv_iload_n hx hb dX6_entry_28 rfl (lv_at hl 2 rfl) ?_
        refine z_by (c := p2 = 0) (fun c29_0 => ?_) (fun n29_0 => ?_)
        · replace hf := zi_p hf c29_0
          refine lv_tableIn (off := 27) (tgt := 56) hx hb dX6_entry_29 (by rw [c29_0]; decide) (by rw [c29_0]; decide) (by rw [c29_0]; decide) (by decide) ?_
          refine lv_aload_n hx hb dX6_entry_56 rfl (lv_at hl 0 rfl) ?_
          refine va_get (D := D) (ci := 7) (v := .ref (ad (b + 1))) (C := RX6) (T := TX6) (N := 5) hx hb hW inlX6 hown hK hP 0 rfl rfl 0 (by decide) (hW _ wd_13) (fun _ h9 => h9) rfl dX6_entry_57 ?_
          refine va_getN (host := "QuietChecks") (D := D) (ci := 2) (v := .ref (ad (b + 9))) (C := RX1) (T := TX1) (N := 17) hx hb hW inlX1 hown hK hP 1 rfl rfl 4 (by decide) (va_Nw.use rfl (hF.1 _ (by decide +kernel : Cond.fieldLinkNest "QuietChecks" 103 "QuietChecks$Disk" "log" "LQuietChecks$Log;" "QuietChecks" ∈ zNest))) (fun _ h9 => h9) rfl dX6_entry_60 ?_
          refine lv_iload_n hx hb dX6_entry_63 rfl (lv_at hl 1 rfl) ?_
          replace hf := zb_s hf
          obtain ⟨r64, hr64, hf⟩ := hf
          refine z_Vi (rest := []) C0 kX6_116 (c_X3_tickAt l D G ad (b + 9) u.1.2.2.2.2.1 p1 r64 hr64) (z_pcomp (pmX6_disk G ad (b) u) (pmX1_log G ad (b + 1) u.1)) ((z_pcomp (pmX6_disk G ad (b) u) (pmX1_log G ad (b + 1) u.1))).symm (ci := 4) (T := TX3) (N := 5) rfl rfl rfl ⟨Nat.le_of_ble_eq_true rfl, Nat.le_of_ble_eq_true rfl⟩ (Nat.le_of_ble_eq_true rfl) rfl hl.1 hP hD hS dX6_entry_64 (fun H locs hP hD hS => ?_)
          obtain rfl := zo hf
          exact hret _ _ _ _ _ hP hD hS rfl dX6_entry_67
        · replace hf := zi_n hf n29_0
          refine z_by (c := p2 = 1) (fun c29_1 => ?_) (fun n29_1 => ?_)
          · replace hf := zi_p hf c29_1
            refine lv_tableIn (off := 39) (tgt := 68) hx hb dX6_entry_29 (by rw [c29_1]; decide) (by rw [c29_1]; decide) (by rw [c29_1]; decide) (by decide) ?_
            refine lv_aload_n hx hb dX6_entry_68 rfl (lv_at hl 0 rfl) ?_
            refine va_get (D := D) (ci := 7) (v := .ref (ad (b + 1))) (C := RX6) (T := TX6) (N := 5) hx hb hW inlX6 hown hK hP 0 rfl rfl 0 (by decide) (hW _ wd_13) (fun _ h9 => h9) rfl dX6_entry_69 ?_
            refine va_getN (host := "QuietChecks") (D := D) (ci := 2) (v := .ref (ad (b + 9))) (C := RX1) (T := TX1) (N := 17) hx hb hW inlX1 hown hK hP 1 rfl rfl 4 (by decide) (va_Nw.use rfl (hF.1 _ (by decide +kernel : Cond.fieldLinkNest "QuietChecks" 103 "QuietChecks$Disk" "log" "LQuietChecks$Log;" "QuietChecks" ∈ zNest))) (fun _ h9 => h9) rfl dX6_entry_72 ?_
            refine lv_iload_n hx hb dX6_entry_75 rfl (lv_at hl 1 rfl) ?_
            replace hf := zb_s hf
            obtain ⟨r76, hr76, hf⟩ := hf
            refine z_Vi (rest := []) C0 kX6_119 (c_X3_kindAt l D G ad (b + 9) u.1.2.2.2.2.1 p1 r76 hr76) (z_pcomp (pmX6_disk G ad (b) u) (pmX1_log G ad (b + 1) u.1)) ((z_pcomp (pmX6_disk G ad (b) u) (pmX1_log G ad (b + 1) u.1))).symm (ci := 4) (T := TX3) (N := 5) rfl rfl rfl ⟨Nat.le_of_ble_eq_true rfl, Nat.le_of_ble_eq_true rfl⟩ (Nat.le_of_ble_eq_true rfl) rfl hl.1 hP hD hS dX6_entry_76 (fun H locs hP hD hS => ?_)
            obtain rfl := zo hf
            exact hret _ _ _ _ _ hP hD hS rfl dX6_entry_79
          · replace hf := zi_n hf n29_1
            refine z_by (c := p2 = 2) (fun c29_2 => ?_) (fun n29_2 => ?_)
            · replace hf := zi_p hf c29_2
              refine lv_tableIn (off := 51) (tgt := 80) hx hb dX6_entry_29 (by rw [c29_2]; decide) (by rw [c29_2]; decide) (by rw [c29_2]; decide) (by decide) ?_
              refine lv_aload_n hx hb dX6_entry_80 rfl (lv_at hl 0 rfl) ?_
              refine va_get (D := D) (ci := 7) (v := .ref (ad (b + 1))) (C := RX6) (T := TX6) (N := 5) hx hb hW inlX6 hown hK hP 0 rfl rfl 0 (by decide) (hW _ wd_13) (fun _ h9 => h9) rfl dX6_entry_81 ?_
              refine va_getN (host := "QuietChecks") (D := D) (ci := 2) (v := .ref (ad (b + 9))) (C := RX1) (T := TX1) (N := 17) hx hb hW inlX1 hown hK hP 1 rfl rfl 4 (by decide) (va_Nw.use rfl (hF.1 _ (by decide +kernel : Cond.fieldLinkNest "QuietChecks" 103 "QuietChecks$Disk" "log" "LQuietChecks$Log;" "QuietChecks" ∈ zNest))) (fun _ h9 => h9) rfl dX6_entry_84 ?_
              refine lv_iload_n hx hb dX6_entry_87 rfl (lv_at hl 1 rfl) ?_
              replace hf := zb_s hf
              obtain ⟨r88, hr88, hf⟩ := hf
              refine z_Vi (rest := []) C0 kX6_122 (c_X3_spanAt l D G ad (b + 9) u.1.2.2.2.2.1 p1 r88 hr88) (z_pcomp (pmX6_disk G ad (b) u) (pmX1_log G ad (b + 1) u.1)) ((z_pcomp (pmX6_disk G ad (b) u) (pmX1_log G ad (b + 1) u.1))).symm (ci := 4) (T := TX3) (N := 5) rfl rfl rfl ⟨Nat.le_of_ble_eq_true rfl, Nat.le_of_ble_eq_true rfl⟩ (Nat.le_of_ble_eq_true rfl) rfl hl.1 hP hD hS dX6_entry_88 (fun H locs hP hD hS => ?_)
              obtain rfl := zo hf
              exact hret _ _ _ _ _ hP hD hS rfl dX6_entry_91
            · replace hf := zi_n hf n29_2
              refine lv_tableOut (tgt := 92) hx hb dX6_entry_29 (by have h0 := lv_neT (a := 0) n29_0 (by decide); have h1 := lv_neT (a := 1) n29_1 (by decide); have h2 := lv_neT (a := 2) n29_2 (by decide); omega) (by decide) ?_
              refine lv_aload_n hx hb dX6_entry_92 rfl (lv_at hl 0 rfl) ?_
              refine lv_iload_n hx hb dX6_entry_93 rfl (lv_at hl 1 rfl) ?_
              replace hf := zb_s hf
              obtain ⟨r94, hr94, hf⟩ := hf
              refine z_Vv (rest := []) C0 kX6_125 (c_X6_writeLine l D G ad (b) u p1 r94 hr94) z_pall z_pall.symm (ci := 7) (T := TX6) (N := 5) rfl rfl rfl ⟨Nat.le_of_ble_eq_true rfl, Nat.le_of_ble_eq_true rfl⟩ (Nat.le_of_ble_eq_true rfl) rfl hl.1 hP hD hS dX6_entry_94 (fun H locs hP hD hS => ?_)
              replace hP : va_P D vwCl (wX6 G ad b (u.1, u.2.1, u.2.2.1, u.2.2.2.1, r94)) H := hP
              replace hD : va_D A (wX6 G ad b (u.1, u.2.1, u.2.2.1, u.2.2.2.1, r94)) := hD
              refine lv_aload_n hx hb dX6_entry_97 rfl (lv_at hl 0 rfl) ?_
              refine va_get (D := D) (ci := 7) (v := .ref (ad (b + 116))) (C := RX6) (T := TX6) (N := 5) hx hb hW inlX6 hown hK hP 0 rfl rfl 4 (by decide) (hW _ wd_26) (fun _ h9 => h9) rfl dX6_entry_98 ?_
              replace hf := zb_s hf
              obtain ⟨r101, hr101, hf⟩ := hf
              refine z_Vi (rest := []) C0 kX6_129 (c_J4_length_8abf5 l D G ad (b + 116) r94 r101 hr101) (pmX6_line G ad (b) (u.1, u.2.1, u.2.2.1, u.2.2.2.1, r94)) ((pmX6_line G ad (b) (u.1, u.2.1, u.2.2.1, u.2.2.2.1, r94))).symm (ci := 0) (T := TJ4) (N := 4) rfl rfl rfl ⟨Nat.le_of_ble_eq_true rfl, Nat.le_of_ble_eq_true rfl⟩ (Nat.le_of_ble_eq_true rfl) rfl hl.1 hP hD hS dX6_entry_101 (fun H locs hP hD hS => ?_)
              obtain rfl := zo hf
              exact hret _ _ _ _ _ hP hD hS rfl dX6_entry_104
      · replace hf := zi_n hf c22
        refine lv_bipush (v := (-2)) hx hb dX6_entry_25 (by decide) ?_
        obtain rfl := zo hf
        exact hret _ _ _ _ _ hP hD hS rfl dX6_entry_27
  · replace hf := zi_p hf c11
    refine lv_iconst (v := (-1)) hx hb dX6_entry_14 (by decide) ?_
    obtain rfl := zo hf
    exact hret _ _ _ _ _ hP hD hS rfl dX6_entry_15
theorem kX6_132 : zLkV RX6 132 yJ4_charAt_5068e cJ4_charAt_5068e 2 (some .char) 1 := ⟨⟨wd_644, wd_645, wd_646, wd_25, wd_647⟩, by decide +kernel⟩
noncomputable def q_X6_lineAt (u : tX6) (p1 : Int32) (p2 : Int32) : Option (Int32 × tJ4) :=
  zb (q_X3_has u.1.2.2.2.2.1 p1) fun r8 => (if r8 = 0 then some ((-1), u.2.2.2.2) else zb (q_X6_writeLine u p1) fun r18 => (if p2 < 0 then some ((-1), r18) else zb (q_J4_length_8abf5 r18) fun r30 => (if p2 < r30 then zb (q_J4_charAt_5068e r18 p2) fun r43 => some (r43, r18) else some ((-1), r18))))
set_option maxRecDepth 100000 in
set_option maxHeartbeats 4000000 in
theorem c_X6_lineAt (l : Launch) (D : va_G) (G : zG) (ad : Nat → Nat) (b : Nat) (u : tX6) (p1 : Int32) (p2 : Int32) (res : Int32 × tJ4) (hf : q_X6_lineAt u p1 p2 = some res) : zMi l yX6_lineAt cX6_lineAt 3 (some .int) 6 135 D G (wX6 G ad b u) (wX6 G ad b (u.1, u.2.1, u.2.2.1, u.2.2.2.1, res.2)) [.ref (ad b), .int p1, .int p2] res.1 := by
  refine zs_i (plainFor_of_name (by decide)) (Nat.le_of_ble_eq_true rfl) ?_
  intro p e s m args below meth c A Q H ls C0 hret hP hD hS hl
  obtain ⟨hx, hb, hml, hown, hW, hK, hlocks, hF, hr, hA⟩ := id C0
  replace hl : lv_has ls 3 [(0, .ref (ad b)), (1, .int p1), (2, .int p2)] := hl
  unfold q_X6_lineAt at hf
  refine lv_aload_n hx hb dX6_lineAt_0 rfl (lv_at hl 0 rfl) ?_
  refine va_get (D := D) (ci := 7) (v := .ref (ad (b + 1))) (C := RX6) (T := TX6) (N := 5) hx hb hW inlX6 hown hK hP 0 rfl rfl 0 (by decide) (hW _ wd_13) (fun _ h9 => h9) rfl dX6_lineAt_1 ?_
  refine va_getN (host := "QuietChecks") (D := D) (ci := 2) (v := .ref (ad (b + 9))) (C := RX1) (T := TX1) (N := 17) hx hb hW inlX1 hown hK hP 1 rfl rfl 4 (by decide) (va_Nw.use rfl (hF.1 _ (by decide +kernel : Cond.fieldLinkNest "QuietChecks" 103 "QuietChecks$Disk" "log" "LQuietChecks$Log;" "QuietChecks" ∈ zNest))) (fun _ h9 => h9) rfl dX6_lineAt_4 ?_
  refine lv_iload_n hx hb dX6_lineAt_7 rfl (lv_at hl 1 rfl) ?_
  replace hf := zb_s hf
  obtain ⟨r8, hr8, hf⟩ := hf
  refine z_Vi (rest := []) C0 kX6_113 (c_X3_has l D G ad (b + 9) u.1.2.2.2.2.1 p1 r8 hr8) (z_pcomp (pmX6_disk G ad (b) u) (pmX1_log G ad (b + 1) u.1)) ((z_pcomp (pmX6_disk G ad (b) u) (pmX1_log G ad (b + 1) u.1))).symm (ci := 4) (T := TX3) (N := 5) rfl rfl rfl ⟨Nat.le_of_ble_eq_true rfl, Nat.le_of_ble_eq_true rfl⟩ (Nat.le_of_ble_eq_true rfl) rfl hl.1 hP hD hS dX6_lineAt_8 (fun H locs hP hD hS => ?_)
  refine lv_if_ne (tgt := 16) hx hb dX6_lineAt_11 (by decide) (fun c11 => ?_) (fun c11 => ?_)
  · replace hf := zi_n hf c11
    refine lv_aload_n hx hb dX6_lineAt_16 rfl (lv_at hl 0 rfl) ?_
    refine lv_iload_n hx hb dX6_lineAt_17 rfl (lv_at hl 1 rfl) ?_
    replace hf := zb_s hf
    obtain ⟨r18, hr18, hf⟩ := hf
    refine z_Vv (rest := []) C0 kX6_125 (c_X6_writeLine l D G ad (b) u p1 r18 hr18) z_pall z_pall.symm (ci := 7) (T := TX6) (N := 5) rfl rfl rfl ⟨Nat.le_of_ble_eq_true rfl, Nat.le_of_ble_eq_true rfl⟩ (Nat.le_of_ble_eq_true rfl) rfl hl.1 hP hD hS dX6_lineAt_18 (fun H locs hP hD hS => ?_)
    replace hP : va_P D vwCl (wX6 G ad b (u.1, u.2.1, u.2.2.1, u.2.2.2.1, r18)) H := hP
    replace hD : va_D A (wX6 G ad b (u.1, u.2.1, u.2.2.1, u.2.2.2.1, r18)) := hD
    refine lv_iload_n hx hb dX6_lineAt_21 rfl (lv_at hl 2 rfl) ?_
    refine lv_if_lt (tgt := 36) hx hb dX6_lineAt_22 (by decide) (fun c22 => ?_) (fun c22 => ?_)
    · replace hf := zi_p hf c22
      refine lv_iconst (v := (-1)) hx hb dX6_lineAt_36 (by decide) ?_
      obtain rfl := zo hf
      exact hret _ _ _ _ _ hP hD hS rfl dX6_lineAt_37
    · replace hf := zi_n hf c22
      refine lv_iload_n hx hb dX6_lineAt_25 rfl (lv_at hl 2 rfl) ?_
      refine lv_aload_n hx hb dX6_lineAt_26 rfl (lv_at hl 0 rfl) ?_
      refine va_get (D := D) (ci := 7) (v := .ref (ad (b + 116))) (C := RX6) (T := TX6) (N := 5) hx hb hW inlX6 hown hK hP 0 rfl rfl 4 (by decide) (hW _ wd_26) (fun _ h9 => h9) rfl dX6_lineAt_27 ?_
      replace hf := zb_s hf
      obtain ⟨r30, hr30, hf⟩ := hf
      refine z_Vi (rest := [.int p2]) C0 kX6_129 (c_J4_length_8abf5 l D G ad (b + 116) r18 r30 hr30) (pmX6_line G ad (b) (u.1, u.2.1, u.2.2.1, u.2.2.2.1, r18)) ((pmX6_line G ad (b) (u.1, u.2.1, u.2.2.1, u.2.2.2.1, r18))).symm (ci := 0) (T := TJ4) (N := 4) rfl rfl rfl ⟨Nat.le_of_ble_eq_true rfl, Nat.le_of_ble_eq_true rfl⟩ (Nat.le_of_ble_eq_true rfl) rfl hl.1 hP hD hS dX6_lineAt_30 (fun H locs hP hD hS => ?_)
      refine lv_icmp_lt (tgt := 38) hx hb dX6_lineAt_33 (by decide) (fun c33 => ?_) (fun c33 => ?_)
      · replace hf := zi_p hf c33
        refine lv_aload_n hx hb dX6_lineAt_38 rfl (lv_at hl 0 rfl) ?_
        refine va_get (D := D) (ci := 7) (v := .ref (ad (b + 116))) (C := RX6) (T := TX6) (N := 5) hx hb hW inlX6 hown hK hP 0 rfl rfl 4 (by decide) (hW _ wd_26) (fun _ h9 => h9) rfl dX6_lineAt_39 ?_
        refine lv_iload_n hx hb dX6_lineAt_42 rfl (lv_at hl 2 rfl) ?_
        replace hf := zb_s hf
        obtain ⟨r43, hr43, hf⟩ := hf
        refine z_Vi (rest := []) C0 kX6_132 (c_J4_charAt_5068e l D G ad (b + 116) r18 p2 r43 hr43) (pmX6_line G ad (b) (u.1, u.2.1, u.2.2.1, u.2.2.2.1, r18)) ((pmX6_line G ad (b) (u.1, u.2.1, u.2.2.1, u.2.2.2.1, r18))).symm (ci := 0) (T := TJ4) (N := 4) rfl rfl rfl ⟨Nat.le_of_ble_eq_true rfl, Nat.le_of_ble_eq_true rfl⟩ (Nat.le_of_ble_eq_true rfl) rfl hl.1 hP hD hS dX6_lineAt_43 (fun H locs hP hD hS => ?_)
        obtain rfl := zo hf
        exact hret _ _ _ _ _ hP hD hS rfl dX6_lineAt_46
      · replace hf := zi_n hf c33
        refine lv_iconst (v := (-1)) hx hb dX6_lineAt_36 (by decide) ?_
        obtain rfl := zo hf
        exact hret _ _ _ _ _ hP hD hS rfl dX6_lineAt_37
  · replace hf := zi_p hf c11
    refine lv_iconst (v := (-1)) hx hb dX6_lineAt_14 (by decide) ?_
    obtain rfl := zo hf
    exact hret _ _ _ _ _ hP hD hS rfl dX6_lineAt_15
noncomputable def q_X6_overdue (u : tX6) : Option (Int32) :=
  zb (q_X1_overdueSpans u.1) fun r4 => some (r4)
set_option maxRecDepth 100000 in
set_option maxHeartbeats 4000000 in
theorem c_X6_overdue (l : Launch) (D : va_G) (G : zG) (ad : Nat → Nat) (b : Nat) (u : tX6) (res : Int32) (hf : q_X6_overdue u = some res) : zMi l yX6_overdue cX6_overdue 1 (some .int) 4 84 D G (wX6 G ad b u) (wX6 G ad b u) [.ref (ad b)] res := by
  refine zs_i (plainFor_of_name (by decide)) (Nat.le_of_ble_eq_true rfl) ?_
  intro p e s m args below meth c A Q H ls C0 hret hP hD hS hl
  obtain ⟨hx, hb, hml, hown, hW, hK, hlocks, hF, hr, hA⟩ := id C0
  replace hl : lv_has ls 1 [(0, .ref (ad b))] := hl
  unfold q_X6_overdue at hf
  refine lv_aload_n hx hb dX6_overdue_0 rfl (lv_at hl 0 rfl) ?_
  refine va_get (D := D) (ci := 7) (v := .ref (ad (b + 1))) (C := RX6) (T := TX6) (N := 5) hx hb hW inlX6 hown hK hP 0 rfl rfl 0 (by decide) (hW _ wd_13) (fun _ h9 => h9) rfl dX6_overdue_1 ?_
  replace hf := zb_s hf
  obtain ⟨r4, hr4, hf⟩ := hf
  refine z_Vi (rest := []) C0 kX6_136 (c_X1_overdueSpans l D G ad (b + 1) u.1 r4 hr4) (pmX6_disk G ad (b) u) ((pmX6_disk G ad (b) u)).symm (ci := 2) (T := TX1) (N := 17) rfl rfl rfl ⟨Nat.le_of_ble_eq_true rfl, Nat.le_of_ble_eq_true rfl⟩ (Nat.le_of_ble_eq_true rfl) rfl hl.1 hP hD hS dX6_overdue_4 (fun H locs hP hD hS => ?_)
  obtain rfl := zo hf
  exact hret _ _ _ _ _ hP hD hS rfl dX6_overdue_7
theorem kX6_139 : zLkV RX6 139 yX1_chooseSpan cX1_chooseSpan 6 (some .int) 0 := ⟨⟨wd_401, wd_269, wd_270, wd_12, wd_271⟩, by decide +kernel⟩
noncomputable def q_X6_nextCheck (u : tX6) : Option (Int32) :=
  zb (q_X1_chooseSpan u.1) fun r4 => some (r4)
set_option maxRecDepth 100000 in
set_option maxHeartbeats 4000000 in
theorem c_X6_nextCheck (l : Launch) (D : va_G) (G : zG) (ad : Nat → Nat) (b : Nat) (u : tX6) (res : Int32) (hf : q_X6_nextCheck u = some res) : zMi l yX6_nextCheck cX6_nextCheck 1 (some .int) 4 102 D G (wX6 G ad b u) (wX6 G ad b u) [.ref (ad b)] res := by
  refine zs_i (plainFor_of_name (by decide)) (Nat.le_of_ble_eq_true rfl) ?_
  intro p e s m args below meth c A Q H ls C0 hret hP hD hS hl
  obtain ⟨hx, hb, hml, hown, hW, hK, hlocks, hF, hr, hA⟩ := id C0
  replace hl : lv_has ls 1 [(0, .ref (ad b))] := hl
  unfold q_X6_nextCheck at hf
  refine lv_aload_n hx hb dX6_nextCheck_0 rfl (lv_at hl 0 rfl) ?_
  refine va_get (D := D) (ci := 7) (v := .ref (ad (b + 1))) (C := RX6) (T := TX6) (N := 5) hx hb hW inlX6 hown hK hP 0 rfl rfl 0 (by decide) (hW _ wd_13) (fun _ h9 => h9) rfl dX6_nextCheck_1 ?_
  replace hf := zb_s hf
  obtain ⟨r4, hr4, hf⟩ := hf
  refine z_Vi (rest := []) C0 kX6_139 (c_X1_chooseSpan l D G ad (b + 1) u.1 r4 hr4) (pmX6_disk G ad (b) u) ((pmX6_disk G ad (b) u)).symm (ci := 2) (T := TX1) (N := 17) rfl rfl rfl ⟨Nat.le_of_ble_eq_true rfl, Nat.le_of_ble_eq_true rfl⟩ (Nat.le_of_ble_eq_true rfl) rfl hl.1 hP hD hS dX6_nextCheck_4 (fun H locs hP hD hS => ?_)
  obtain rfl := zo hf
  exact hret _ _ _ _ _ hP hD hS rfl dX6_nextCheck_7
noncomputable def q_X6_checkedIn_L22 (p1 : Int32) (v22 : Int32 × tX1) : Option ((Int32 × tX1) ⊕ (((tX1) ⊕ (Int32 × tX1)))) :=
  (if 3000 < v22.1 then some (Sum.inr (Sum.inl (v22.2))) else zb (q_X1_passQuietTick v22.2) fun r33 => (if r33.1 = p1 then some (Sum.inr (Sum.inr (v22.1, r33.2))) else some (Sum.inl ((v22.1 + 1), r33.2))))
noncomputable def q_X6_checkedIn (u : tX6) (p1 : Int32) : Option (Int32 × tX1) :=
  zb (q_X6_isSpan p1) fun r1 => (if r1 = 0 then some ((-1), u.2.1) else zb (q_X1_copyFrom u.2.1 u.1) fun r17 => zb (zl 1000000 (q_X6_checkedIn_L22 p1) (1, r17)) (zm (fun e22_0 => some ((-6), e22_0)) (fun e22_1 => some (e22_1.1, e22_1.2))))
set_option maxRecDepth 100000 in
set_option maxHeartbeats 4000000 in
theorem c_X6_checkedIn (l : Launch) (D : va_G) (G : zG) (ad : Nat → Nat) (b : Nat) (u : tX6) (p1 : Int32) (res : Int32 × tX1) (hf : q_X6_checkedIn u p1 = some res) : zMi l yX6_checkedIn cX6_checkedIn 3 (some .int) 5 123 D G (wX6 G ad b u) (wX6 G ad b (u.1, res.2, u.2.2.1, u.2.2.2.1, u.2.2.2.2)) [.ref (ad b), .int p1] res.1 := by
  refine zs_i (plainFor_of_name (by decide)) (Nat.le_of_ble_eq_true rfl) ?_
  intro p e s m args below meth c A Q H ls C0 hret hP hD hS hl
  obtain ⟨hx, hb, hml, hown, hW, hK, hlocks, hF, hr, hA⟩ := id C0
  replace hl : lv_has ls 3 [(0, .ref (ad b)), (1, .int p1)] := hl
  unfold q_X6_checkedIn at hf
  refine lv_iload_n hx hb dX6_checkedIn_0 rfl (lv_at hl 1 rfl) ?_
  replace hf := zb_s hf
  obtain ⟨r1, hr1, hf⟩ := hf
  refine z_Si (rest := []) C0 kX6_88 (c_X6_isSpan l D G p1 r1 hr1) (List.Perm.refl _) (List.Perm.refl _) rfl ⟨Nat.le_of_ble_eq_true rfl, Nat.le_of_ble_eq_true rfl⟩ (Nat.le_of_ble_eq_true rfl) rfl hl.1 hP hD hS dX6_checkedIn_1 (fun H locs hP hD hS => ?_)
  refine lv_if_ne (tgt := 9) hx hb dX6_checkedIn_4 (by decide) (fun c4 => ?_) (fun c4 => ?_)
  · replace hf := zi_n hf c4
    refine lv_aload_n hx hb dX6_checkedIn_9 rfl (lv_at hl 0 rfl) ?_
    refine va_get (D := D) (ci := 7) (v := .ref (ad (b + 13))) (C := RX6) (T := TX6) (N := 5) hx hb hW inlX6 hown hK hP 0 rfl rfl 1 (by decide) (hW _ wd_14) (fun _ h9 => h9) rfl dX6_checkedIn_10 ?_
    refine lv_aload_n hx hb dX6_checkedIn_13 rfl (lv_at hl 0 rfl) ?_
    refine va_get (D := D) (ci := 7) (v := .ref (ad (b + 1))) (C := RX6) (T := TX6) (N := 5) hx hb hW inlX6 hown hK hP 0 rfl rfl 0 (by decide) (hW _ wd_13) (fun _ h9 => h9) rfl dX6_checkedIn_14 ?_
    replace hf := zb_s hf
    obtain ⟨r17, hr17, hf⟩ := hf
    refine z_Vv (rest := []) C0 kX6_142 (c_X1_copyFrom l D G ad (b + 13) ad (b + 1) u.2.1 u.1 r17 hr17) (pmX6_trial_disk G ad b u) (pnX6_trial_disk G ad b u r17 u.1) (ci := 2) (T := TX1) (N := 17) rfl rfl rfl ⟨Nat.le_of_ble_eq_true rfl, Nat.le_of_ble_eq_true rfl⟩ (Nat.le_of_ble_eq_true rfl) rfl hl.1 hP hD hS dX6_checkedIn_17 (fun H locs hP hD hS => ?_)
    replace hP : va_P D vwCl (wX6 G ad b (u.1, r17, u.2.2.1, u.2.2.2.1, u.2.2.2.2)) H := hP
    replace hD : va_D A (wX6 G ad b (u.1, r17, u.2.2.1, u.2.2.2.1, u.2.2.2.2)) := hD
    refine lv_iconst (v := 1) hx hb dX6_checkedIn_20 (by decide) ?_
    refine lv_istore_n (lv' := [(2, .int 1), (0, .ref (ad b)), (1, .int p1)]) hx hb dX6_checkedIn_21 rfl hl (by decide) rfl (fun ls hl => ?_)
    replace hf := zb_s hf
    obtain ⟨b22, hz22, hk22⟩ := hf
    have L22 : ∀ (n22 : Nat) (v22 : Int32 × tX1) (hz22 : zl n22 (q_X6_checkedIn_L22 p1) v22 = some b22) (H : Heap) (locs : List Loc) (hP : va_P D vwCl (wX6 G ad b (u.1, v22.2, u.2.2.1, u.2.2.2.1, u.2.2.2.2)) H) (hD : va_D A (wX6 G ad b (u.1, v22.2, u.2.2.1, u.2.2.2.1, u.2.2.2.2))) (hS : va_S A s.heap H locs) (ls : Array Slot) (hl : lv_has ls 3 [(0, .ref (ad b)), (1, .int p1), (2, .int v22.1)]), W p l e (zRm 5 123) s m args below meth c H locs 0 0 Q (F0 m 22 ls []) := by
      intro n22
      induction n22 with
      | zero => intro v22 hz22; exact (zl_0 hz22).elim
      | succ n22 ih22 =>
        intro v22 hz22 H locs hP hD hS ls hl
        obtain ⟨o22, hf, hz22⟩ := zl_s hz22
        unfold q_X6_checkedIn_L22 at hf
        refine lv_iload_n hx hb dX6_checkedIn_22 rfl (lv_at hl 2 rfl) ?_
        refine lv_sipush (v := 3000) hx hb dX6_checkedIn_23 (by decide) ?_
        refine lv_icmp_gt (tgt := 48) hx hb dX6_checkedIn_26 (by decide) (fun c26 => ?_) (fun c26 => ?_)
        · replace hf := zi_p hf c26
          have hb22 := zk_r hf hz22
          subst hb22
          replace hf := (zm_l hk22)
          refine lv_bipush (v := (-6)) hx hb dX6_checkedIn_48 (by decide) ?_
          obtain rfl := zo hf
          exact hret _ _ _ _ _ hP hD hS rfl dX6_checkedIn_50
        · replace hf := zi_n hf c26
          refine lv_aload_n hx hb dX6_checkedIn_29 rfl (lv_at hl 0 rfl) ?_
          refine va_get (D := D) (ci := 7) (v := .ref (ad (b + 13))) (C := RX6) (T := TX6) (N := 5) hx hb hW inlX6 hown hK hP 0 rfl rfl 1 (by decide) (hW _ wd_14) (fun _ h9 => h9) rfl dX6_checkedIn_30 ?_
          replace hf := zb_s hf
          obtain ⟨r33, hr33, hf⟩ := hf
          refine z_Vi (rest := []) C0 kX6_145 (c_X1_passQuietTick l D G ad (b + 13) v22.2 r33 hr33) (pmX6_trial G ad (b) (u.1, v22.2, u.2.2.1, u.2.2.2.1, u.2.2.2.2)) (pnX6_trial G ad (b) (u.1, v22.2, u.2.2.1, u.2.2.2.1, u.2.2.2.2) r33.2) (ci := 2) (T := TX1) (N := 17) rfl rfl rfl ⟨Nat.le_of_ble_eq_true rfl, Nat.le_of_ble_eq_true rfl⟩ (Nat.le_of_ble_eq_true rfl) rfl hl.1 hP hD hS dX6_checkedIn_33 (fun H locs hP hD hS => ?_)
          replace hP : va_P D vwCl (wX6 G ad b (u.1, r33.2, u.2.2.1, u.2.2.2.1, u.2.2.2.2)) H := hP
          replace hD : va_D A (wX6 G ad b (u.1, r33.2, u.2.2.1, u.2.2.2.1, u.2.2.2.2)) := hD
          refine lv_iload_n hx hb dX6_checkedIn_36 rfl (lv_at hl 1 rfl) ?_
          refine lv_icmp_ne (tgt := 42) hx hb dX6_checkedIn_37 (by decide) (fun c37 => ?_) (fun c37 => ?_)
          · replace hf := zi_n hf c37
            refine lv_iinc (v := (v22.1 + 1)) (lv' := [(2, .int (v22.1 + 1)), (0, .ref (ad b)), (1, .int p1)]) hx hb dX6_checkedIn_42 hl (k := 2) rfl rfl (by decide) rfl (fun ls hl => ?_)
            refine lv_goto (tgt := 22) hx hb dX6_checkedIn_45 (by decide) ?_
            exact ih22 _ (zk_l hf hz22) _ _ hP hD hS _ (lv_sub hl [1, 2, 0] rfl)
          · replace hf := zi_p hf c37
            have hb22 := zk_r hf hz22
            subst hb22
            replace hf := (zm_r hk22)
            refine lv_iload_n hx hb dX6_checkedIn_40 rfl (lv_at hl 2 rfl) ?_
            obtain rfl := zo hf
            exact hret _ _ _ _ _ hP hD hS rfl dX6_checkedIn_41
    exact L22 _ _ hz22 _ _ hP hD hS _ (lv_sub hl [1, 2, 0] rfl)
  · replace hf := zi_p hf c4
    refine lv_iconst (v := (-1)) hx hb dX6_checkedIn_7 (by decide) ?_
    obtain rfl := zo hf
    exact hret _ _ _ _ _ hP hD hS rfl dX6_checkedIn_8
theorem kX6_151 : zLkV RX6 151 yX6_overdueAfter cX6_overdueAfter 4 (some .int) 2 := ⟨⟨wd_674, wd_675, wd_676, wd_2, wd_677⟩, by decide +kernel⟩
noncomputable def q_X6_ifQuiet (u : tX6) (p1 : Int32) : Option (Int32 × tX1) :=
  (if p1 < 0 then some ((-2), u.2.1) else (if p1 ≤ 3000 then zb (q_X6_overdueAfter u p1 u.1.2.2.2.2.2.1) fun r23 => some (r23.1, r23.2) else some ((-2), u.2.1)))
set_option maxRecDepth 100000 in
set_option maxHeartbeats 4000000 in
theorem c_X6_ifQuiet (l : Launch) (D : va_G) (G : zG) (ad : Nat → Nat) (b : Nat) (u : tX6) (p1 : Int32) (res : Int32 × tX1) (hf : q_X6_ifQuiet u p1 = some res) : zMi l yX6_ifQuiet cX6_ifQuiet 2 (some .int) 6 146 D G (wX6 G ad b u) (wX6 G ad b (u.1, res.2, u.2.2.1, u.2.2.2.1, u.2.2.2.2)) [.ref (ad b), .int p1] res.1 := by
  refine zs_i (plainFor_of_name (by decide)) (Nat.le_of_ble_eq_true rfl) ?_
  intro p e s m args below meth c A Q H ls C0 hret hP hD hS hl
  obtain ⟨hx, hb, hml, hown, hW, hK, hlocks, hF, hr, hA⟩ := id C0
  replace hl : lv_has ls 2 [(0, .ref (ad b)), (1, .int p1)] := hl
  unfold q_X6_ifQuiet at hf
  refine lv_iload_n hx hb dX6_ifQuiet_0 rfl (lv_at hl 1 rfl) ?_
  refine lv_if_lt (tgt := 11) hx hb dX6_ifQuiet_1 (by decide) (fun c1 => ?_) (fun c1 => ?_)
  · replace hf := zi_p hf c1
    refine lv_bipush (v := (-2)) hx hb dX6_ifQuiet_11 (by decide) ?_
    obtain rfl := zo hf
    exact hret _ _ _ _ _ hP hD hS rfl dX6_ifQuiet_13
  · replace hf := zi_n hf c1
    refine lv_iload_n hx hb dX6_ifQuiet_4 rfl (lv_at hl 1 rfl) ?_
    refine lv_sipush (v := 3000) hx hb dX6_ifQuiet_5 (by decide) ?_
    refine lv_icmp_le (tgt := 14) hx hb dX6_ifQuiet_8 (by decide) (fun c8 => ?_) (fun c8 => ?_)
    · replace hf := zi_p hf c8
      refine lv_aload_n hx hb dX6_ifQuiet_14 rfl (lv_at hl 0 rfl) ?_
      refine lv_iload_n hx hb dX6_ifQuiet_15 rfl (lv_at hl 1 rfl) ?_
      refine lv_aload_n hx hb dX6_ifQuiet_16 rfl (lv_at hl 0 rfl) ?_
      refine va_get (D := D) (ci := 7) (v := .ref (ad (b + 1))) (C := RX6) (T := TX6) (N := 5) hx hb hW inlX6 hown hK hP 0 rfl rfl 0 (by decide) (hW _ wd_13) (fun _ h9 => h9) rfl dX6_ifQuiet_17 ?_
      refine va_getN (host := "QuietChecks") (D := D) (ci := 2) (v := .int u.1.2.2.2.2.2.1) (C := RX1) (T := TX1) (N := 17) hx hb hW inlX1 hown hK hP 1 rfl rfl 5 (by decide) (va_Nw.use rfl (hF.1 _ (by decide +kernel : Cond.fieldLinkNest "QuietChecks" 148 "QuietChecks$Disk" "way" "I" "QuietChecks" ∈ zNest))) (fun _ h9 => h9) rfl dX6_ifQuiet_20 ?_
      replace hf := zb_s hf
      obtain ⟨r23, hr23, hf⟩ := hf
      refine z_Vi (rest := []) C0 kX6_151 (c_X6_overdueAfter l D G ad (b) u p1 u.1.2.2.2.2.2.1 r23 hr23) z_pall z_pall.symm (ci := 7) (T := TX6) (N := 5) rfl rfl rfl ⟨Nat.le_of_ble_eq_true rfl, Nat.le_of_ble_eq_true rfl⟩ (Nat.le_of_ble_eq_true rfl) rfl hl.1 hP hD hS dX6_ifQuiet_23 (fun H locs hP hD hS => ?_)
      replace hP : va_P D vwCl (wX6 G ad b (u.1, r23.2, u.2.2.1, u.2.2.2.1, u.2.2.2.2)) H := hP
      replace hD : va_D A (wX6 G ad b (u.1, r23.2, u.2.2.1, u.2.2.2.1, u.2.2.2.2)) := hD
      obtain rfl := zo hf
      exact hret _ _ _ _ _ hP hD hS rfl dX6_ifQuiet_26
    · replace hf := zi_n hf c8
      refine lv_bipush (v := (-2)) hx hb dX6_ifQuiet_11 (by decide) ?_
      obtain rfl := zo hf
      exact hret _ _ _ _ _ hP hD hS rfl dX6_ifQuiet_13
noncomputable def q_X6_bestWay_L26 (u : tX6) (p1 : Int32) (v26 : Int32 × Int32 × Int32 × tX1) : Option ((Int32 × Int32 × Int32 × tX1) ⊕ (Int32 × tX1)) :=
  (if 3 ≤ v26.2.2.1 then some (Sum.inr (v26.1, v26.2.2.2)) else zb (q_X6_overdueAfter (u.1, v26.2.2.2, u.2.2.1, u.2.2.2.1, u.2.2.2.2) p1 v26.2.2.1) fun r36 => (if v26.2.1 ≤ r36.1 then some (Sum.inl (v26.1, v26.2.1, (v26.2.2.1 + 1), r36.2)) else some (Sum.inl (v26.2.2.1, r36.1, (v26.2.2.1 + 1), r36.2))))
noncomputable def q_X6_bestWay (u : tX6) (p1 : Int32) : Option (Int32 × tX1) :=
  (if p1 < 0 then some ((-2), u.2.1) else (if p1 ≤ 3000 then zb (q_X6_overdueAfter u p1 0) fun r19 => zb (zl 1000000 (q_X6_bestWay_L26 u p1) (0, r19.1, 1, r19.2)) (fun b26 => some (b26.1, b26.2)) else some ((-2), u.2.1)))
set_option maxRecDepth 100000 in
set_option maxHeartbeats 4000000 in
theorem c_X6_bestWay (l : Launch) (D : va_G) (G : zG) (ad : Nat → Nat) (b : Nat) (u : tX6) (p1 : Int32) (res : Int32 × tX1) (hf : q_X6_bestWay u p1 = some res) : zMi l yX6_bestWay cX6_bestWay 6 (some .int) 6 146 D G (wX6 G ad b u) (wX6 G ad b (u.1, res.2, u.2.2.1, u.2.2.2.1, u.2.2.2.2)) [.ref (ad b), .int p1] res.1 := by
  refine zs_i (plainFor_of_name (by decide)) (Nat.le_of_ble_eq_true rfl) ?_
  intro p e s m args below meth c A Q H ls C0 hret hP hD hS hl
  obtain ⟨hx, hb, hml, hown, hW, hK, hlocks, hF, hr, hA⟩ := id C0
  replace hl : lv_has ls 6 [(0, .ref (ad b)), (1, .int p1)] := hl
  unfold q_X6_bestWay at hf
  refine lv_iload_n hx hb dX6_bestWay_0 rfl (lv_at hl 1 rfl) ?_
  refine lv_if_lt (tgt := 11) hx hb dX6_bestWay_1 (by decide) (fun c1 => ?_) (fun c1 => ?_)
  · replace hf := zi_p hf c1
    refine lv_bipush (v := (-2)) hx hb dX6_bestWay_11 (by decide) ?_
    obtain rfl := zo hf
    exact hret _ _ _ _ _ hP hD hS rfl dX6_bestWay_13
  · replace hf := zi_n hf c1
    refine lv_iload_n hx hb dX6_bestWay_4 rfl (lv_at hl 1 rfl) ?_
    refine lv_sipush (v := 3000) hx hb dX6_bestWay_5 (by decide) ?_
    refine lv_icmp_le (tgt := 14) hx hb dX6_bestWay_8 (by decide) (fun c8 => ?_) (fun c8 => ?_)
    · replace hf := zi_p hf c8
      refine lv_iconst (v := 0) hx hb dX6_bestWay_14 (by decide) ?_
      refine lv_istore_n (lv' := [(2, .int 0), (0, .ref (ad b)), (1, .int p1)]) hx hb dX6_bestWay_15 rfl hl (by decide) rfl (fun ls hl => ?_)
      refine lv_aload_n hx hb dX6_bestWay_16 rfl (lv_at hl 1 rfl) ?_
      refine lv_iload_n hx hb dX6_bestWay_17 rfl (lv_at hl 2 rfl) ?_
      refine lv_iload_n hx hb dX6_bestWay_18 rfl (lv_at hl 0 rfl) ?_
      replace hf := zb_s hf
      obtain ⟨r19, hr19, hf⟩ := hf
      refine z_Vi (rest := []) C0 kX6_151 (c_X6_overdueAfter l D G ad (b) u p1 0 r19 hr19) z_pall z_pall.symm (ci := 7) (T := TX6) (N := 5) rfl rfl rfl ⟨Nat.le_of_ble_eq_true rfl, Nat.le_of_ble_eq_true rfl⟩ (Nat.le_of_ble_eq_true rfl) rfl hl.1 hP hD hS dX6_bestWay_19 (fun H locs hP hD hS => ?_)
      replace hP : va_P D vwCl (wX6 G ad b (u.1, r19.2, u.2.2.1, u.2.2.2.1, u.2.2.2.2)) H := hP
      replace hD : va_D A (wX6 G ad b (u.1, r19.2, u.2.2.1, u.2.2.2.1, u.2.2.2.2)) := hD
      refine lv_istore_n (lv' := [(3, .int r19.1), (2, .int 0), (0, .ref (ad b)), (1, .int p1)]) hx hb dX6_bestWay_22 rfl hl (by decide) rfl (fun ls hl => ?_)
      refine lv_iconst (v := 1) hx hb dX6_bestWay_23 (by decide) ?_
      refine lv_istore (lv' := [(4, .int 1), (3, .int r19.1), (2, .int 0), (0, .ref (ad b)), (1, .int p1)]) hx hb dX6_bestWay_24 hl (by decide) rfl (fun ls hl => ?_)
      replace hf := zb_s hf
      obtain ⟨b26, hz26, hk26⟩ := hf
      have L26 : ∀ (n26 : Nat) (v26 : Int32 × Int32 × Int32 × tX1) (hz26 : zl n26 (q_X6_bestWay_L26 u p1) v26 = some b26) (H : Heap) (locs : List Loc) (hP : va_P D vwCl (wX6 G ad b (u.1, v26.2.2.2, u.2.2.1, u.2.2.2.1, u.2.2.2.2)) H) (hD : va_D A (wX6 G ad b (u.1, v26.2.2.2, u.2.2.1, u.2.2.2.1, u.2.2.2.2))) (hS : va_S A s.heap H locs) (ls : Array Slot) (hl : lv_has ls 6 [(0, .ref (ad b)), (1, .int p1), (2, .int v26.1), (3, .int v26.2.1), (4, .int v26.2.2.1)]), W p l e (zRm 6 146) s m args below meth c H locs 0 0 Q (F0 m 26 ls []) := by
        intro n26
        induction n26 with
        | zero => intro v26 hz26; exact (zl_0 hz26).elim
        | succ n26 ih26 =>
          intro v26 hz26 H locs hP hD hS ls hl
          obtain ⟨o26, hf, hz26⟩ := zl_s hz26
          unfold q_X6_bestWay_L26 at hf
          refine lv_iload hx hb dX6_bestWay_26 (lv_at hl 4 rfl) ?_
          refine lv_iconst (v := 3) hx hb dX6_bestWay_28 (by decide) ?_
          refine lv_icmp_ge (tgt := 59) hx hb dX6_bestWay_29 (by decide) (fun c29 => ?_) (fun c29 => ?_)
          · replace hf := zi_p hf c29
            have hb26 := zk_r hf hz26
            subst hb26
            replace hf := hk26
            refine lv_iload_n hx hb dX6_bestWay_59 rfl (lv_at hl 2 rfl) ?_
            obtain rfl := zo hf
            exact hret _ _ _ _ _ hP hD hS rfl dX6_bestWay_60
          · replace hf := zi_n hf c29
            refine lv_aload_n hx hb dX6_bestWay_32 rfl (lv_at hl 0 rfl) ?_
            refine lv_iload_n hx hb dX6_bestWay_33 rfl (lv_at hl 1 rfl) ?_
            refine lv_iload hx hb dX6_bestWay_34 (lv_at hl 4 rfl) ?_
            replace hf := zb_s hf
            obtain ⟨r36, hr36, hf⟩ := hf
            refine z_Vi (rest := []) C0 kX6_151 (c_X6_overdueAfter l D G ad (b) (u.1, v26.2.2.2, u.2.2.1, u.2.2.2.1, u.2.2.2.2) p1 v26.2.2.1 r36 hr36) z_pall z_pall.symm (ci := 7) (T := TX6) (N := 5) rfl rfl rfl ⟨Nat.le_of_ble_eq_true rfl, Nat.le_of_ble_eq_true rfl⟩ (Nat.le_of_ble_eq_true rfl) rfl hl.1 hP hD hS dX6_bestWay_36 (fun H locs hP hD hS => ?_)
            replace hP : va_P D vwCl (wX6 G ad b (u.1, r36.2, u.2.2.1, u.2.2.2.1, u.2.2.2.2)) H := hP
            replace hD : va_D A (wX6 G ad b (u.1, r36.2, u.2.2.1, u.2.2.2.1, u.2.2.2.2)) := hD
            refine lv_istore (lv' := [(5, .int r36.1), (0, .ref (ad b)), (1, .int p1), (2, .int v26.1), (3, .int v26.2.1), (4, .int v26.2.2.1)]) hx hb dX6_bestWay_39 hl (by decide) rfl (fun ls hl => ?_)
            refine lv_iload hx hb dX6_bestWay_41 (lv_at hl 0 rfl) ?_
            refine lv_iload_n hx hb dX6_bestWay_43 rfl (lv_at hl 4 rfl) ?_
            refine lv_icmp_ge (tgt := 53) hx hb dX6_bestWay_44 (by decide) (fun c44 => ?_) (fun c44 => ?_)
            · replace hf := zi_p hf c44
              refine lv_iinc (v := (v26.2.2.1 + 1)) (lv' := [(4, .int (v26.2.2.1 + 1)), (5, .int r36.1), (0, .ref (ad b)), (1, .int p1), (2, .int v26.1), (3, .int v26.2.1)]) hx hb dX6_bestWay_53 hl (k := 5) rfl rfl (by decide) rfl (fun ls hl => ?_)
              refine lv_goto (tgt := 26) hx hb dX6_bestWay_56 (by decide) ?_
              exact ih26 _ (zk_l hf hz26) _ _ hP hD hS _ (lv_sub hl [2, 3, 4, 5, 0] rfl)
            · replace hf := zi_n hf c44
              refine lv_iload hx hb dX6_bestWay_47 (lv_at hl 0 rfl) ?_
              refine lv_istore_n (lv' := [(3, .int r36.1), (5, .int r36.1), (0, .ref (ad b)), (1, .int p1), (2, .int v26.1), (4, .int v26.2.2.1)]) hx hb dX6_bestWay_49 rfl hl (by decide) rfl (fun ls hl => ?_)
              refine lv_iload hx hb dX6_bestWay_50 (lv_at hl 5 rfl) ?_
              refine lv_istore_n (lv' := [(2, .int v26.2.2.1), (3, .int r36.1), (5, .int r36.1), (0, .ref (ad b)), (1, .int p1), (4, .int v26.2.2.1)]) hx hb dX6_bestWay_52 rfl hl (by decide) rfl (fun ls hl => ?_)
              refine lv_iinc (v := (v26.2.2.1 + 1)) (lv' := [(4, .int (v26.2.2.1 + 1)), (2, .int v26.2.2.1), (3, .int r36.1), (5, .int r36.1), (0, .ref (ad b)), (1, .int p1)]) hx hb dX6_bestWay_53 hl (k := 5) rfl rfl (by decide) rfl (fun ls hl => ?_)
              refine lv_goto (tgt := 26) hx hb dX6_bestWay_56 (by decide) ?_
              exact ih26 _ (zk_l hf hz26) _ _ hP hD hS _ (lv_sub hl [4, 5, 1, 2, 0] rfl)
      exact L26 _ _ hz26 _ _ hP hD hS _ (lv_sub hl [3, 4, 2, 1, 0] rfl)
    · replace hf := zi_n hf c8
      refine lv_bipush (v := (-2)) hx hb dX6_bestWay_11 (by decide) ?_
      obtain rfl := zo hf
      exact hret _ _ _ _ _ hP hD hS rfl dX6_bestWay_13
