noncomputable def q_X5_copyFrom (u : tX5) (u1 : tX5) : Option (tX5) :=
  zn (va_cpy u1.1 u.1 0 0 20) fun s12 => zn (va_cpy u1.2.1 u.2.1 0 0 20) fun s27 => some ((s12, s27, u1.2.2))
set_option maxRecDepth 100000 in
set_option maxHeartbeats 4000000 in
theorem c_X5_copyFrom (l : Launch) (D : va_G) (G : zG) (ad : Nat → Nat) (b : Nat) (ad1 : Nat → Nat) (b1 : Nat) (u : tX5) (u1 : tX5) (res : tX5) (hf : q_X5_copyFrom u u1 = some res) : zMv l yX5_copyFrom cX5_copyFrom 2 none 1 26 D G (wX5 G ad b u ++ wX5 G ad1 b1 u1) (wX5 G ad b res ++ wX5 G ad1 b1 u1) [.ref (ad b), .ref (ad1 b1)] := by
  refine zs_v (plainFor_of_name (by decide)) (Nat.le_of_ble_eq_true rfl) ?_
  intro p e s m args below meth c A Q H ls C0 hret hP hD hS hl
  obtain ⟨hx, hb, hml, hown, hW, hK, hlocks, hF, hr, hA⟩ := id C0
  replace hl : lv_has ls 2 [(0, .ref (ad b)), (1, .ref (ad1 b1))] := hl
  unfold q_X5_copyFrom at hf
  refine lv_aload_n hx hb dX5_copyFrom_0 rfl (lv_at hl 1 rfl) ?_
  refine va_get (D := D) (ci := 6) (v := .ref (ad1 (b1 + 1))) (C := RX5) (T := TX5) (N := 3) hx hb hW inlX5 hown hK hP 3 rfl rfl 0 (by decide) (hW _ wd_64) (fun _ h9 => h9) rfl dX5_copyFrom_1 ?_
  refine lv_iconst (v := 0) hx hb dX5_copyFrom_4 (by decide) ?_
  refine lv_aload_n hx hb dX5_copyFrom_5 rfl (lv_at hl 0 rfl) ?_
  refine va_get (D := D) (ci := 6) (v := .ref (ad (b + 1))) (C := RX5) (T := TX5) (N := 3) hx hb hW inlX5 hown hK hP 0 rfl rfl 0 (by decide) (hW _ wd_64) (fun _ h9 => h9) rfl dX5_copyFrom_6 ?_
  refine lv_iconst (v := 0) hx hb dX5_copyFrom_9 (by decide) ?_
  refine lv_bipush (v := 20) hx hb dX5_copyFrom_10 (by decide) ?_
  replace hf := zn_s hf
  obtain ⟨s12, es12, hf⟩ := hf
  refine z_copyi (ws' := wX5 G ad b (s12, u.2.1, u.2.2) ++ wX5 G ad1 b1 u1) hx hb (hml.trans hl.1.symm) hown (hW _ wd_150) (hW _ wd_58) (hW _ wd_59) (hW _ wd_60) hK hP hD hS 4 1 0 rfl rfl rfl (by decide) (k := 20) (by decide) (by decide) (by decide) es12 rfl (Nat.le_of_ble_eq_true rfl) (Nat.le_of_ble_eq_true rfl) dX5_copyFrom_12 (fun H locs hP hD hS => ?_)
  refine lv_aload_n hx hb dX5_copyFrom_15 rfl (lv_at hl 1 rfl) ?_
  refine va_get (D := D) (ci := 6) (v := .ref (ad1 (b1 + 2))) (C := RX5) (T := TX5) (N := 3) hx hb hW inlX5 hown hK hP 3 rfl rfl 1 (by decide) (hW _ wd_65) (fun _ h9 => h9) rfl dX5_copyFrom_16 ?_
  refine lv_iconst (v := 0) hx hb dX5_copyFrom_19 (by decide) ?_
  refine lv_aload_n hx hb dX5_copyFrom_20 rfl (lv_at hl 0 rfl) ?_
  refine va_get (D := D) (ci := 6) (v := .ref (ad (b + 2))) (C := RX5) (T := TX5) (N := 3) hx hb hW inlX5 hown hK hP 0 rfl rfl 1 (by decide) (hW _ wd_65) (fun _ h9 => h9) rfl dX5_copyFrom_21 ?_
  refine lv_iconst (v := 0) hx hb dX5_copyFrom_24 (by decide) ?_
  refine lv_bipush (v := 20) hx hb dX5_copyFrom_25 (by decide) ?_
  replace hf := zn_s hf
  obtain ⟨s27, es27, hf⟩ := hf
  refine z_copyi (ws' := wX5 G ad b (s12, s27, u.2.2) ++ wX5 G ad1 b1 u1) hx hb (hml.trans hl.1.symm) hown (hW _ wd_150) (hW _ wd_58) (hW _ wd_59) (hW _ wd_60) hK hP hD hS 5 2 0 rfl rfl rfl (by decide) (k := 20) (by decide) (by decide) (by decide) es27 rfl (Nat.le_of_ble_eq_true rfl) (Nat.le_of_ble_eq_true rfl) dX5_copyFrom_27 (fun H locs hP hD hS => ?_)
  refine lv_aload_n hx hb dX5_copyFrom_30 rfl (lv_at hl 0 rfl) ?_
  refine lv_aload_n hx hb dX5_copyFrom_31 rfl (lv_at hl 1 rfl) ?_
  refine va_get (D := D) (ci := 6) (v := .int u1.2.2) (C := RX5) (T := TX5) (N := 3) hx hb hW inlX5 hown hK hP 3 rfl rfl 2 (by decide) (hW _ wd_66) (fun _ h9 => h9) rfl dX5_copyFrom_32 ?_
  refine z_put (ws' := wX5 G ad b (s12, s27, u1.2.2) ++ wX5 G ad1 b1 u1) (ci := 6) (C := RX5) (T := TX5) (N := 3) hx hb hW inlX5 tyX5 tyX5_ok nmX5 hown hK hP hD hS 0 rfl rfl 2 (by decide) (hW _ wd_66) rfl rfl (Nat.le_of_ble_eq_true rfl) rfl dX5_copyFrom_35 (fun H locs hP hD hS => ?_)
  obtain rfl := zo hf
  exact hret _ _ _ _ hP hD hS dX5_copyFrom_38
noncomputable def q_X0_copyFrom (u : tX0) (u1 : tX0) : Option (tX0) :=
  zn (va_cpy u1.1 u.1 0 0 6) fun s12 => some ((s12, u1.2))
set_option maxRecDepth 100000 in
set_option maxHeartbeats 4000000 in
theorem c_X0_copyFrom (l : Launch) (D : va_G) (G : zG) (ad : Nat → Nat) (b : Nat) (ad1 : Nat → Nat) (b1 : Nat) (u : tX0) (u1 : tX0) (res : tX0) (hf : q_X0_copyFrom u u1 = some res) : zMv l yX0_copyFrom cX0_copyFrom 2 none 1 26 D G (wX0 G ad b u ++ wX0 G ad1 b1 u1) (wX0 G ad b res ++ wX0 G ad1 b1 u1) [.ref (ad b), .ref (ad1 b1)] := by
  refine zs_v (plainFor_of_name (by decide)) (Nat.le_of_ble_eq_true rfl) ?_
  intro p e s m args below meth c A Q H ls C0 hret hP hD hS hl
  obtain ⟨hx, hb, hml, hown, hW, hK, hlocks, hF, hr, hA⟩ := id C0
  replace hl : lv_has ls 2 [(0, .ref (ad b)), (1, .ref (ad1 b1))] := hl
  unfold q_X0_copyFrom at hf
  refine lv_aload_n hx hb dX0_copyFrom_0 rfl (lv_at hl 1 rfl) ?_
  refine va_get (D := D) (ci := 1) (v := .ref (ad1 (b1 + 1))) (C := RX0) (T := TX0) (N := 2) hx hb hW inlX0 hown hK hP 2 rfl rfl 0 (by decide) (hW _ wd_70) (fun _ h9 => h9) rfl dX0_copyFrom_1 ?_
  refine lv_iconst (v := 0) hx hb dX0_copyFrom_4 (by decide) ?_
  refine lv_aload_n hx hb dX0_copyFrom_5 rfl (lv_at hl 0 rfl) ?_
  refine va_get (D := D) (ci := 1) (v := .ref (ad (b + 1))) (C := RX0) (T := TX0) (N := 2) hx hb hW inlX0 hown hK hP 0 rfl rfl 0 (by decide) (hW _ wd_70) (fun _ h9 => h9) rfl dX0_copyFrom_6 ?_
  refine lv_iconst (v := 0) hx hb dX0_copyFrom_9 (by decide) ?_
  refine lv_bipush (v := 6) hx hb dX0_copyFrom_10 (by decide) ?_
  replace hf := zn_s hf
  obtain ⟨s12, es12, hf⟩ := hf
  refine z_copyi (ws' := wX0 G ad b (s12, u.2) ++ wX0 G ad1 b1 u1) hx hb (hml.trans hl.1.symm) hown (hW _ wd_155) (hW _ wd_58) (hW _ wd_59) (hW _ wd_60) hK hP hD hS 3 1 0 rfl rfl rfl (by decide) (k := 6) (by decide) (by decide) (by decide) es12 rfl (Nat.le_of_ble_eq_true rfl) (Nat.le_of_ble_eq_true rfl) dX0_copyFrom_12 (fun H locs hP hD hS => ?_)
  refine lv_aload_n hx hb dX0_copyFrom_15 rfl (lv_at hl 0 rfl) ?_
  refine lv_aload_n hx hb dX0_copyFrom_16 rfl (lv_at hl 1 rfl) ?_
  refine va_get (D := D) (ci := 1) (v := .int u1.2) (C := RX0) (T := TX0) (N := 2) hx hb hW inlX0 hown hK hP 2 rfl rfl 1 (by decide) (hW _ wd_71) (fun _ h9 => h9) rfl dX0_copyFrom_17 ?_
  refine z_put (ws' := wX0 G ad b (s12, u1.2) ++ wX0 G ad1 b1 u1) (ci := 1) (C := RX0) (T := TX0) (N := 2) hx hb hW inlX0 tyX0 tyX0_ok nmX0 hown hK hP hD hS 0 rfl rfl 1 (by decide) (hW _ wd_71) rfl rfl (Nat.le_of_ble_eq_true rfl) rfl dX0_copyFrom_20 (fun H locs hP hD hS => ?_)
  obtain rfl := zo hf
  exact hret _ _ _ _ hP hD hS dX0_copyFrom_23
noncomputable def q_X3_copyFrom (u : tX3) (u1 : tX3) : Option (tX3) :=
  zn (va_cpy u1.1 u.1 0 0 10) fun s12 => zn (va_cpy u1.2.1 u.2.1 0 0 10) fun s27 => zn (va_cpy u1.2.2.1 u.2.2.1 0 0 10) fun s42 => some ((s12, s27, s42, u1.2.2.2.1, u1.2.2.2.2))
set_option maxRecDepth 100000 in
set_option maxHeartbeats 4000000 in
theorem c_X3_copyFrom (l : Launch) (D : va_G) (G : zG) (ad : Nat → Nat) (b : Nat) (ad1 : Nat → Nat) (b1 : Nat) (u : tX3) (u1 : tX3) (res : tX3) (hf : q_X3_copyFrom u u1 = some res) : zMv l yX3_copyFrom cX3_copyFrom 2 none 1 26 D G (wX3 G ad b u ++ wX3 G ad1 b1 u1) (wX3 G ad b res ++ wX3 G ad1 b1 u1) [.ref (ad b), .ref (ad1 b1)] := by
  refine zs_v (plainFor_of_name (by decide)) (Nat.le_of_ble_eq_true rfl) ?_
  intro p e s m args below meth c A Q H ls C0 hret hP hD hS hl
  obtain ⟨hx, hb, hml, hown, hW, hK, hlocks, hF, hr, hA⟩ := id C0
  replace hl : lv_has ls 2 [(0, .ref (ad b)), (1, .ref (ad1 b1))] := hl
  unfold q_X3_copyFrom at hf
  refine lv_aload_n hx hb dX3_copyFrom_0 rfl (lv_at hl 1 rfl) ?_
  refine va_get (D := D) (ci := 4) (v := .ref (ad1 (b1 + 1))) (C := RX3) (T := TX3) (N := 5) hx hb hW inlX3 hown hK hP 4 rfl rfl 0 (by decide) (hW _ wd_75) (fun _ h9 => h9) rfl dX3_copyFrom_1 ?_
  refine lv_iconst (v := 0) hx hb dX3_copyFrom_4 (by decide) ?_
  refine lv_aload_n hx hb dX3_copyFrom_5 rfl (lv_at hl 0 rfl) ?_
  refine va_get (D := D) (ci := 4) (v := .ref (ad (b + 1))) (C := RX3) (T := TX3) (N := 5) hx hb hW inlX3 hown hK hP 0 rfl rfl 0 (by decide) (hW _ wd_75) (fun _ h9 => h9) rfl dX3_copyFrom_6 ?_
  refine lv_iconst (v := 0) hx hb dX3_copyFrom_9 (by decide) ?_
  refine lv_bipush (v := 10) hx hb dX3_copyFrom_10 (by decide) ?_
  replace hf := zn_s hf
  obtain ⟨s12, es12, hf⟩ := hf
  refine z_copyi (ws' := wX3 G ad b (s12, u.2.1, u.2.2.1, u.2.2.2.1, u.2.2.2.2) ++ wX3 G ad1 b1 u1) hx hb (hml.trans hl.1.symm) hown (hW _ wd_160) (hW _ wd_58) (hW _ wd_59) (hW _ wd_60) hK hP hD hS 5 1 0 rfl rfl rfl (by decide) (k := 10) (by decide) (by decide) (by decide) es12 rfl (Nat.le_of_ble_eq_true rfl) (Nat.le_of_ble_eq_true rfl) dX3_copyFrom_12 (fun H locs hP hD hS => ?_)
  refine lv_aload_n hx hb dX3_copyFrom_15 rfl (lv_at hl 1 rfl) ?_
  refine va_get (D := D) (ci := 4) (v := .ref (ad1 (b1 + 2))) (C := RX3) (T := TX3) (N := 5) hx hb hW inlX3 hown hK hP 4 rfl rfl 1 (by decide) (hW _ wd_76) (fun _ h9 => h9) rfl dX3_copyFrom_16 ?_
  refine lv_iconst (v := 0) hx hb dX3_copyFrom_19 (by decide) ?_
  refine lv_aload_n hx hb dX3_copyFrom_20 rfl (lv_at hl 0 rfl) ?_
  refine va_get (D := D) (ci := 4) (v := .ref (ad (b + 2))) (C := RX3) (T := TX3) (N := 5) hx hb hW inlX3 hown hK hP 0 rfl rfl 1 (by decide) (hW _ wd_76) (fun _ h9 => h9) rfl dX3_copyFrom_21 ?_
  refine lv_iconst (v := 0) hx hb dX3_copyFrom_24 (by decide) ?_
  refine lv_bipush (v := 10) hx hb dX3_copyFrom_25 (by decide) ?_
  replace hf := zn_s hf
  obtain ⟨s27, es27, hf⟩ := hf
  refine z_copyi (ws' := wX3 G ad b (s12, s27, u.2.2.1, u.2.2.2.1, u.2.2.2.2) ++ wX3 G ad1 b1 u1) hx hb (hml.trans hl.1.symm) hown (hW _ wd_160) (hW _ wd_58) (hW _ wd_59) (hW _ wd_60) hK hP hD hS 6 2 0 rfl rfl rfl (by decide) (k := 10) (by decide) (by decide) (by decide) es27 rfl (Nat.le_of_ble_eq_true rfl) (Nat.le_of_ble_eq_true rfl) dX3_copyFrom_27 (fun H locs hP hD hS => ?_)
  refine lv_aload_n hx hb dX3_copyFrom_30 rfl (lv_at hl 1 rfl) ?_
  refine va_get (D := D) (ci := 4) (v := .ref (ad1 (b1 + 3))) (C := RX3) (T := TX3) (N := 5) hx hb hW inlX3 hown hK hP 4 rfl rfl 2 (by decide) (hW _ wd_77) (fun _ h9 => h9) rfl dX3_copyFrom_31 ?_
  refine lv_iconst (v := 0) hx hb dX3_copyFrom_34 (by decide) ?_
  refine lv_aload_n hx hb dX3_copyFrom_35 rfl (lv_at hl 0 rfl) ?_
  refine va_get (D := D) (ci := 4) (v := .ref (ad (b + 3))) (C := RX3) (T := TX3) (N := 5) hx hb hW inlX3 hown hK hP 0 rfl rfl 2 (by decide) (hW _ wd_77) (fun _ h9 => h9) rfl dX3_copyFrom_36 ?_
  refine lv_iconst (v := 0) hx hb dX3_copyFrom_39 (by decide) ?_
  refine lv_bipush (v := 10) hx hb dX3_copyFrom_40 (by decide) ?_
  replace hf := zn_s hf
  obtain ⟨s42, es42, hf⟩ := hf
  refine z_copyi (ws' := wX3 G ad b (s12, s27, s42, u.2.2.2.1, u.2.2.2.2) ++ wX3 G ad1 b1 u1) hx hb (hml.trans hl.1.symm) hown (hW _ wd_160) (hW _ wd_58) (hW _ wd_59) (hW _ wd_60) hK hP hD hS 7 3 0 rfl rfl rfl (by decide) (k := 10) (by decide) (by decide) (by decide) es42 rfl (Nat.le_of_ble_eq_true rfl) (Nat.le_of_ble_eq_true rfl) dX3_copyFrom_42 (fun H locs hP hD hS => ?_)
  refine lv_aload_n hx hb dX3_copyFrom_45 rfl (lv_at hl 0 rfl) ?_
  refine lv_aload_n hx hb dX3_copyFrom_46 rfl (lv_at hl 1 rfl) ?_
  refine va_get (D := D) (ci := 4) (v := .int u1.2.2.2.1) (C := RX3) (T := TX3) (N := 5) hx hb hW inlX3 hown hK hP 4 rfl rfl 3 (by decide) (hW _ wd_78) (fun _ h9 => h9) rfl dX3_copyFrom_47 ?_
  refine z_put (ws' := wX3 G ad b (s12, s27, s42, u1.2.2.2.1, u.2.2.2.2) ++ wX3 G ad1 b1 u1) (ci := 4) (C := RX3) (T := TX3) (N := 5) hx hb hW inlX3 tyX3 tyX3_ok nmX3 hown hK hP hD hS 0 rfl rfl 3 (by decide) (hW _ wd_78) rfl rfl (Nat.le_of_ble_eq_true rfl) rfl dX3_copyFrom_50 (fun H locs hP hD hS => ?_)
  refine lv_aload_n hx hb dX3_copyFrom_53 rfl (lv_at hl 0 rfl) ?_
  refine lv_aload_n hx hb dX3_copyFrom_54 rfl (lv_at hl 1 rfl) ?_
  refine va_get (D := D) (ci := 4) (v := .int u1.2.2.2.2) (C := RX3) (T := TX3) (N := 5) hx hb hW inlX3 hown hK hP 4 rfl rfl 4 (by decide) (hW _ wd_79) (fun _ h9 => h9) rfl dX3_copyFrom_55 ?_
  refine z_put (ws' := wX3 G ad b (s12, s27, s42, u1.2.2.2.1, u1.2.2.2.2) ++ wX3 G ad1 b1 u1) (ci := 4) (C := RX3) (T := TX3) (N := 5) hx hb hW inlX3 tyX3 tyX3_ok nmX3 hown hK hP hD hS 0 rfl rfl 4 (by decide) (hW _ wd_79) rfl rfl (Nat.le_of_ble_eq_true rfl) rfl dX3_copyFrom_58 (fun H locs hP hD hS => ?_)
  obtain rfl := zo hf
  exact hret _ _ _ _ hP hD hS dX3_copyFrom_61
noncomputable def q_X0_placeOf_L2 (u : tX0) (p1 : Int32) (v2 : Int32) : Option ((Int32) ⊕ (((Unit) ⊕ (Int32)))) :=
  (if u.2 ≤ v2 then some (Sum.inr (Sum.inl ())) else zg 6 u.1 v2 fun a15 => (if a15 = p1 then some (Sum.inr (Sum.inr (v2))) else some (Sum.inl ((v2 + 1)))))
noncomputable def q_X0_placeOf (u : tX0) (p1 : Int32) : Option (Int32) :=
  zb (zl 1000000 (q_X0_placeOf_L2 u p1) (0)) (zm (fun e2_0 => some ((-6))) (fun e2_1 => some (e2_1)))
set_option maxRecDepth 100000 in
set_option maxHeartbeats 4000000 in
theorem c_X0_placeOf (l : Launch) (D : va_G) (G : zG) (ad : Nat → Nat) (b : Nat) (u : tX0) (p1 : Int32) (res : Int32) (hf : q_X0_placeOf u p1 = some res) : zMi l yX0_placeOf cX0_placeOf 3 (some .int) 0 0 D G (wX0 G ad b u) (wX0 G ad b u) [.ref (ad b), .int p1] res := by
  refine zs_i (plainFor_of_name (by decide)) (Nat.le_of_ble_eq_true rfl) ?_
  intro p e s m args below meth c A Q H ls C0 hret hP hD hS hl
  obtain ⟨hx, hb, hml, hown, hW, hK, hlocks, hF, hr, hA⟩ := id C0
  replace hl : lv_has ls 3 [(0, .ref (ad b)), (1, .int p1)] := hl
  unfold q_X0_placeOf at hf
  refine lv_iconst (v := 0) hx hb dX0_placeOf_0 (by decide) ?_
  refine lv_istore_n (lv' := [(2, .int 0), (0, .ref (ad b)), (1, .int p1)]) hx hb dX0_placeOf_1 rfl hl (by decide) rfl (fun ls hl => ?_)
  replace hf := zb_s hf
  obtain ⟨b2, hz2, hk2⟩ := hf
  have L2 : ∀ (n2 : Nat) (v2 : Int32) (hz2 : zl n2 (q_X0_placeOf_L2 u p1) v2 = some b2) (H : Heap) (locs : List Loc) (hP : va_P D vwCl (wX0 G ad b u) H) (hD : va_D A (wX0 G ad b u)) (hS : va_S A s.heap H locs) (ls : Array Slot) (hl : lv_has ls 3 [(0, .ref (ad b)), (1, .int p1), (2, .int v2)]), W p l e (zRm 0 0) s m args below meth c H locs 0 0 Q (F0 m 2 ls []) := by
    intro n2
    induction n2 with
    | zero => intro v2 hz2; exact (zl_0 hz2).elim
    | succ n2 ih2 =>
      intro v2 hz2 H locs hP hD hS ls hl
      obtain ⟨o2, hf, hz2⟩ := zl_s hz2
      unfold q_X0_placeOf_L2 at hf
      refine lv_iload_n hx hb dX0_placeOf_2 rfl (lv_at hl 2 rfl) ?_
      refine lv_aload_n hx hb dX0_placeOf_3 rfl (lv_at hl 0 rfl) ?_
      refine va_get (D := D) (ci := 1) (v := .int u.2) (C := RX0) (T := TX0) (N := 2) hx hb hW inlX0 hown hK hP 0 rfl rfl 1 (by decide) (hW _ wd_71) (fun _ h9 => h9) rfl dX0_placeOf_4 ?_
      refine lv_icmp_ge (tgt := 28) hx hb dX0_placeOf_7 (by decide) (fun c7 => ?_) (fun c7 => ?_)
      · replace hf := zi_p hf c7
        have hb2 := zk_r hf hz2
        subst hb2
        replace hf := (zm_l hk2)
        refine lv_bipush (v := (-6)) hx hb dX0_placeOf_28 (by decide) ?_
        obtain rfl := zo hf
        exact hret _ _ _ _ _ hP hD hS rfl dX0_placeOf_30
      · replace hf := zi_n hf c7
        refine lv_aload_n hx hb dX0_placeOf_10 rfl (lv_at hl 0 rfl) ?_
        refine va_get (D := D) (ci := 1) (v := .ref (ad (b + 1))) (C := RX0) (T := TX0) (N := 2) hx hb hW inlX0 hown hK hP 0 rfl rfl 0 (by decide) (hW _ wd_70) (fun _ h9 => h9) rfl dX0_placeOf_11 ?_
        refine lv_iload_n hx hb dX0_placeOf_14 rfl (lv_at hl 2 rfl) ?_
        replace hf := zg_s hf
        obtain ⟨hi15, a15, ea15, hf⟩ := hf
        refine z_iald hx hb hK hP 1 0 rfl rfl hi15 ea15 dX0_placeOf_15 ?_
        refine lv_iload_n hx hb dX0_placeOf_16 rfl (lv_at hl 1 rfl) ?_
        refine lv_icmp_ne (tgt := 22) hx hb dX0_placeOf_17 (by decide) (fun c17 => ?_) (fun c17 => ?_)
        · replace hf := zi_n hf c17
          refine lv_iinc (v := (v2 + 1)) (lv' := [(2, .int (v2 + 1)), (0, .ref (ad b)), (1, .int p1)]) hx hb dX0_placeOf_22 hl (k := 2) rfl rfl (by decide) rfl (fun ls hl => ?_)
          refine lv_goto (tgt := 2) hx hb dX0_placeOf_25 (by decide) ?_
          exact ih2 _ (zk_l hf hz2) _ _ hP hD hS _ (lv_sub hl [1, 2, 0] rfl)
        · replace hf := zi_p hf c17
          have hb2 := zk_r hf hz2
          subst hb2
          replace hf := (zm_r hk2)
          refine lv_iload_n hx hb dX0_placeOf_20 rfl (lv_at hl 2 rfl) ?_
          obtain rfl := zo hf
          exact hret _ _ _ _ _ hP hD hS rfl dX0_placeOf_21
  exact L2 _ _ hz2 _ _ hP hD hS _ (lv_sub hl [1, 2, 0] rfl)
noncomputable def q_X0_append (u : tX0) (p1 : Int32) : Option (Int32 × tX0) :=
  (if u.2 < 6 then zs 6 u.1 u.2 p1 fun s20 => zn (u.2 + 1) fun k28 => some (1, (s20, k28)) else some (0, u))
set_option maxRecDepth 100000 in
set_option maxHeartbeats 4000000 in
theorem c_X0_append (l : Launch) (D : va_G) (G : zG) (ad : Nat → Nat) (b : Nat) (u : tX0) (p1 : Int32) (res : Int32 × tX0) (hf : q_X0_append u p1 = some res) : zMi l yX0_append cX0_append 2 (some .boolean) 0 0 D G (wX0 G ad b u) (wX0 G ad b res.2) [.ref (ad b), .int p1] res.1 := by
  refine zs_z (plainFor_of_name (by decide)) (Nat.le_of_ble_eq_true rfl) ?_
  intro p e s m args below meth c A Q H ls C0 hret hP hD hS hl
  obtain ⟨hx, hb, hml, hown, hW, hK, hlocks, hF, hr, hA⟩ := id C0
  replace hl : lv_has ls 2 [(0, .ref (ad b)), (1, .int p1)] := hl
  unfold q_X0_append at hf
  refine lv_aload_n hx hb dX0_append_0 rfl (lv_at hl 0 rfl) ?_
  refine va_get (D := D) (ci := 1) (v := .int u.2) (C := RX0) (T := TX0) (N := 2) hx hb hW inlX0 hown hK hP 0 rfl rfl 1 (by decide) (hW _ wd_71) (fun _ h9 => h9) rfl dX0_append_1 ?_
  refine lv_bipush (v := 6) hx hb dX0_append_4 (by decide) ?_
  refine lv_icmp_lt (tgt := 11) hx hb dX0_append_6 (by decide) (fun c6 => ?_) (fun c6 => ?_)
  · replace hf := zi_p hf c6
    refine lv_aload_n hx hb dX0_append_11 rfl (lv_at hl 0 rfl) ?_
    refine va_get (D := D) (ci := 1) (v := .ref (ad (b + 1))) (C := RX0) (T := TX0) (N := 2) hx hb hW inlX0 hown hK hP 0 rfl rfl 0 (by decide) (hW _ wd_70) (fun _ h9 => h9) rfl dX0_append_12 ?_
    refine lv_aload_n hx hb dX0_append_15 rfl (lv_at hl 0 rfl) ?_
    refine va_get (D := D) (ci := 1) (v := .int u.2) (C := RX0) (T := TX0) (N := 2) hx hb hW inlX0 hown hK hP 0 rfl rfl 1 (by decide) (hW _ wd_71) (fun _ h9 => h9) rfl dX0_append_16 ?_
    refine lv_iload_n hx hb dX0_append_19 rfl (lv_at hl 1 rfl) ?_
    replace hf := zs_s hf
    obtain ⟨hi20, s20, es20, hf⟩ := hf
    refine z_iast (ws' := wX0 G ad b (s20, u.2)) hx hb hK hP hD hS 1 0 rfl rfl hi20 es20 rfl dX0_append_20 (fun H locs hP hD hS => ?_)
    refine lv_aload_n hx hb dX0_append_21 rfl (lv_at hl 0 rfl) ?_
    refine lv_dup hx hb dX0_append_22 rfl ?_
    refine va_get (D := D) (ci := 1) (v := .int u.2) (C := RX0) (T := TX0) (N := 2) hx hb hW inlX0 hown hK hP 0 rfl rfl 1 (by decide) (hW _ wd_71) (fun _ h9 => h9) rfl dX0_append_23 ?_
    refine lv_iconst (v := 1) hx hb dX0_append_26 (by decide) ?_
    refine lv_iadd hx hb dX0_append_27 ?_
    replace hf := zn_s hf
    obtain ⟨k28, ek28, hf⟩ := hf
    refine z_top ek28 ?_
    refine z_put (ws' := wX0 G ad b (s20, k28)) (ci := 1) (C := RX0) (T := TX0) (N := 2) hx hb hW inlX0 tyX0 tyX0_ok nmX0 hown hK hP hD hS 0 rfl rfl 1 (by decide) (hW _ wd_71) rfl rfl (Nat.le_of_ble_eq_true rfl) rfl dX0_append_28 (fun H locs hP hD hS => ?_)
    refine lv_iconst (v := 1) hx hb dX0_append_31 (by decide) ?_
    obtain rfl := zo hf
    exact hret _ _ _ _ _ hP hD hS rfl rfl dX0_append_32
  · replace hf := zi_n hf c6
    refine lv_iconst (v := 0) hx hb dX0_append_9 (by decide) ?_
    obtain rfl := zo hf
    exact hret _ _ _ _ _ hP hD hS rfl rfl dX0_append_10
theorem kX0_25 : zLkV RX0 25 yX0_placeOf cX0_placeOf 3 (some .int) 1 := ⟨⟨wd_217, wd_195, wd_196, wd_39, wd_197⟩, by decide +kernel⟩
noncomputable def q_X0_drop_J46 (u : tX0) (w46_0 : Nat → Int32) : Option (Int32 × tX0) :=
  zn (u.2 - 1) fun k53 => some (1, (w46_0, k53))
noncomputable def q_X0_drop_L18 (u : tX0) (v18 : Int32 × (Nat → Int32)) : Option ((Int32 × (Nat → Int32)) ⊕ ((Nat → Int32))) :=
  (if u.2 ≤ v18.1 then some (Sum.inr (v18.2)) else zg 6 v18.2 v18.1 fun a38 => zs 6 v18.2 (v18.1 - 1) a38 fun s39 => some (Sum.inl ((v18.1 + 1), s39)))
noncomputable def q_X0_drop (u : tX0) (p1 : Int32) : Option (Int32 × tX0) :=
  zb (q_X0_placeOf u p1) fun r2 => (if r2 = (-6) then some (0, u) else zb (zl 1000000 (q_X0_drop_L18 u) ((r2 + 1), u.1)) (fun b18 => q_X0_drop_J46 u b18))
set_option maxRecDepth 100000 in
set_option maxHeartbeats 4000000 in
theorem c_X0_drop (l : Launch) (D : va_G) (G : zG) (ad : Nat → Nat) (b : Nat) (u : tX0) (p1 : Int32) (res : Int32 × tX0) (hf : q_X0_drop u p1 = some res) : zMi l yX0_drop cX0_drop 4 (some .boolean) 1 22 D G (wX0 G ad b u) (wX0 G ad b res.2) [.ref (ad b), .int p1] res.1 := by
  refine zs_z (plainFor_of_name (by decide)) (Nat.le_of_ble_eq_true rfl) ?_
  intro p e s m args below meth c A Q H ls C0 hret hP hD hS hl
  obtain ⟨hx, hb, hml, hown, hW, hK, hlocks, hF, hr, hA⟩ := id C0
  replace hl : lv_has ls 4 [(0, .ref (ad b)), (1, .int p1)] := hl
  unfold q_X0_drop at hf
  refine lv_aload_n hx hb dX0_drop_0 rfl (lv_at hl 0 rfl) ?_
  refine lv_iload_n hx hb dX0_drop_1 rfl (lv_at hl 1 rfl) ?_
  replace hf := zb_s hf
  obtain ⟨r2, hr2, hf⟩ := hf
  refine z_Vi (rest := []) C0 kX0_25 (c_X0_placeOf l D G ad (b) u p1 r2 hr2) z_pall z_pall.symm (ci := 1) (T := TX0) (N := 2) rfl rfl rfl ⟨Nat.le_of_ble_eq_true rfl, Nat.le_of_ble_eq_true rfl⟩ (Nat.le_of_ble_eq_true rfl) rfl hl.1 hP hD hS dX0_drop_2 (fun H locs hP hD hS => ?_)
  refine lv_istore_n (lv' := [(2, .int r2), (0, .ref (ad b)), (1, .int p1)]) hx hb dX0_drop_5 rfl hl (by decide) rfl (fun ls hl => ?_)
  refine lv_iload_n hx hb dX0_drop_6 rfl (lv_at hl 0 rfl) ?_
  refine lv_bipush (v := (-6)) hx hb dX0_drop_7 (by decide) ?_
  refine lv_icmp_ne (tgt := 14) hx hb dX0_drop_9 (by decide) (fun c9 => ?_) (fun c9 => ?_)
  · replace hf := zi_n hf c9
    refine lv_iload_n hx hb dX0_drop_14 rfl (lv_at hl 0 rfl) ?_
    refine lv_iconst (v := 1) hx hb dX0_drop_15 (by decide) ?_
    refine lv_iadd hx hb dX0_drop_16 ?_
    refine lv_istore_n (lv' := [(3, .int (r2 + 1)), (2, .int r2), (0, .ref (ad b)), (1, .int p1)]) hx hb dX0_drop_17 rfl hl (by decide) rfl (fun ls hl => ?_)
    have J46 : ∀ (w46_0 : Nat → Int32) (hf : q_X0_drop_J46 u w46_0 = some res) (H : Heap) (locs : List Loc) (hP : va_P D vwCl (wX0 G ad b (w46_0, u.2)) H) (hD : va_D A (wX0 G ad b (w46_0, u.2))) (hS : va_S A s.heap H locs) (ls : Array Slot) (hl : lv_has ls 4 [(0, .ref (ad b))]), W p l e (zRm 1 22) s m args below meth c H locs 0 0 Q (F0 m 46 ls []) := by
      intro w46_0 hf H locs hP hD hS ls hl
      unfold q_X0_drop_J46 at hf
      refine lv_aload_n hx hb dX0_drop_46 rfl (lv_at hl 0 rfl) ?_
      refine lv_dup hx hb dX0_drop_47 rfl ?_
      refine va_get (D := D) (ci := 1) (v := .int u.2) (C := RX0) (T := TX0) (N := 2) hx hb hW inlX0 hown hK hP 0 rfl rfl 1 (by decide) (hW _ wd_71) (fun _ h9 => h9) rfl dX0_drop_48 ?_
      refine lv_iconst (v := 1) hx hb dX0_drop_51 (by decide) ?_
      refine lv_isub hx hb dX0_drop_52 ?_
      replace hf := zn_s hf
      obtain ⟨k53, ek53, hf⟩ := hf
      refine z_top ek53 ?_
      refine z_put (ws' := wX0 G ad b (w46_0, k53)) (ci := 1) (C := RX0) (T := TX0) (N := 2) hx hb hW inlX0 tyX0 tyX0_ok nmX0 hown hK hP hD hS 0 rfl rfl 1 (by decide) (hW _ wd_71) rfl rfl (Nat.le_of_ble_eq_true rfl) rfl dX0_drop_53 (fun H locs hP hD hS => ?_)
      refine lv_iconst (v := 1) hx hb dX0_drop_56 (by decide) ?_
      obtain rfl := zo hf
      exact hret _ _ _ _ _ hP hD hS rfl rfl dX0_drop_57
    replace hf := zb_s hf
    obtain ⟨b18, hz18, hk18⟩ := hf
    have L18 : ∀ (n18 : Nat) (v18 : Int32 × (Nat → Int32)) (hz18 : zl n18 (q_X0_drop_L18 u) v18 = some b18) (H : Heap) (locs : List Loc) (hP : va_P D vwCl (wX0 G ad b (v18.2, u.2)) H) (hD : va_D A (wX0 G ad b (v18.2, u.2))) (hS : va_S A s.heap H locs) (ls : Array Slot) (hl : lv_has ls 4 [(0, .ref (ad b)), (3, .int v18.1)]), W p l e (zRm 1 22) s m args below meth c H locs 0 0 Q (F0 m 18 ls []) := by
      intro n18
      induction n18 with
      | zero => intro v18 hz18; exact (zl_0 hz18).elim
      | succ n18 ih18 =>
        intro v18 hz18 H locs hP hD hS ls hl
        obtain ⟨o18, hf, hz18⟩ := zl_s hz18
        unfold q_X0_drop_L18 at hf
        refine lv_iload_n hx hb dX0_drop_18 rfl (lv_at hl 1 rfl) ?_
        refine lv_aload_n hx hb dX0_drop_19 rfl (lv_at hl 0 rfl) ?_
        refine va_get (D := D) (ci := 1) (v := .int u.2) (C := RX0) (T := TX0) (N := 2) hx hb hW inlX0 hown hK hP 0 rfl rfl 1 (by decide) (hW _ wd_71) (fun _ h9 => h9) rfl dX0_drop_20 ?_
        refine lv_icmp_ge (tgt := 46) hx hb dX0_drop_23 (by decide) (fun c23 => ?_) (fun c23 => ?_)
        · replace hf := zi_p hf c23
          have hb18 := zk_r hf hz18
          subst hb18
          replace hf := hk18
          exact J46 v18.2 hf _ _ hP hD hS _ (lv_sub hl [0] rfl)
        · replace hf := zi_n hf c23
          refine lv_aload_n hx hb dX0_drop_26 rfl (lv_at hl 0 rfl) ?_
          refine va_get (D := D) (ci := 1) (v := .ref (ad (b + 1))) (C := RX0) (T := TX0) (N := 2) hx hb hW inlX0 hown hK hP 0 rfl rfl 0 (by decide) (hW _ wd_70) (fun _ h9 => h9) rfl dX0_drop_27 ?_
          refine lv_iload_n hx hb dX0_drop_30 rfl (lv_at hl 1 rfl) ?_
          refine lv_iconst (v := 1) hx hb dX0_drop_31 (by decide) ?_
          refine lv_isub hx hb dX0_drop_32 ?_
          refine lv_aload_n hx hb dX0_drop_33 rfl (lv_at hl 0 rfl) ?_
          refine va_get (D := D) (ci := 1) (v := .ref (ad (b + 1))) (C := RX0) (T := TX0) (N := 2) hx hb hW inlX0 hown hK hP 0 rfl rfl 0 (by decide) (hW _ wd_70) (fun _ h9 => h9) rfl dX0_drop_34 ?_
          refine lv_iload_n hx hb dX0_drop_37 rfl (lv_at hl 1 rfl) ?_
          replace hf := zg_s hf
          obtain ⟨hi38, a38, ea38, hf⟩ := hf
          refine z_iald hx hb hK hP 1 0 rfl rfl hi38 ea38 dX0_drop_38 ?_
          replace hf := zs_s hf
          obtain ⟨hi39, s39, es39, hf⟩ := hf
          refine z_iast (ws' := wX0 G ad b (s39, u.2)) hx hb hK hP hD hS 1 0 rfl rfl hi39 es39 rfl dX0_drop_39 (fun H locs hP hD hS => ?_)
          refine lv_iinc (v := (v18.1 + 1)) (lv' := [(3, .int (v18.1 + 1)), (0, .ref (ad b))]) hx hb dX0_drop_40 hl (k := 1) rfl rfl (by decide) rfl (fun ls hl => ?_)
          refine lv_goto (tgt := 18) hx hb dX0_drop_43 (by decide) ?_
          exact ih18 _ (zk_l hf hz18) _ _ hP hD hS _ (lv_sub hl [1, 0] rfl)
    exact L18 _ _ hz18 _ _ hP hD hS _ (lv_sub hl [2, 0] rfl)
  · replace hf := zi_p hf c9
    refine lv_iconst (v := 0) hx hb dX0_drop_12 (by decide) ?_
    obtain rfl := zo hf
    exact hret _ _ _ _ _ hP hD hS rfl rfl dX0_drop_13
