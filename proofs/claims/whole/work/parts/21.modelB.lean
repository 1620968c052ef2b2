theorem kX7_137 : zLkV RX7 137 yX7_placeOf cX7_placeOf 4 (some .int) 1 := ⟨⟨wd_290, wd_291, wd_292, wd_5, wd_293⟩, by decide +kernel⟩
noncomputable def q_X7_whyNotAsked (u : tX7) (p1 : Int32) : Option (Int32) :=
  zb (q_X7_isSpan p1) fun r1 => (if r1 = 0 then some ((-1)) else zb (q_X7_placeOf u p1) fun r11 => (if r11 = (-6) then (if (u.1 5) = p1 then some ((-3)) else (if (u.1 8) = 6 then some ((-4)) else some (0))) else some ((-3))))
set_option maxRecDepth 100000 in
set_option maxHeartbeats 4000000 in
theorem c_X7_whyNotAsked (l : Launch) (D : va_G) (G : zG) (ad : Nat → Nat) (b : Nat) (u : tX7) (p1 : Int32) (res : Int32) (hf : q_X7_whyNotAsked u p1 = some res) : zMi l yX7_whyNotAsked cX7_whyNotAsked 2 (some .int) 2 42 D G (wX7 G ad b u) (wX7 G ad b u) [.ref (ad b), .int p1] res := by
  refine zs_i (plainFor_of_name (by decide)) (Nat.le_of_ble_eq_true rfl) ?_
  intro p e s m args below meth c A Q H ls C0 hret hP hD hS hl
  obtain ⟨hx, hb, hml, hown, hW, hK, hlocks, hF, hr, hA⟩ := id C0
  replace hl : lv_has ls 2 [(0, .ref (ad b)), (1, .int p1)] := hl
  unfold q_X7_whyNotAsked at hf
  refine lv_iload_n hx hb dX7_whyNotAsked_0 rfl (lv_at hl 1 rfl) ?_
  replace hf := zb_s hf
  obtain ⟨r1, hr1, hf⟩ := hf
  refine z_Si (rest := []) C0 kX7_125 (c_X7_isSpan l D G p1 r1 hr1) (List.Perm.refl _) (List.Perm.refl _) rfl ⟨Nat.le_of_ble_eq_true rfl, Nat.le_of_ble_eq_true rfl⟩ (Nat.le_of_ble_eq_true rfl) rfl hl.1 hP hD hS dX7_whyNotAsked_1 (fun H locs hP hD hS => ?_)
  refine lv_if_ne (tgt := 9) hx hb dX7_whyNotAsked_4 (by decide) (fun c4 => ?_) (fun c4 => ?_)
  · replace hf := zi_n hf c4
    refine lv_aload_n hx hb dX7_whyNotAsked_9 rfl (lv_at hl 0 rfl) ?_
    refine lv_iload_n hx hb dX7_whyNotAsked_10 rfl (lv_at hl 1 rfl) ?_
    replace hf := zb_s hf
    obtain ⟨r11, hr11, hf⟩ := hf
    refine z_Vi (rest := []) C0 kX7_137 (c_X7_placeOf l D G ad (b) u p1 r11 hr11) z_pall z_pall.symm (ci := 8) (T := TX7) (N := 11) rfl rfl rfl ⟨Nat.le_of_ble_eq_true rfl, Nat.le_of_ble_eq_true rfl⟩ (Nat.le_of_ble_eq_true rfl) rfl hl.1 hP hD hS dX7_whyNotAsked_11 (fun H locs hP hD hS => ?_)
    refine lv_bipush (v := (-6)) hx hb dX7_whyNotAsked_14 (by decide) ?_
    refine lv_icmp_ne (tgt := 29) hx hb dX7_whyNotAsked_16 (by decide) (fun c16 => ?_) (fun c16 => ?_)
    · replace hf := zi_n hf c16
      refine lv_bipush (v := (-3)) hx hb dX7_whyNotAsked_29 (by decide) ?_
      refine lv_goto (tgt := 52) hx hb dX7_whyNotAsked_31 (by decide) ?_
      obtain rfl := zo hf
      exact hret _ _ _ _ _ hP hD hS rfl dX7_whyNotAsked_52
    · replace hf := zi_p hf c16
      refine lv_aload_n hx hb dX7_whyNotAsked_19 rfl (lv_at hl 0 rfl) ?_
      refine va_get (D := D) (ci := 8) (v := .ref (ad (b + 1))) (C := RX7) (T := TX7) (N := 11) hx hb hW inlX7 hown hK hP 0 rfl rfl 0 (by decide) (hW _ wd_127) (fun _ h9 => h9) rfl dX7_whyNotAsked_20 ?_
      refine lv_iconst (v := 5) hx hb dX7_whyNotAsked_23 (by decide) ?_
      refine z_iald (v := (u.1 5)) hx hb hK hP 1 0 rfl rfl (z_in rfl) rfl dX7_whyNotAsked_24 ?_
      refine lv_iload_n hx hb dX7_whyNotAsked_25 rfl (lv_at hl 1 rfl) ?_
      refine lv_icmp_ne (tgt := 34) hx hb dX7_whyNotAsked_26 (by decide) (fun c26 => ?_) (fun c26 => ?_)
      · replace hf := zi_n hf c26
        refine lv_aload_n hx hb dX7_whyNotAsked_34 rfl (lv_at hl 0 rfl) ?_
        refine va_get (D := D) (ci := 8) (v := .ref (ad (b + 1))) (C := RX7) (T := TX7) (N := 11) hx hb hW inlX7 hown hK hP 0 rfl rfl 0 (by decide) (hW _ wd_127) (fun _ h9 => h9) rfl dX7_whyNotAsked_35 ?_
        refine lv_bipush (v := 8) hx hb dX7_whyNotAsked_38 (by decide) ?_
        refine z_iald (v := (u.1 8)) hx hb hK hP 1 0 rfl rfl (z_in rfl) rfl dX7_whyNotAsked_40 ?_
        refine lv_bipush (v := 6) hx hb dX7_whyNotAsked_41 (by decide) ?_
        refine lv_icmp_ne (tgt := 51) hx hb dX7_whyNotAsked_43 (by decide) (fun c43 => ?_) (fun c43 => ?_)
        · replace hf := zi_n hf c43
          refine lv_iconst (v := 0) hx hb dX7_whyNotAsked_51 (by decide) ?_
          obtain rfl := zo hf
          exact hret _ _ _ _ _ hP hD hS rfl dX7_whyNotAsked_52
        · replace hf := zi_p hf c43
          refine lv_bipush (v := (-4)) hx hb dX7_whyNotAsked_46 (by decide) ?_
          refine lv_goto (tgt := 52) hx hb dX7_whyNotAsked_48 (by decide) ?_
          obtain rfl := zo hf
          exact hret _ _ _ _ _ hP hD hS rfl dX7_whyNotAsked_52
      · replace hf := zi_p hf c26
        refine lv_bipush (v := (-3)) hx hb dX7_whyNotAsked_29 (by decide) ?_
        refine lv_goto (tgt := 52) hx hb dX7_whyNotAsked_31 (by decide) ?_
        obtain rfl := zo hf
        exact hret _ _ _ _ _ hP hD hS rfl dX7_whyNotAsked_52
  · replace hf := zi_p hf c4
    refine lv_iconst (v := (-1)) hx hb dX7_whyNotAsked_7 (by decide) ?_
    obtain rfl := zo hf
    exact hret _ _ _ _ _ hP hD hS rfl dX7_whyNotAsked_8
noncomputable def q_X7_asks (u : tX7) (p1 : Int32) : Option (Int32 × (Nat → Int32)) :=
  zs 104 u.1 (28 + (u.1 8)) p1 fun s15 => zn (upd s15 8 ((s15 8) + 1)) fun s26 => some (((s26 8) - 1), s26)
set_option maxRecDepth 100000 in
set_option maxHeartbeats 4000000 in
theorem c_X7_asks (l : Launch) (D : va_G) (G : zG) (ad : Nat → Nat) (b : Nat) (u : tX7) (p1 : Int32) (res : Int32 × (Nat → Int32)) (hf : q_X7_asks u p1 = some res) : zMi l yX7_asks cX7_asks 2 (some .int) 0 0 D G (wX7 G ad b u) (wX7 G ad b (res.2, u.2.1, u.2.2.1, u.2.2.2.1, u.2.2.2.2.1, u.2.2.2.2.2.1, u.2.2.2.2.2.2.1, u.2.2.2.2.2.2.2.1, u.2.2.2.2.2.2.2.2.1, u.2.2.2.2.2.2.2.2.2.1, u.2.2.2.2.2.2.2.2.2.2)) [.ref (ad b), .int p1] res.1 := by
  refine zs_i (plainFor_of_name (by decide)) (Nat.le_of_ble_eq_true rfl) ?_
  intro p e s m args below meth c A Q H ls C0 hret hP hD hS hl
  obtain ⟨hx, hb, hml, hown, hW, hK, hlocks, hF, hr, hA⟩ := id C0
  replace hl : lv_has ls 2 [(0, .ref (ad b)), (1, .int p1)] := hl
  unfold q_X7_asks at hf
  refine lv_aload_n hx hb dX7_asks_0 rfl (lv_at hl 0 rfl) ?_
  refine va_get (D := D) (ci := 8) (v := .ref (ad (b + 1))) (C := RX7) (T := TX7) (N := 11) hx hb hW inlX7 hown hK hP 0 rfl rfl 0 (by decide) (hW _ wd_127) (fun _ h9 => h9) rfl dX7_asks_1 ?_
  refine lv_bipush (v := 28) hx hb dX7_asks_4 (by decide) ?_
  refine lv_aload_n hx hb dX7_asks_6 rfl (lv_at hl 0 rfl) ?_
  refine va_get (D := D) (ci := 8) (v := .ref (ad (b + 1))) (C := RX7) (T := TX7) (N := 11) hx hb hW inlX7 hown hK hP 0 rfl rfl 0 (by decide) (hW _ wd_127) (fun _ h9 => h9) rfl dX7_asks_7 ?_
  refine lv_bipush (v := 8) hx hb dX7_asks_10 (by decide) ?_
  refine z_iald (v := (u.1 8)) hx hb hK hP 1 0 rfl rfl (z_in rfl) rfl dX7_asks_12 ?_
  refine lv_iadd hx hb dX7_asks_13 ?_
  refine lv_iload_n hx hb dX7_asks_14 rfl (lv_at hl 1 rfl) ?_
  replace hf := zs_s hf
  obtain ⟨hi15, s15, es15, hf⟩ := hf
  refine z_iast (ws' := wX7 G ad b (s15, u.2.1, u.2.2.1, u.2.2.2.1, u.2.2.2.2.1, u.2.2.2.2.2.1, u.2.2.2.2.2.2.1, u.2.2.2.2.2.2.2.1, u.2.2.2.2.2.2.2.2.1, u.2.2.2.2.2.2.2.2.2.1, u.2.2.2.2.2.2.2.2.2.2)) hx hb hK hP hD hS 1 0 rfl rfl hi15 es15 rfl dX7_asks_15 (fun H locs hP hD hS => ?_)
  refine lv_aload_n hx hb dX7_asks_16 rfl (lv_at hl 0 rfl) ?_
  refine va_get (D := D) (ci := 8) (v := .ref (ad (b + 1))) (C := RX7) (T := TX7) (N := 11) hx hb hW inlX7 hown hK hP 0 rfl rfl 0 (by decide) (hW _ wd_127) (fun _ h9 => h9) rfl dX7_asks_17 ?_
  refine lv_bipush (v := 8) hx hb dX7_asks_20 (by decide) ?_
  refine lv_dup2_11 hx hb dX7_asks_22 rfl rfl ?_
  refine z_iald (v := (s15 8)) hx hb hK hP 1 0 rfl rfl (z_in rfl) rfl dX7_asks_23 ?_
  refine lv_iconst (v := 1) hx hb dX7_asks_24 (by decide) ?_
  refine lv_iadd hx hb dX7_asks_25 ?_
  replace hf := zn_s hf
  obtain ⟨s26, es26, hf⟩ := hf
  refine z_iast (ws' := wX7 G ad b (s26, u.2.1, u.2.2.1, u.2.2.2.1, u.2.2.2.2.1, u.2.2.2.2.2.1, u.2.2.2.2.2.2.1, u.2.2.2.2.2.2.2.1, u.2.2.2.2.2.2.2.2.1, u.2.2.2.2.2.2.2.2.2.1, u.2.2.2.2.2.2.2.2.2.2)) hx hb hK hP hD hS 1 0 rfl rfl (z_in rfl) es26 rfl dX7_asks_26 (fun H locs hP hD hS => ?_)
  refine lv_aload_n hx hb dX7_asks_27 rfl (lv_at hl 0 rfl) ?_
  refine va_get (D := D) (ci := 8) (v := .ref (ad (b + 1))) (C := RX7) (T := TX7) (N := 11) hx hb hW inlX7 hown hK hP 0 rfl rfl 0 (by decide) (hW _ wd_127) (fun _ h9 => h9) rfl dX7_asks_28 ?_
  refine lv_bipush (v := 8) hx hb dX7_asks_31 (by decide) ?_
  refine z_iald (v := (s26 8)) hx hb hK hP 1 0 rfl rfl (z_in rfl) rfl dX7_asks_33 ?_
  refine lv_iconst (v := 1) hx hb dX7_asks_34 (by decide) ?_
  refine lv_isub hx hb dX7_asks_35 ?_
  obtain rfl := zo hf
  exact hret _ _ _ _ _ hP hD hS rfl dX7_asks_36
noncomputable def q_X7_whyNotRead (u : tX7) (p1 : Int32) (p2 : Int32) : Option (Int32) :=
  zb (q_X7_isSpan p1) fun r1 => (if r1 = 0 then some ((-1)) else zb (q_X7_within p2 1 200) fun r16 => (if r16 = 0 then some ((-2)) else (if ((u.1 0) + p2) ≤ 99999 then some (0) else some ((-4)))))
set_option maxRecDepth 100000 in
set_option maxHeartbeats 4000000 in
theorem c_X7_whyNotRead (l : Launch) (D : va_G) (G : zG) (ad : Nat → Nat) (b : Nat) (u : tX7) (p1 : Int32) (p2 : Int32) (res : Int32) (hf : q_X7_whyNotRead u p1 p2 = some res) : zMi l yX7_whyNotRead cX7_whyNotRead 3 (some .int) 2 42 D G (wX7 G ad b u) (wX7 G ad b u) [.ref (ad b), .int p1, .int p2] res := by
  refine zs_i (plainFor_of_name (by decide)) (Nat.le_of_ble_eq_true rfl) ?_
  intro p e s m args below meth c A Q H ls C0 hret hP hD hS hl
  obtain ⟨hx, hb, hml, hown, hW, hK, hlocks, hF, hr, hA⟩ := id C0
  replace hl : lv_has ls 3 [(0, .ref (ad b)), (1, .int p1), (2, .int p2)] := hl
  unfold q_X7_whyNotRead at hf
  refine lv_iload_n hx hb dX7_whyNotRead_0 rfl (lv_at hl 1 rfl) ?_
  replace hf := zb_s hf
  obtain ⟨r1, hr1, hf⟩ := hf
  refine z_Si (rest := []) C0 kX7_125 (c_X7_isSpan l D G p1 r1 hr1) (List.Perm.refl _) (List.Perm.refl _) rfl ⟨Nat.le_of_ble_eq_true rfl, Nat.le_of_ble_eq_true rfl⟩ (Nat.le_of_ble_eq_true rfl) rfl hl.1 hP hD hS dX7_whyNotRead_1 (fun H locs hP hD hS => ?_)
  refine lv_if_ne (tgt := 11) hx hb dX7_whyNotRead_4 (by decide) (fun c4 => ?_) (fun c4 => ?_)
  · replace hf := zi_n hf c4
    refine lv_iload_n hx hb dX7_whyNotRead_11 rfl (lv_at hl 2 rfl) ?_
    refine lv_iconst (v := 1) hx hb dX7_whyNotRead_12 (by decide) ?_
    refine lv_sipush (v := 200) hx hb dX7_whyNotRead_13 (by decide) ?_
    replace hf := zb_s hf
    obtain ⟨r16, hr16, hf⟩ := hf
    refine z_Si (rest := []) C0 kX7_30 (c_X7_within l D G p2 1 200 r16 hr16) (List.Perm.refl _) (List.Perm.refl _) rfl ⟨Nat.le_of_ble_eq_true rfl, Nat.le_of_ble_eq_true rfl⟩ (Nat.le_of_ble_eq_true rfl) rfl hl.1 hP hD hS dX7_whyNotRead_16 (fun H locs hP hD hS => ?_)
    refine lv_if_ne (tgt := 27) hx hb dX7_whyNotRead_19 (by decide) (fun c19 => ?_) (fun c19 => ?_)
    · replace hf := zi_n hf c19
      refine lv_aload_n hx hb dX7_whyNotRead_27 rfl (lv_at hl 0 rfl) ?_
      refine va_get (D := D) (ci := 8) (v := .ref (ad (b + 1))) (C := RX7) (T := TX7) (N := 11) hx hb hW inlX7 hown hK hP 0 rfl rfl 0 (by decide) (hW _ wd_127) (fun _ h9 => h9) rfl dX7_whyNotRead_28 ?_
      refine lv_iconst (v := 0) hx hb dX7_whyNotRead_31 (by decide) ?_
      refine z_iald (v := (u.1 0)) hx hb hK hP 1 0 rfl rfl (z_in rfl) rfl dX7_whyNotRead_32 ?_
      refine lv_iload_n hx hb dX7_whyNotRead_33 rfl (lv_at hl 2 rfl) ?_
      refine lv_iadd hx hb dX7_whyNotRead_34 ?_
      refine lv_ldc hx hb hown (hW _ wd_353) dX7_whyNotRead_35 ?_
      refine lv_icmp_le (tgt := 45) hx hb dX7_whyNotRead_37 (by decide) (fun c37 => ?_) (fun c37 => ?_)
      · replace hf := zi_p hf c37
        refine lv_iconst (v := 0) hx hb dX7_whyNotRead_45 (by decide) ?_
        obtain rfl := zo hf
        exact hret _ _ _ _ _ hP hD hS rfl dX7_whyNotRead_46
      · replace hf := zi_n hf c37
        refine lv_bipush (v := (-4)) hx hb dX7_whyNotRead_40 (by decide) ?_
        refine lv_goto (tgt := 46) hx hb dX7_whyNotRead_42 (by decide) ?_
        obtain rfl := zo hf
        exact hret _ _ _ _ _ hP hD hS rfl dX7_whyNotRead_46
    · replace hf := zi_p hf c19
      refine lv_bipush (v := (-2)) hx hb dX7_whyNotRead_22 (by decide) ?_
      refine lv_goto (tgt := 46) hx hb dX7_whyNotRead_24 (by decide) ?_
      obtain rfl := zo hf
      exact hret _ _ _ _ _ hP hD hS rfl dX7_whyNotRead_46
  · replace hf := zi_p hf c4
    refine lv_iconst (v := (-1)) hx hb dX7_whyNotRead_7 (by decide) ?_
    refine lv_goto (tgt := 46) hx hb dX7_whyNotRead_8 (by decide) ?_
    obtain rfl := zo hf
    exact hret _ _ _ _ _ hP hD hS rfl dX7_whyNotRead_46
noncomputable def q_X7_isSlow_L4 (u : tX7) (p1 : Int32) (v4 : Int32 × Int32) : Option ((Int32 × Int32) ⊕ (Int32)) :=
  (if (u.1 2) ≤ v4.2 then some (Sum.inr (v4.1)) else (if v4.1 = 0 then zb (q_X7_spotSpan u v4.2) fun r20 => (if r20 = p1 then zb (q_X7_spotTries u v4.2) fun r29 => (if r29 < (u.1 18) then some (Sum.inl (0, (v4.2 + 1))) else some (Sum.inl (1, (v4.2 + 1)))) else some (Sum.inl (0, (v4.2 + 1)))) else some (Sum.inl (1, (v4.2 + 1)))))
noncomputable def q_X7_isSlow (u : tX7) (p1 : Int32) : Option (Int32) :=
  zb (zl 1000000 (q_X7_isSlow_L4 u p1) (0, 0)) (fun b4 => zq (b4 = 0 ∨ b4 = 1) (some (b4)))
set_option maxRecDepth 100000 in
set_option maxHeartbeats 4000000 in
theorem c_X7_isSlow (l : Launch) (D : va_G) (G : zG) (ad : Nat → Nat) (b : Nat) (u : tX7) (p1 : Int32) (res : Int32) (hf : q_X7_isSlow u p1 = some res) : zMi l yX7_isSlow cX7_isSlow 4 (some .boolean) 1 21 D G (wX7 G ad b u) (wX7 G ad b u) [.ref (ad b), .int p1] res := by
  refine zs_z (plainFor_of_name (by decide)) (Nat.le_of_ble_eq_true rfl) ?_
  intro p e s m args below meth c A Q H ls C0 hret hP hD hS hl
  obtain ⟨hx, hb, hml, hown, hW, hK, hlocks, hF, hr, hA⟩ := id C0
  replace hl : lv_has ls 4 [(0, .ref (ad b)), (1, .int p1)] := hl
  unfold q_X7_isSlow at hf
  refine lv_iconst (v := 0) hx hb dX7_isSlow_0 (by decide) ?_
  refine lv_istore_n (lv' := [(2, .int 0), (0, .ref (ad b)), (1, .int p1)]) hx hb dX7_isSlow_1 rfl hl (by decide) rfl (fun ls hl => ?_)
  refine lv_iconst (v := 0) hx hb dX7_isSlow_2 (by decide) ?_
  refine lv_istore_n (lv' := [(3, .int 0), (2, .int 0), (0, .ref (ad b)), (1, .int p1)]) hx hb dX7_isSlow_3 rfl hl (by decide) rfl (fun ls hl => ?_)
  replace hf := zb_s hf
  obtain ⟨b4, hz4, hk4⟩ := hf
  have L4 : ∀ (n4 : Nat) (v4 : Int32 × Int32) (hz4 : zl n4 (q_X7_isSlow_L4 u p1) v4 = some b4) (H : Heap) (locs : List Loc) (hP : va_P D vwCl (wX7 G ad b u) H) (hD : va_D A (wX7 G ad b u)) (hS : va_S A s.heap H locs) (ls : Array Slot) (hl : lv_has ls 4 [(0, .ref (ad b)), (1, .int p1), (2, .int v4.1), (3, .int v4.2)]), W p l e (zRm 1 21) s m args below meth c H locs 0 0 Q (F0 m 4 ls []) := by
    intro n4
    induction n4 with
    | zero => intro v4 hz4; exact (zl_0 hz4).elim
    | succ n4 ih4 =>
      intro v4 hz4 H locs hP hD hS ls hl
      obtain ⟨o4, hf, hz4⟩ := zl_s hz4
      unfold q_X7_isSlow_L4 at hf
      refine lv_iload_n hx hb dX7_isSlow_4 rfl (lv_at hl 3 rfl) ?_
      refine lv_aload_n hx hb dX7_isSlow_5 rfl (lv_at hl 0 rfl) ?_
      refine va_get (D := D) (ci := 8) (v := .ref (ad (b + 1))) (C := RX7) (T := TX7) (N := 11) hx hb hW inlX7 hown hK hP 0 rfl rfl 0 (by decide) (hW _ wd_127) (fun _ h9 => h9) rfl dX7_isSlow_6 ?_
      refine lv_iconst (v := 2) hx hb dX7_isSlow_9 (by decide) ?_
      refine z_iald (v := (u.1 2)) hx hb hK hP 1 0 rfl rfl (z_in rfl) rfl dX7_isSlow_10 ?_
      refine lv_icmp_ge (tgt := 54) hx hb dX7_isSlow_11 (by decide) (fun c11 => ?_) (fun c11 => ?_)
      · replace hf := zi_p hf c11
        have hb4 := zk_r hf hz4
        subst hb4
        replace hf := hk4
        refine lv_iload_n hx hb dX7_isSlow_54 rfl (lv_at hl 2 rfl) ?_
        replace hf := zq_s hf
        obtain ⟨hq, hf⟩ := hf
        obtain rfl := zo hf
        exact hret _ _ _ _ _ hP hD hS rfl (z_nb hq) dX7_isSlow_55
      · replace hf := zi_n hf c11
        refine lv_iload_n hx hb dX7_isSlow_14 rfl (lv_at hl 2 rfl) ?_
        refine lv_if_ne (tgt := 42) hx hb dX7_isSlow_15 (by decide) (fun c15 => ?_) (fun c15 => ?_)
        · replace hf := zi_n hf c15
          refine lv_iconst (v := 1) hx hb dX7_isSlow_42 (by decide) ?_
          refine lv_goto (tgt := 47) hx hb dX7_isSlow_43 (by decide) ?_
          refine lv_istore_n (lv' := [(2, .int 1), (0, .ref (ad b)), (1, .int p1), (3, .int v4.2)]) hx hb dX7_isSlow_47 rfl hl (by decide) rfl (fun ls hl => ?_)
          refine lv_iinc (v := (v4.2 + 1)) (lv' := [(3, .int (v4.2 + 1)), (2, .int 1), (0, .ref (ad b)), (1, .int p1)]) hx hb dX7_isSlow_48 hl (k := 3) rfl rfl (by decide) rfl (fun ls hl => ?_)
          refine lv_goto (tgt := 4) hx hb dX7_isSlow_51 (by decide) ?_
          exact ih4 _ (zk_l hf hz4) _ _ hP hD hS _ (lv_sub hl [2, 3, 1, 0] rfl)
        · replace hf := zi_p hf c15
          refine lv_aload_n hx hb dX7_isSlow_18 rfl (lv_at hl 0 rfl) ?_
          refine lv_iload_n hx hb dX7_isSlow_19 rfl (lv_at hl 3 rfl) ?_
          replace hf := zb_s hf
          obtain ⟨r20, hr20, hf⟩ := hf
          refine z_Vi (rest := []) C0 kX7_73 (c_X7_spotSpan l D G ad (b) u v4.2 r20 hr20) z_pall z_pall.symm (ci := 8) (T := TX7) (N := 11) rfl rfl rfl ⟨Nat.le_of_ble_eq_true rfl, Nat.le_of_ble_eq_true rfl⟩ (Nat.le_of_ble_eq_true rfl) rfl hl.1 hP hD hS dX7_isSlow_20 (fun H locs hP hD hS => ?_)
          refine lv_iload_n hx hb dX7_isSlow_23 rfl (lv_at hl 1 rfl) ?_
          refine lv_icmp_ne (tgt := 46) hx hb dX7_isSlow_24 (by decide) (fun c24 => ?_) (fun c24 => ?_)
          · replace hf := zi_n hf c24
            refine lv_iconst (v := 0) hx hb dX7_isSlow_46 (by decide) ?_
            refine lv_istore_n (lv' := [(2, .int 0), (0, .ref (ad b)), (1, .int p1), (3, .int v4.2)]) hx hb dX7_isSlow_47 rfl hl (by decide) rfl (fun ls hl => ?_)
            refine lv_iinc (v := (v4.2 + 1)) (lv' := [(3, .int (v4.2 + 1)), (2, .int 0), (0, .ref (ad b)), (1, .int p1)]) hx hb dX7_isSlow_48 hl (k := 3) rfl rfl (by decide) rfl (fun ls hl => ?_)
            refine lv_goto (tgt := 4) hx hb dX7_isSlow_51 (by decide) ?_
            exact ih4 _ (zk_l hf hz4) _ _ hP hD hS _ (lv_sub hl [2, 3, 1, 0] rfl)
          · replace hf := zi_p hf c24
            refine lv_aload_n hx hb dX7_isSlow_27 rfl (lv_at hl 0 rfl) ?_
            refine lv_iload_n hx hb dX7_isSlow_28 rfl (lv_at hl 3 rfl) ?_
            replace hf := zb_s hf
            obtain ⟨r29, hr29, hf⟩ := hf
            refine z_Vi (rest := []) C0 kX7_70 (c_X7_spotTries l D G ad (b) u v4.2 r29 hr29) z_pall z_pall.symm (ci := 8) (T := TX7) (N := 11) rfl rfl rfl ⟨Nat.le_of_ble_eq_true rfl, Nat.le_of_ble_eq_true rfl⟩ (Nat.le_of_ble_eq_true rfl) rfl hl.1 hP hD hS dX7_isSlow_29 (fun H locs hP hD hS => ?_)
            refine lv_aload_n hx hb dX7_isSlow_32 rfl (lv_at hl 0 rfl) ?_
            refine va_get (D := D) (ci := 8) (v := .ref (ad (b + 1))) (C := RX7) (T := TX7) (N := 11) hx hb hW inlX7 hown hK hP 0 rfl rfl 0 (by decide) (hW _ wd_127) (fun _ h9 => h9) rfl dX7_isSlow_33 ?_
            refine lv_bipush (v := 18) hx hb dX7_isSlow_36 (by decide) ?_
            refine z_iald (v := (u.1 18)) hx hb hK hP 1 0 rfl rfl (z_in rfl) rfl dX7_isSlow_38 ?_
            refine lv_icmp_lt (tgt := 46) hx hb dX7_isSlow_39 (by decide) (fun c39 => ?_) (fun c39 => ?_)
            · replace hf := zi_p hf c39
              refine lv_iconst (v := 0) hx hb dX7_isSlow_46 (by decide) ?_
              refine lv_istore_n (lv' := [(2, .int 0), (0, .ref (ad b)), (1, .int p1), (3, .int v4.2)]) hx hb dX7_isSlow_47 rfl hl (by decide) rfl (fun ls hl => ?_)
              refine lv_iinc (v := (v4.2 + 1)) (lv' := [(3, .int (v4.2 + 1)), (2, .int 0), (0, .ref (ad b)), (1, .int p1)]) hx hb dX7_isSlow_48 hl (k := 3) rfl rfl (by decide) rfl (fun ls hl => ?_)
              refine lv_goto (tgt := 4) hx hb dX7_isSlow_51 (by decide) ?_
              exact ih4 _ (zk_l hf hz4) _ _ hP hD hS _ (lv_sub hl [2, 3, 1, 0] rfl)
            · replace hf := zi_n hf c39
              refine lv_iconst (v := 1) hx hb dX7_isSlow_42 (by decide) ?_
              refine lv_goto (tgt := 47) hx hb dX7_isSlow_43 (by decide) ?_
              refine lv_istore_n (lv' := [(2, .int 1), (0, .ref (ad b)), (1, .int p1), (3, .int v4.2)]) hx hb dX7_isSlow_47 rfl hl (by decide) rfl (fun ls hl => ?_)
              refine lv_iinc (v := (v4.2 + 1)) (lv' := [(3, .int (v4.2 + 1)), (2, .int 1), (0, .ref (ad b)), (1, .int p1)]) hx hb dX7_isSlow_48 hl (k := 3) rfl rfl (by decide) rfl (fun ls hl => ?_)
              refine lv_goto (tgt := 4) hx hb dX7_isSlow_51 (by decide) ?_
              exact ih4 _ (zk_l hf hz4) _ _ hP hD hS _ (lv_sub hl [2, 3, 1, 0] rfl)
  exact L4 _ _ hz4 _ _ hP hD hS _ (lv_sub hl [2, 3, 1, 0] rfl)
theorem kX7_147 : zLkV RX7 147 yX7_isSlow cX7_isSlow 4 (some .boolean) 1 := ⟨⟨wd_362, wd_363, wd_364, wd_5, wd_365⟩, by decide +kernel⟩
theorem kX7_140 : zLkV RX7 140 yX7_whyNotAsked cX7_whyNotAsked 2 (some .int) 1 := ⟨⟨wd_286, wd_287, wd_288, wd_5, wd_289⟩, by decide +kernel⟩
theorem kX7_143 : zLkV RX7 143 yX7_asks cX7_asks 2 (some .int) 1 := ⟨⟨wd_294, wd_295, wd_296, wd_5, wd_297⟩, by decide +kernel⟩
noncomputable def q_X7_reads_J81 (u : tX7) (p1 : Int32) (w81_0 : Nat → Int32) : Option (Int32 × (Nat → Int32)) :=
  zb (q_X7_isSlow (w81_0, u.2.1, u.2.2.1, u.2.2.2.1, u.2.2.2.2.1, u.2.2.2.2.2.1, u.2.2.2.2.2.2.1, u.2.2.2.2.2.2.2.1, u.2.2.2.2.2.2.2.2.1, u.2.2.2.2.2.2.2.2.2.1, u.2.2.2.2.2.2.2.2.2.2) p1) fun r83 => (if r83 = 0 then some (0, w81_0) else zn (upd w81_0 12 ((w81_0 12) + 1)) fun s101 => zb (q_X7_logs (s101, u.2.1, u.2.2.1, u.2.2.2.1, u.2.2.2.2.1, u.2.2.2.2.2.1, u.2.2.2.2.2.2.1, u.2.2.2.2.2.2.2.1, u.2.2.2.2.2.2.2.2.1, u.2.2.2.2.2.2.2.2.2.1, u.2.2.2.2.2.2.2.2.2.2) 6 p1) fun r106 => zb (q_X7_whyNotAsked (r106, u.2.1, u.2.2.1, u.2.2.2.1, u.2.2.2.2.1, u.2.2.2.2.2.1, u.2.2.2.2.2.2.1, u.2.2.2.2.2.2.2.1, u.2.2.2.2.2.2.2.2.1, u.2.2.2.2.2.2.2.2.2.1, u.2.2.2.2.2.2.2.2.2.2) p1) fun r111 => (if r111 = 0 then zb (q_X7_asks (r106, u.2.1, u.2.2.1, u.2.2.2.1, u.2.2.2.2.1, u.2.2.2.2.2.1, u.2.2.2.2.2.2.1, u.2.2.2.2.2.2.2.1, u.2.2.2.2.2.2.2.2.1, u.2.2.2.2.2.2.2.2.2.1, u.2.2.2.2.2.2.2.2.2.2) p1) fun r119 => some (1, r119.2) else some (1, r106)))
noncomputable def q_X7_reads_J58 (u : tX7) (p1 : Int32) (s16 : Nat → Int32) (y58_2 : Int32) : Option (Int32 × (Nat → Int32)) :=
  zn (upd s16 6 y58_2) fun s58 => zn (upd s58 10 ((s58 10) + 1)) fun s69 => zb (q_X7_logs (s69, u.2.1, u.2.2.1, u.2.2.2.1, u.2.2.2.2.1, u.2.2.2.2.2.1, u.2.2.2.2.2.2.1, u.2.2.2.2.2.2.2.1, u.2.2.2.2.2.2.2.2.1, u.2.2.2.2.2.2.2.2.2.1, u.2.2.2.2.2.2.2.2.2.2) 2 (s69 5)) fun r78 => q_X7_reads_J81 u p1 r78
noncomputable def q_X7_reads (u : tX7) (p1 : Int32) (p2 : Int32) : Option (Int32 × (Nat → Int32)) :=
  zn (upd u.1 1 0) fun s6 => zn (upd s6 0 ((s6 0) + p2)) fun s16 => (if (s16 5) = (-6) then q_X7_reads_J81 u p1 s16 else (if 2 ≤ (s16 6) then q_X7_reads_J58 u p1 s16 ((s16 6) - 2) else q_X7_reads_J58 u p1 s16 0))
set_option maxRecDepth 100000 in
set_option maxHeartbeats 4000000 in
theorem c_X7_reads (l : Launch) (D : va_G) (G : zG) (ad : Nat → Nat) (b : Nat) (u : tX7) (p1 : Int32) (p2 : Int32) (res : Int32 × (Nat → Int32)) (hf : q_X7_reads u p1 p2 = some res) : zMi l yX7_reads cX7_reads 3 (some .int) 3 63 D G (wX7 G ad b u) (wX7 G ad b (res.2, u.2.1, u.2.2.1, u.2.2.2.1, u.2.2.2.2.1, u.2.2.2.2.2.1, u.2.2.2.2.2.2.1, u.2.2.2.2.2.2.2.1, u.2.2.2.2.2.2.2.2.1, u.2.2.2.2.2.2.2.2.2.1, u.2.2.2.2.2.2.2.2.2.2)) [.ref (ad b), .int p1, .int p2] res.1 := by
  refine zs_i (plainFor_of_name (by decide)) (Nat.le_of_ble_eq_true rfl) ?_
  intro p e s m args below meth c A Q H ls C0 hret hP hD hS hl
  obtain ⟨hx, hb, hml, hown, hW, hK, hlocks, hF, hr, hA⟩ := id C0
  replace hl : lv_has ls 3 [(0, .ref (ad b)), (1, .int p1), (2, .int p2)] := hl
  unfold q_X7_reads at hf
  refine lv_aload_n hx hb dX7_reads_0 rfl (lv_at hl 0 rfl) ?_
  refine va_get (D := D) (ci := 8) (v := .ref (ad (b + 1))) (C := RX7) (T := TX7) (N := 11) hx hb hW inlX7 hown hK hP 0 rfl rfl 0 (by decide) (hW _ wd_127) (fun _ h9 => h9) rfl dX7_reads_1 ?_
  refine lv_iconst (v := 1) hx hb dX7_reads_4 (by decide) ?_
  refine lv_iconst (v := 0) hx hb dX7_reads_5 (by decide) ?_
  replace hf := zn_s hf
  obtain ⟨s6, es6, hf⟩ := hf
  refine z_iast (ws' := wX7 G ad b (s6, u.2.1, u.2.2.1, u.2.2.2.1, u.2.2.2.2.1, u.2.2.2.2.2.1, u.2.2.2.2.2.2.1, u.2.2.2.2.2.2.2.1, u.2.2.2.2.2.2.2.2.1, u.2.2.2.2.2.2.2.2.2.1, u.2.2.2.2.2.2.2.2.2.2)) hx hb hK hP hD hS 1 0 rfl rfl (z_in rfl) es6 rfl dX7_reads_6 (fun H locs hP hD hS => ?_)
  refine lv_aload_n hx hb dX7_reads_7 rfl (lv_at hl 0 rfl) ?_
  refine va_get (D := D) (ci := 8) (v := .ref (ad (b + 1))) (C := RX7) (T := TX7) (N := 11) hx hb hW inlX7 hown hK hP 0 rfl rfl 0 (by decide) (hW _ wd_127) (fun _ h9 => h9) rfl dX7_reads_8 ?_
  refine lv_iconst (v := 0) hx hb dX7_reads_11 (by decide) ?_
  refine lv_dup2_11 hx hb dX7_reads_12 rfl rfl ?_
  refine z_iald (v := (s6 0)) hx hb hK hP 1 0 rfl rfl (z_in rfl) rfl dX7_reads_13 ?_
  refine lv_iload_n hx hb dX7_reads_14 rfl (lv_at hl 2 rfl) ?_
  refine lv_iadd hx hb dX7_reads_15 ?_
  replace hf := zn_s hf
  obtain ⟨s16, es16, hf⟩ := hf
  refine z_iast (ws' := wX7 G ad b (s16, u.2.1, u.2.2.1, u.2.2.2.1, u.2.2.2.2.1, u.2.2.2.2.2.1, u.2.2.2.2.2.2.1, u.2.2.2.2.2.2.2.1, u.2.2.2.2.2.2.2.2.1, u.2.2.2.2.2.2.2.2.2.1, u.2.2.2.2.2.2.2.2.2.2)) hx hb hK hP hD hS 1 0 rfl rfl (z_in rfl) es16 rfl dX7_reads_16 (fun H locs hP hD hS => ?_)
  refine lv_aload_n hx hb dX7_reads_17 rfl (lv_at hl 0 rfl) ?_
  refine va_get (D := D) (ci := 8) (v := .ref (ad (b + 1))) (C := RX7) (T := TX7) (N := 11) hx hb hW inlX7 hown hK hP 0 rfl rfl 0 (by decide) (hW _ wd_127) (fun _ h9 => h9) rfl dX7_reads_18 ?_
  refine lv_iconst (v := 5) hx hb dX7_reads_21 (by decide) ?_
  refine z_iald (v := (s16 5)) hx hb hK hP 1 0 rfl rfl (z_in rfl) rfl dX7_reads_22 ?_
  refine lv_bipush (v := (-6)) hx hb dX7_reads_23 (by decide) ?_
  have J81 : ∀ (w81_0 : Nat → Int32) (hf : q_X7_reads_J81 u p1 w81_0 = some res) (H : Heap) (locs : List Loc) (hP : va_P D vwCl (wX7 G ad b (w81_0, u.2.1, u.2.2.1, u.2.2.2.1, u.2.2.2.2.1, u.2.2.2.2.2.1, u.2.2.2.2.2.2.1, u.2.2.2.2.2.2.2.1, u.2.2.2.2.2.2.2.2.1, u.2.2.2.2.2.2.2.2.2.1, u.2.2.2.2.2.2.2.2.2.2)) H) (hD : va_D A (wX7 G ad b (w81_0, u.2.1, u.2.2.1, u.2.2.2.1, u.2.2.2.2.1, u.2.2.2.2.2.1, u.2.2.2.2.2.2.1, u.2.2.2.2.2.2.2.1, u.2.2.2.2.2.2.2.2.1, u.2.2.2.2.2.2.2.2.2.1, u.2.2.2.2.2.2.2.2.2.2))) (hS : va_S A s.heap H locs) (ls : Array Slot) (hl : lv_has ls 3 [(0, .ref (ad b)), (1, .int p1)]), W p l e (zRm 3 63) s m args below meth c H locs 0 0 Q (F0 m 81 ls []) := by
    intro w81_0 hf H locs hP hD hS ls hl
    unfold q_X7_reads_J81 at hf
    refine lv_aload_n hx hb dX7_reads_81 rfl (lv_at hl 0 rfl) ?_
    refine lv_iload_n hx hb dX7_reads_82 rfl (lv_at hl 1 rfl) ?_
    replace hf := zb_s hf
    obtain ⟨r83, hr83, hf⟩ := hf
    refine z_Vi (rest := []) C0 kX7_147 (c_X7_isSlow l D G ad (b) (w81_0, u.2.1, u.2.2.1, u.2.2.2.1, u.2.2.2.2.1, u.2.2.2.2.2.1, u.2.2.2.2.2.2.1, u.2.2.2.2.2.2.2.1, u.2.2.2.2.2.2.2.2.1, u.2.2.2.2.2.2.2.2.2.1, u.2.2.2.2.2.2.2.2.2.2) p1 r83 hr83) z_pall z_pall.symm (ci := 8) (T := TX7) (N := 11) rfl rfl rfl ⟨Nat.le_of_ble_eq_true rfl, Nat.le_of_ble_eq_true rfl⟩ (Nat.le_of_ble_eq_true rfl) rfl hl.1 hP hD hS dX7_reads_83 (fun H locs hP hD hS => ?_)
    refine lv_if_ne (tgt := 91) hx hb dX7_reads_86 (by decide) (fun c86 => ?_) (fun c86 => ?_)
    · replace hf := zi_n hf c86
      refine lv_aload_n hx hb dX7_reads_91 rfl (lv_at hl 0 rfl) ?_
      refine va_get (D := D) (ci := 8) (v := .ref (ad (b + 1))) (C := RX7) (T := TX7) (N := 11) hx hb hW inlX7 hown hK hP 0 rfl rfl 0 (by decide) (hW _ wd_127) (fun _ h9 => h9) rfl dX7_reads_92 ?_
      refine lv_bipush (v := 12) hx hb dX7_reads_95 (by decide) ?_
      refine lv_dup2_11 hx hb dX7_reads_97 rfl rfl ?_
      refine z_iald (v := (w81_0 12)) hx hb hK hP 1 0 rfl rfl (z_in rfl) rfl dX7_reads_98 ?_
      refine lv_iconst (v := 1) hx hb dX7_reads_99 (by decide) ?_
      refine lv_iadd hx hb dX7_reads_100 ?_
      replace hf := zn_s hf
      obtain ⟨s101, es101, hf⟩ := hf
      refine z_iast (ws' := wX7 G ad b (s101, u.2.1, u.2.2.1, u.2.2.2.1, u.2.2.2.2.1, u.2.2.2.2.2.1, u.2.2.2.2.2.2.1, u.2.2.2.2.2.2.2.1, u.2.2.2.2.2.2.2.2.1, u.2.2.2.2.2.2.2.2.2.1, u.2.2.2.2.2.2.2.2.2.2)) hx hb hK hP hD hS 1 0 rfl rfl (z_in rfl) es101 rfl dX7_reads_101 (fun H locs hP hD hS => ?_)
      refine lv_aload_n hx hb dX7_reads_102 rfl (lv_at hl 0 rfl) ?_
      refine lv_bipush (v := 6) hx hb dX7_reads_103 (by decide) ?_
      refine lv_iload_n hx hb dX7_reads_105 rfl (lv_at hl 1 rfl) ?_
      replace hf := zb_s hf
      obtain ⟨r106, hr106, hf⟩ := hf
      refine z_Vv (rest := []) C0 kX7_96 (c_X7_logs l D G ad (b) (s101, u.2.1, u.2.2.1, u.2.2.2.1, u.2.2.2.2.1, u.2.2.2.2.2.1, u.2.2.2.2.2.2.1, u.2.2.2.2.2.2.2.1, u.2.2.2.2.2.2.2.2.1, u.2.2.2.2.2.2.2.2.2.1, u.2.2.2.2.2.2.2.2.2.2) 6 p1 r106 hr106) z_pall z_pall.symm (ci := 8) (T := TX7) (N := 11) rfl rfl rfl ⟨Nat.le_of_ble_eq_true rfl, Nat.le_of_ble_eq_true rfl⟩ (Nat.le_of_ble_eq_true rfl) rfl hl.1 hP hD hS dX7_reads_106 (fun H locs hP hD hS => ?_)
      replace hP : va_P D vwCl (wX7 G ad b (r106, u.2.1, u.2.2.1, u.2.2.2.1, u.2.2.2.2.1, u.2.2.2.2.2.1, u.2.2.2.2.2.2.1, u.2.2.2.2.2.2.2.1, u.2.2.2.2.2.2.2.2.1, u.2.2.2.2.2.2.2.2.2.1, u.2.2.2.2.2.2.2.2.2.2)) H := hP
      replace hD : va_D A (wX7 G ad b (r106, u.2.1, u.2.2.1, u.2.2.2.1, u.2.2.2.2.1, u.2.2.2.2.2.1, u.2.2.2.2.2.2.1, u.2.2.2.2.2.2.2.1, u.2.2.2.2.2.2.2.2.1, u.2.2.2.2.2.2.2.2.2.1, u.2.2.2.2.2.2.2.2.2.2)) := hD
      refine lv_aload_n hx hb dX7_reads_109 rfl (lv_at hl 0 rfl) ?_
      refine lv_iload_n hx hb dX7_reads_110 rfl (lv_at hl 1 rfl) ?_
      replace hf := zb_s hf
      obtain ⟨r111, hr111, hf⟩ := hf
      refine z_Vi (rest := []) C0 kX7_140 (c_X7_whyNotAsked l D G ad (b) (r106, u.2.1, u.2.2.1, u.2.2.2.1, u.2.2.2.2.1, u.2.2.2.2.2.1, u.2.2.2.2.2.2.1, u.2.2.2.2.2.2.2.1, u.2.2.2.2.2.2.2.2.1, u.2.2.2.2.2.2.2.2.2.1, u.2.2.2.2.2.2.2.2.2.2) p1 r111 hr111) z_pall z_pall.symm (ci := 8) (T := TX7) (N := 11) rfl rfl rfl ⟨Nat.le_of_ble_eq_true rfl, Nat.le_of_ble_eq_true rfl⟩ (Nat.le_of_ble_eq_true rfl) rfl hl.1 hP hD hS dX7_reads_111 (fun H locs hP hD hS => ?_)
      refine lv_if_ne (tgt := 123) hx hb dX7_reads_114 (by decide) (fun c114 => ?_) (fun c114 => ?_)
      · replace hf := zi_n hf c114
        refine lv_iconst (v := 1) hx hb dX7_reads_123 (by decide) ?_
        obtain rfl := zo hf
        exact hret _ _ _ _ _ hP hD hS rfl dX7_reads_124
      · replace hf := zi_p hf c114
        refine lv_aload_n hx hb dX7_reads_117 rfl (lv_at hl 0 rfl) ?_
        refine lv_iload_n hx hb dX7_reads_118 rfl (lv_at hl 1 rfl) ?_
        replace hf := zb_s hf
        obtain ⟨r119, hr119, hf⟩ := hf
        refine z_Vi (rest := []) C0 kX7_143 (c_X7_asks l D G ad (b) (r106, u.2.1, u.2.2.1, u.2.2.2.1, u.2.2.2.2.1, u.2.2.2.2.2.1, u.2.2.2.2.2.2.1, u.2.2.2.2.2.2.2.1, u.2.2.2.2.2.2.2.2.1, u.2.2.2.2.2.2.2.2.2.1, u.2.2.2.2.2.2.2.2.2.2) p1 r119 hr119) z_pall z_pall.symm (ci := 8) (T := TX7) (N := 11) rfl rfl rfl ⟨Nat.le_of_ble_eq_true rfl, Nat.le_of_ble_eq_true rfl⟩ (Nat.le_of_ble_eq_true rfl) rfl hl.1 hP hD hS dX7_reads_119 (fun H locs hP hD hS => ?_)
        replace hP : va_P D vwCl (wX7 G ad b (r119.2, u.2.1, u.2.2.1, u.2.2.2.1, u.2.2.2.2.1, u.2.2.2.2.2.1, u.2.2.2.2.2.2.1, u.2.2.2.2.2.2.2.1, u.2.2.2.2.2.2.2.2.1, u.2.2.2.2.2.2.2.2.2.1, u.2.2.2.2.2.2.2.2.2.2)) H := hP
        replace hD : va_D A (wX7 G ad b (r119.2, u.2.1, u.2.2.1, u.2.2.2.1, u.2.2.2.2.1, u.2.2.2.2.2.1, u.2.2.2.2.2.2.1, u.2.2.2.2.2.2.2.1, u.2.2.2.2.2.2.2.2.1, u.2.2.2.2.2.2.2.2.2.1, u.2.2.2.2.2.2.2.2.2.2)) := hD
        refine lv_pop hx hb dX7_reads_122 rfl ?_
        refine lv_iconst (v := 1) hx hb dX7_reads_123 (by decide) ?_
        obtain rfl := zo hf
        exact hret _ _ _ _ _ hP hD hS rfl dX7_reads_124
    · replace hf := zi_p hf c86
      refine lv_iconst (v := 0) hx hb dX7_reads_89 (by decide) ?_
      obtain rfl := zo hf
      exact hret _ _ _ _ _ hP hD hS rfl dX7_reads_90
  refine lv_icmp_eq (tgt := 81) hx hb dX7_reads_25 (by decide) (fun c25 => ?_) (fun c25 => ?_)
  · replace hf := zi_p hf c25
    exact J81 s16 hf _ _ hP hD hS _ (lv_sub hl [0, 1] rfl)
  · replace hf := zi_n hf c25
    refine lv_aload_n hx hb dX7_reads_28 rfl (lv_at hl 0 rfl) ?_
    refine va_get (D := D) (ci := 8) (v := .ref (ad (b + 1))) (C := RX7) (T := TX7) (N := 11) hx hb hW inlX7 hown hK hP 0 rfl rfl 0 (by decide) (hW _ wd_127) (fun _ h9 => h9) rfl dX7_reads_29 ?_
    refine lv_bipush (v := 6) hx hb dX7_reads_32 (by decide) ?_
    refine lv_aload_n hx hb dX7_reads_34 rfl (lv_at hl 0 rfl) ?_
    refine va_get (D := D) (ci := 8) (v := .ref (ad (b + 1))) (C := RX7) (T := TX7) (N := 11) hx hb hW inlX7 hown hK hP 0 rfl rfl 0 (by decide) (hW _ wd_127) (fun _ h9 => h9) rfl dX7_reads_35 ?_
    refine lv_bipush (v := 6) hx hb dX7_reads_38 (by decide) ?_
    refine z_iald (v := (s16 6)) hx hb hK hP 1 0 rfl rfl (z_in rfl) rfl dX7_reads_40 ?_
    refine lv_iconst (v := 2) hx hb dX7_reads_41 (by decide) ?_
    have J58 : ∀ (y58_2 : Int32) (hf : q_X7_reads_J58 u p1 s16 y58_2 = some res) (H : Heap) (locs : List Loc) (hP : va_P D vwCl (wX7 G ad b (s16, u.2.1, u.2.2.1, u.2.2.2.1, u.2.2.2.2.1, u.2.2.2.2.2.1, u.2.2.2.2.2.2.1, u.2.2.2.2.2.2.2.1, u.2.2.2.2.2.2.2.2.1, u.2.2.2.2.2.2.2.2.2.1, u.2.2.2.2.2.2.2.2.2.2)) H) (hD : va_D A (wX7 G ad b (s16, u.2.1, u.2.2.1, u.2.2.2.1, u.2.2.2.2.1, u.2.2.2.2.2.1, u.2.2.2.2.2.2.1, u.2.2.2.2.2.2.2.1, u.2.2.2.2.2.2.2.2.1, u.2.2.2.2.2.2.2.2.2.1, u.2.2.2.2.2.2.2.2.2.2))) (hS : va_S A s.heap H locs) (ls : Array Slot) (hl : lv_has ls 3 [(0, .ref (ad b)), (1, .int p1)]), W p l e (zRm 3 63) s m args below meth c H locs 0 0 Q (F0 m 58 ls [.int y58_2, .int 6, .ref (ad (b + 1))]) := by
      intro y58_2 hf H locs hP hD hS ls hl
      unfold q_X7_reads_J58 at hf
      replace hf := zn_s hf
      obtain ⟨s58, es58, hf⟩ := hf
      refine z_iast (ws' := wX7 G ad b (s58, u.2.1, u.2.2.1, u.2.2.2.1, u.2.2.2.2.1, u.2.2.2.2.2.1, u.2.2.2.2.2.2.1, u.2.2.2.2.2.2.2.1, u.2.2.2.2.2.2.2.2.1, u.2.2.2.2.2.2.2.2.2.1, u.2.2.2.2.2.2.2.2.2.2)) hx hb hK hP hD hS 1 0 rfl rfl (z_in rfl) es58 rfl dX7_reads_58 (fun H locs hP hD hS => ?_)
      refine lv_aload_n hx hb dX7_reads_59 rfl (lv_at hl 0 rfl) ?_
      refine va_get (D := D) (ci := 8) (v := .ref (ad (b + 1))) (C := RX7) (T := TX7) (N := 11) hx hb hW inlX7 hown hK hP 0 rfl rfl 0 (by decide) (hW _ wd_127) (fun _ h9 => h9) rfl dX7_reads_60 ?_
      refine lv_bipush (v := 10) hx hb dX7_reads_63 (by decide) ?_
      refine lv_dup2_11 hx hb dX7_reads_65 rfl rfl ?_
      refine z_iald (v := (s58 10)) hx hb hK hP 1 0 rfl rfl (z_in rfl) rfl dX7_reads_66 ?_
      refine lv_iconst (v := 1) hx hb dX7_reads_67 (by decide) ?_
      refine lv_iadd hx hb dX7_reads_68 ?_
      replace hf := zn_s hf
      obtain ⟨s69, es69, hf⟩ := hf
      refine z_iast (ws' := wX7 G ad b (s69, u.2.1, u.2.2.1, u.2.2.2.1, u.2.2.2.2.1, u.2.2.2.2.2.1, u.2.2.2.2.2.2.1, u.2.2.2.2.2.2.2.1, u.2.2.2.2.2.2.2.2.1, u.2.2.2.2.2.2.2.2.2.1, u.2.2.2.2.2.2.2.2.2.2)) hx hb hK hP hD hS 1 0 rfl rfl (z_in rfl) es69 rfl dX7_reads_69 (fun H locs hP hD hS => ?_)
      refine lv_aload_n hx hb dX7_reads_70 rfl (lv_at hl 0 rfl) ?_
      refine lv_iconst (v := 2) hx hb dX7_reads_71 (by decide) ?_
      refine lv_aload_n hx hb dX7_reads_72 rfl (lv_at hl 0 rfl) ?_
      refine va_get (D := D) (ci := 8) (v := .ref (ad (b + 1))) (C := RX7) (T := TX7) (N := 11) hx hb hW inlX7 hown hK hP 0 rfl rfl 0 (by decide) (hW _ wd_127) (fun _ h9 => h9) rfl dX7_reads_73 ?_
      refine lv_iconst (v := 5) hx hb dX7_reads_76 (by decide) ?_
      refine z_iald (v := (s69 5)) hx hb hK hP 1 0 rfl rfl (z_in rfl) rfl dX7_reads_77 ?_
      replace hf := zb_s hf
      obtain ⟨r78, hr78, hf⟩ := hf
      refine z_Vv (rest := []) C0 kX7_96 (c_X7_logs l D G ad (b) (s69, u.2.1, u.2.2.1, u.2.2.2.1, u.2.2.2.2.1, u.2.2.2.2.2.1, u.2.2.2.2.2.2.1, u.2.2.2.2.2.2.2.1, u.2.2.2.2.2.2.2.2.1, u.2.2.2.2.2.2.2.2.2.1, u.2.2.2.2.2.2.2.2.2.2) 2 (s69 5) r78 hr78) z_pall z_pall.symm (ci := 8) (T := TX7) (N := 11) rfl rfl rfl ⟨Nat.le_of_ble_eq_true rfl, Nat.le_of_ble_eq_true rfl⟩ (Nat.le_of_ble_eq_true rfl) rfl hl.1 hP hD hS dX7_reads_78 (fun H locs hP hD hS => ?_)
      replace hP : va_P D vwCl (wX7 G ad b (r78, u.2.1, u.2.2.1, u.2.2.2.1, u.2.2.2.2.1, u.2.2.2.2.2.1, u.2.2.2.2.2.2.1, u.2.2.2.2.2.2.2.1, u.2.2.2.2.2.2.2.2.1, u.2.2.2.2.2.2.2.2.2.1, u.2.2.2.2.2.2.2.2.2.2)) H := hP
      replace hD : va_D A (wX7 G ad b (r78, u.2.1, u.2.2.1, u.2.2.2.1, u.2.2.2.2.1, u.2.2.2.2.2.1, u.2.2.2.2.2.2.1, u.2.2.2.2.2.2.2.1, u.2.2.2.2.2.2.2.2.1, u.2.2.2.2.2.2.2.2.2.1, u.2.2.2.2.2.2.2.2.2.2)) := hD
      exact J81 r78 hf _ _ hP hD hS _ (lv_sub hl [0, 1] rfl)
    refine lv_icmp_ge (tgt := 49) hx hb dX7_reads_42 (by decide) (fun c42 => ?_) (fun c42 => ?_)
    · replace hf := zi_p hf c42
      refine lv_aload_n hx hb dX7_reads_49 rfl (lv_at hl 0 rfl) ?_
      refine va_get (D := D) (ci := 8) (v := .ref (ad (b + 1))) (C := RX7) (T := TX7) (N := 11) hx hb hW inlX7 hown hK hP 0 rfl rfl 0 (by decide) (hW _ wd_127) (fun _ h9 => h9) rfl dX7_reads_50 ?_
      refine lv_bipush (v := 6) hx hb dX7_reads_53 (by decide) ?_
      refine z_iald (v := (s16 6)) hx hb hK hP 1 0 rfl rfl (z_in rfl) rfl dX7_reads_55 ?_
      refine lv_iconst (v := 2) hx hb dX7_reads_56 (by decide) ?_
      refine lv_isub hx hb dX7_reads_57 ?_
      exact J58 ((s16 6) - 2) hf _ _ hP hD hS _ (lv_sub hl [0, 1] rfl)
    · replace hf := zi_n hf c42
      refine lv_iconst (v := 0) hx hb dX7_reads_45 (by decide) ?_
      refine lv_goto (tgt := 58) hx hb dX7_reads_46 (by decide) ?_
      exact J58 0 hf _ _ hP hD hS _ (lv_sub hl [0, 1] rfl)
noncomputable def q_X7_whyNotQuiet (u : tX7) (p1 : Int32) : Option (Int32) :=
  zb (q_X7_within p1 1 500) fun r5 => (if r5 = 0 then some ((-2)) else (if ((u.1 0) + p1) ≤ 99999 then some (0) else some ((-4))))
set_option maxRecDepth 100000 in
set_option maxHeartbeats 4000000 in
theorem c_X7_whyNotQuiet (l : Launch) (D : va_G) (G : zG) (ad : Nat → Nat) (b : Nat) (u : tX7) (p1 : Int32) (res : Int32) (hf : q_X7_whyNotQuiet u p1 = some res) : zMi l yX7_whyNotQuiet cX7_whyNotQuiet 2 (some .int) 1 22 D G (wX7 G ad b u) (wX7 G ad b u) [.ref (ad b), .int p1] res := by
  refine zs_i (plainFor_of_name (by decide)) (Nat.le_of_ble_eq_true rfl) ?_
  intro p e s m args below meth c A Q H ls C0 hret hP hD hS hl
  obtain ⟨hx, hb, hml, hown, hW, hK, hlocks, hF, hr, hA⟩ := id C0
  replace hl : lv_has ls 2 [(0, .ref (ad b)), (1, .int p1)] := hl
  unfold q_X7_whyNotQuiet at hf
  refine lv_iload_n hx hb dX7_whyNotQuiet_0 rfl (lv_at hl 1 rfl) ?_
  refine lv_iconst (v := 1) hx hb dX7_whyNotQuiet_1 (by decide) ?_
  refine lv_sipush (v := 500) hx hb dX7_whyNotQuiet_2 (by decide) ?_
  replace hf := zb_s hf
  obtain ⟨r5, hr5, hf⟩ := hf
  refine z_Si (rest := []) C0 kX7_30 (c_X7_within l D G p1 1 500 r5 hr5) (List.Perm.refl _) (List.Perm.refl _) rfl ⟨Nat.le_of_ble_eq_true rfl, Nat.le_of_ble_eq_true rfl⟩ (Nat.le_of_ble_eq_true rfl) rfl hl.1 hP hD hS dX7_whyNotQuiet_5 (fun H locs hP hD hS => ?_)
  refine lv_if_ne (tgt := 16) hx hb dX7_whyNotQuiet_8 (by decide) (fun c8 => ?_) (fun c8 => ?_)
  · replace hf := zi_n hf c8
    refine lv_aload_n hx hb dX7_whyNotQuiet_16 rfl (lv_at hl 0 rfl) ?_
    refine va_get (D := D) (ci := 8) (v := .ref (ad (b + 1))) (C := RX7) (T := TX7) (N := 11) hx hb hW inlX7 hown hK hP 0 rfl rfl 0 (by decide) (hW _ wd_127) (fun _ h9 => h9) rfl dX7_whyNotQuiet_17 ?_
    refine lv_iconst (v := 0) hx hb dX7_whyNotQuiet_20 (by decide) ?_
    refine z_iald (v := (u.1 0)) hx hb hK hP 1 0 rfl rfl (z_in rfl) rfl dX7_whyNotQuiet_21 ?_
    refine lv_iload_n hx hb dX7_whyNotQuiet_22 rfl (lv_at hl 1 rfl) ?_
    refine lv_iadd hx hb dX7_whyNotQuiet_23 ?_
    refine lv_ldc hx hb hown (hW _ wd_353) dX7_whyNotQuiet_24 ?_
    refine lv_icmp_le (tgt := 34) hx hb dX7_whyNotQuiet_26 (by decide) (fun c26 => ?_) (fun c26 => ?_)
    · replace hf := zi_p hf c26
      refine lv_iconst (v := 0) hx hb dX7_whyNotQuiet_34 (by decide) ?_
      obtain rfl := zo hf
      exact hret _ _ _ _ _ hP hD hS rfl dX7_whyNotQuiet_35
    · replace hf := zi_n hf c26
      refine lv_bipush (v := (-4)) hx hb dX7_whyNotQuiet_29 (by decide) ?_
      refine lv_goto (tgt := 35) hx hb dX7_whyNotQuiet_31 (by decide) ?_
      obtain rfl := zo hf
      exact hret _ _ _ _ _ hP hD hS rfl dX7_whyNotQuiet_35
  · replace hf := zi_p hf c8
    refine lv_bipush (v := (-2)) hx hb dX7_whyNotQuiet_11 (by decide) ?_
    refine lv_goto (tgt := 35) hx hb dX7_whyNotQuiet_13 (by decide) ?_
    obtain rfl := zo hf
    exact hret _ _ _ _ _ hP hD hS rfl dX7_whyNotQuiet_35
noncomputable def q_X7_ofSpan (u : tX7) (p1 : Int32) (p2 : Int32) : Option (Int32) :=
  (if p2 = 0 then zg 104 u.1 (20 + p1) fun a48 => some (a48) else if p2 = 1 then zb (q_X7_age u p1) fun r52 => some (r52) else if p2 = 2 then zb (q_X7_spotsMany u p1) fun r58 => some (r58) else if p2 = 3 then zb (q_X7_sumOf u p1 9) fun r66 => some (r66) else if p2 = 4 then zb (q_X7_age u p1) fun r72 => (if r72 ≤ (u.1 19) then zb (q_X7_isDue u p1) fun r91 => (if r91 = 0 then some (0) else some (1)) else some (2)) else if p2 = 5 then zb (q_X7_takes u p1) fun r105 => some (r105) else zb (q_X7_placeOf u p1) fun r111 => some (r111))
set_option maxRecDepth 100000 in
set_option maxHeartbeats 4000000 in
theorem c_X7_ofSpan (l : Launch) (D : va_G) (G : zG) (ad : Nat → Nat) (b : Nat) (u : tX7) (p1 : Int32) (p2 : Int32) (res : Int32) (hf : q_X7_ofSpan u p1 p2 = some res) : zMi l yX7_ofSpan cX7_ofSpan 3 (some .int) 3 67 D G (wX7 G ad b u) (wX7 G ad b u) [.ref (ad b), .int p1, .int p2] res := by
  refine zs_i (plainFor_of_name (by decide)) (Nat.le_of_ble_eq_true rfl) ?_
  intro p e s m args below meth c A Q H ls C0 hret hP hD hS hl
  obtain ⟨hx, hb, hml, hown, hW, hK, hlocks, hF, hr, hA⟩ := id C0
  replace hl : lv_has ls 3 [(0, .ref (ad b)), (1, .int p1), (2, .int p2)] := hl
  unfold q_X7_ofSpan at hf
  refine lv_iload_n hx hb dX7_ofSpan_0 rfl (lv_at hl 2 rfl) ?_
  refine z_by (c := p2 = 0) (fun c1_0 => ?_) (fun n1_0 => ?_)
  · replace hf := zi_p hf c1_0
    refine lv_tableIn (off := 39) (tgt := 40) hx hb dX7_ofSpan_1 (by rw [c1_0]; decide) (by rw [c1_0]; decide) (by rw [c1_0]; decide) (by decide) ?_
    refine lv_aload_n hx hb dX7_ofSpan_40 rfl (lv_at hl 0 rfl) ?_
    refine va_get (D := D) (ci := 8) (v := .ref (ad (b + 1))) (C := RX7) (T := TX7) (N := 11) hx hb hW inlX7 hown hK hP 0 rfl rfl 0 (by decide) (hW _ wd_127) (fun _ h9 => h9) rfl dX7_ofSpan_41 ?_
    refine lv_bipush (v := 20) hx hb dX7_ofSpan_44 (by decide) ?_
    refine lv_iload_n hx hb dX7_ofSpan_46 rfl (lv_at hl 1 rfl) ?_
    refine lv_iadd hx hb dX7_ofSpan_47 ?_
    replace hf := zg_s hf
    obtain ⟨hi48, a48, ea48, hf⟩ := hf
    refine z_iald hx hb hK hP 1 0 rfl rfl hi48 ea48 dX7_ofSpan_48 ?_
    obtain rfl := zo hf
    exact hret _ _ _ _ _ hP hD hS rfl dX7_ofSpan_49
  · replace hf := zi_n hf n1_0
    refine z_by (c := p2 = 1) (fun c1_1 => ?_) (fun n1_1 => ?_)
    · replace hf := zi_p hf c1_1
      refine lv_tableIn (off := 49) (tgt := 50) hx hb dX7_ofSpan_1 (by rw [c1_1]; decide) (by rw [c1_1]; decide) (by rw [c1_1]; decide) (by decide) ?_
      refine lv_aload_n hx hb dX7_ofSpan_50 rfl (lv_at hl 0 rfl) ?_
      refine lv_iload_n hx hb dX7_ofSpan_51 rfl (lv_at hl 1 rfl) ?_
      replace hf := zb_s hf
      obtain ⟨r52, hr52, hf⟩ := hf
      refine z_Vi (rest := []) C0 kX7_67 (c_X7_age l D G ad (b) u p1 r52 hr52) z_pall z_pall.symm (ci := 8) (T := TX7) (N := 11) rfl rfl rfl ⟨Nat.le_of_ble_eq_true rfl, Nat.le_of_ble_eq_true rfl⟩ (Nat.le_of_ble_eq_true rfl) rfl hl.1 hP hD hS dX7_ofSpan_52 (fun H locs hP hD hS => ?_)
      obtain rfl := zo hf
      exact hret _ _ _ _ _ hP hD hS rfl dX7_ofSpan_55
    · replace hf := zi_n hf n1_1
      refine z_by (c := p2 = 2) (fun c1_2 => ?_) (fun n1_2 => ?_)
      · replace hf := zi_p hf c1_2
        refine lv_tableIn (off := 55) (tgt := 56) hx hb dX7_ofSpan_1 (by rw [c1_2]; decide) (by rw [c1_2]; decide) (by rw [c1_2]; decide) (by decide) ?_
        refine lv_aload_n hx hb dX7_ofSpan_56 rfl (lv_at hl 0 rfl) ?_
        refine lv_iload_n hx hb dX7_ofSpan_57 rfl (lv_at hl 1 rfl) ?_
        replace hf := zb_s hf
        obtain ⟨r58, hr58, hf⟩ := hf
        refine z_Vi (rest := []) C0 kX7_128 (c_X7_spotsMany l D G ad (b) u p1 r58 hr58) z_pall z_pall.symm (ci := 8) (T := TX7) (N := 11) rfl rfl rfl ⟨Nat.le_of_ble_eq_true rfl, Nat.le_of_ble_eq_true rfl⟩ (Nat.le_of_ble_eq_true rfl) rfl hl.1 hP hD hS dX7_ofSpan_58 (fun H locs hP hD hS => ?_)
        obtain rfl := zo hf
        exact hret _ _ _ _ _ hP hD hS rfl dX7_ofSpan_61
      · replace hf := zi_n hf n1_2
        refine z_by (c := p2 = 3) (fun c1_3 => ?_) (fun n1_3 => ?_)
        · replace hf := zi_p hf c1_3
          refine lv_tableIn (off := 61) (tgt := 62) hx hb dX7_ofSpan_1 (by rw [c1_3]; decide) (by rw [c1_3]; decide) (by rw [c1_3]; decide) (by decide) ?_
          refine lv_aload_n hx hb dX7_ofSpan_62 rfl (lv_at hl 0 rfl) ?_
          refine lv_iload_n hx hb dX7_ofSpan_63 rfl (lv_at hl 1 rfl) ?_
          refine lv_bipush (v := 9) hx hb dX7_ofSpan_64 (by decide) ?_
          replace hf := zb_s hf
          obtain ⟨r66, hr66, hf⟩ := hf
          refine z_Vi (rest := []) C0 kX7_76 (c_X7_sumOf l D G ad (b) u p1 9 r66 hr66) z_pall z_pall.symm (ci := 8) (T := TX7) (N := 11) rfl rfl rfl ⟨Nat.le_of_ble_eq_true rfl, Nat.le_of_ble_eq_true rfl⟩ (Nat.le_of_ble_eq_true rfl) rfl hl.1 hP hD hS dX7_ofSpan_66 (fun H locs hP hD hS => ?_)
          obtain rfl := zo hf
          exact hret _ _ _ _ _ hP hD hS rfl dX7_ofSpan_69
        · replace hf := zi_n hf n1_3
          refine z_by (c := p2 = 4) (fun c1_4 => ?_) (fun n1_4 => ?_)
          · replace hf := zi_p hf c1_4
            refine lv_tableIn (off := 69) (tgt := 70) hx hb dX7_ofSpan_1 (by rw [c1_4]; decide) (by rw [c1_4]; decide) (by rw [c1_4]; decide) (by decide) ?_
            refine lv_aload_n hx hb dX7_ofSpan_70 rfl (lv_at hl 0 rfl) ?_
            refine lv_iload_n hx hb dX7_ofSpan_71 rfl (lv_at hl 1 rfl) ?_
            replace hf := zb_s hf
            obtain ⟨r72, hr72, hf⟩ := hf
            refine z_Vi (rest := []) C0 kX7_67 (c_X7_age l D G ad (b) u p1 r72 hr72) z_pall z_pall.symm (ci := 8) (T := TX7) (N := 11) rfl rfl rfl ⟨Nat.le_of_ble_eq_true rfl, Nat.le_of_ble_eq_true rfl⟩ (Nat.le_of_ble_eq_true rfl) rfl hl.1 hP hD hS dX7_ofSpan_72 (fun H locs hP hD hS => ?_)
            refine lv_aload_n hx hb dX7_ofSpan_75 rfl (lv_at hl 0 rfl) ?_
            refine va_get (D := D) (ci := 8) (v := .ref (ad (b + 1))) (C := RX7) (T := TX7) (N := 11) hx hb hW inlX7 hown hK hP 0 rfl rfl 0 (by decide) (hW _ wd_127) (fun _ h9 => h9) rfl dX7_ofSpan_76 ?_
            refine lv_bipush (v := 19) hx hb dX7_ofSpan_79 (by decide) ?_
            refine z_iald (v := (u.1 19)) hx hb hK hP 1 0 rfl rfl (z_in rfl) rfl dX7_ofSpan_81 ?_
            refine lv_icmp_le (tgt := 89) hx hb dX7_ofSpan_82 (by decide) (fun c82 => ?_) (fun c82 => ?_)
            · replace hf := zi_p hf c82
              refine lv_aload_n hx hb dX7_ofSpan_89 rfl (lv_at hl 0 rfl) ?_
              refine lv_iload_n hx hb dX7_ofSpan_90 rfl (lv_at hl 1 rfl) ?_
              replace hf := zb_s hf
              obtain ⟨r91, hr91, hf⟩ := hf
              refine z_Vi (rest := []) C0 kX7_79 (c_X7_isDue l D G ad (b) u p1 r91 hr91) z_pall z_pall.symm (ci := 8) (T := TX7) (N := 11) rfl rfl rfl ⟨Nat.le_of_ble_eq_true rfl, Nat.le_of_ble_eq_true rfl⟩ (Nat.le_of_ble_eq_true rfl) rfl hl.1 hP hD hS dX7_ofSpan_91 (fun H locs hP hD hS => ?_)
              refine lv_if_eq (tgt := 101) hx hb dX7_ofSpan_94 (by decide) (fun c94 => ?_) (fun c94 => ?_)
              · replace hf := zi_p hf c94
                refine lv_iconst (v := 0) hx hb dX7_ofSpan_101 (by decide) ?_
                obtain rfl := zo hf
                exact hret _ _ _ _ _ hP hD hS rfl dX7_ofSpan_102
              · replace hf := zi_n hf c94
                refine lv_iconst (v := 1) hx hb dX7_ofSpan_97 (by decide) ?_
                refine lv_goto (tgt := 102) hx hb dX7_ofSpan_98 (by decide) ?_
                obtain rfl := zo hf
                exact hret _ _ _ _ _ hP hD hS rfl dX7_ofSpan_102
            · replace hf := zi_n hf c82
              refine lv_iconst (v := 2) hx hb dX7_ofSpan_85 (by decide) ?_
              refine lv_goto (tgt := 102) hx hb dX7_ofSpan_86 (by decide) ?_
              obtain rfl := zo hf
              exact hret _ _ _ _ _ hP hD hS rfl dX7_ofSpan_102
          · replace hf := zi_n hf n1_4
            refine z_by (c := p2 = 5) (fun c1_5 => ?_) (fun n1_5 => ?_)
            · replace hf := zi_p hf c1_5
              refine lv_tableIn (off := 102) (tgt := 103) hx hb dX7_ofSpan_1 (by rw [c1_5]; decide) (by rw [c1_5]; decide) (by rw [c1_5]; decide) (by decide) ?_
              refine lv_aload_n hx hb dX7_ofSpan_103 rfl (lv_at hl 0 rfl) ?_
              refine lv_iload_n hx hb dX7_ofSpan_104 rfl (lv_at hl 1 rfl) ?_
              replace hf := zb_s hf
              obtain ⟨r105, hr105, hf⟩ := hf
              refine z_Vi (rest := []) C0 kX7_93 (c_X7_takes l D G ad (b) u p1 r105 hr105) z_pall z_pall.symm (ci := 8) (T := TX7) (N := 11) rfl rfl rfl ⟨Nat.le_of_ble_eq_true rfl, Nat.le_of_ble_eq_true rfl⟩ (Nat.le_of_ble_eq_true rfl) rfl hl.1 hP hD hS dX7_ofSpan_105 (fun H locs hP hD hS => ?_)
              obtain rfl := zo hf
              exact hret _ _ _ _ _ hP hD hS rfl dX7_ofSpan_108
            · replace hf := zi_n hf n1_5
              refine lv_tableOut (tgt := 109) hx hb dX7_ofSpan_1 (by have h0 := lv_neT (a := 0) n1_0 (by decide); have h1 := lv_neT (a := 1) n1_1 (by decide); have h2 := lv_neT (a := 2) n1_2 (by decide); have h3 := lv_neT (a := 3) n1_3 (by decide); have h4 := lv_neT (a := 4) n1_4 (by decide); have h5 := lv_neT (a := 5) n1_5 (by decide); omega) (by decide) ?_
              refine lv_aload_n hx hb dX7_ofSpan_109 rfl (lv_at hl 0 rfl) ?_
              refine lv_iload_n hx hb dX7_ofSpan_110 rfl (lv_at hl 1 rfl) ?_
              replace hf := zb_s hf
              obtain ⟨r111, hr111, hf⟩ := hf
              refine z_Vi (rest := []) C0 kX7_137 (c_X7_placeOf l D G ad (b) u p1 r111 hr111) z_pall z_pall.symm (ci := 8) (T := TX7) (N := 11) rfl rfl rfl ⟨Nat.le_of_ble_eq_true rfl, Nat.le_of_ble_eq_true rfl⟩ (Nat.le_of_ble_eq_true rfl) rfl hl.1 hP hD hS dX7_ofSpan_111 (fun H locs hP hD hS => ?_)
              obtain rfl := zo hf
              exact hret _ _ _ _ _ hP hD hS rfl dX7_ofSpan_114
noncomputable def q_X7_isEntry (u : tX7) (p1 : Int32) : Option (Int32) :=
  zb (q_X7_entriesMany u) fun r3 => zb (q_X7_within p1 0 (r3 - 1)) fun r8 => zq (r8 = 0 ∨ r8 = 1) (some (r8))
set_option maxRecDepth 100000 in
set_option maxHeartbeats 4000000 in
theorem c_X7_isEntry (l : Launch) (D : va_G) (G : zG) (ad : Nat → Nat) (b : Nat) (u : tX7) (p1 : Int32) (res : Int32) (hf : q_X7_isEntry u p1 = some res) : zMi l yX7_isEntry cX7_isEntry 2 (some .boolean) 1 22 D G (wX7 G ad b u) (wX7 G ad b u) [.ref (ad b), .int p1] res := by
  refine zs_z (plainFor_of_name (by decide)) (Nat.le_of_ble_eq_true rfl) ?_
  intro p e s m args below meth c A Q H ls C0 hret hP hD hS hl
  obtain ⟨hx, hb, hml, hown, hW, hK, hlocks, hF, hr, hA⟩ := id C0
  replace hl : lv_has ls 2 [(0, .ref (ad b)), (1, .int p1)] := hl
  unfold q_X7_isEntry at hf
  refine lv_iload_n hx hb dX7_isEntry_0 rfl (lv_at hl 1 rfl) ?_
  refine lv_iconst (v := 0) hx hb dX7_isEntry_1 (by decide) ?_
  refine lv_aload_n hx hb dX7_isEntry_2 rfl (lv_at hl 0 rfl) ?_
  replace hf := zb_s hf
  obtain ⟨r3, hr3, hf⟩ := hf
  refine z_Vi (rest := [.int 0, .int p1]) C0 kX7_34 (c_X7_entriesMany l D G ad (b) u r3 hr3) z_pall z_pall.symm (ci := 8) (T := TX7) (N := 11) rfl rfl rfl ⟨Nat.le_of_ble_eq_true rfl, Nat.le_of_ble_eq_true rfl⟩ (Nat.le_of_ble_eq_true rfl) rfl hl.1 hP hD hS dX7_isEntry_3 (fun H locs hP hD hS => ?_)
  refine lv_iconst (v := 1) hx hb dX7_isEntry_6 (by decide) ?_
  refine lv_isub hx hb dX7_isEntry_7 ?_
  replace hf := zb_s hf
  obtain ⟨r8, hr8, hf⟩ := hf
  refine z_Si (rest := []) C0 kX7_30 (c_X7_within l D G p1 0 (r3 - 1) r8 hr8) (List.Perm.refl _) (List.Perm.refl _) rfl ⟨Nat.le_of_ble_eq_true rfl, Nat.le_of_ble_eq_true rfl⟩ (Nat.le_of_ble_eq_true rfl) rfl hl.1 hP hD hS dX7_isEntry_8 (fun H locs hP hD hS => ?_)
  replace hf := zq_s hf
  obtain ⟨hq, hf⟩ := hf
  obtain rfl := zo hf
  exact hret _ _ _ _ _ hP hD hS rfl (z_nb hq) dX7_isEntry_11
noncomputable def q_X7_overdueMany_L4 (u : tX7) (v4 : Int32 × Int32) : Option ((Int32 × Int32) ⊕ (Int32)) :=
  (if 8 ≤ v4.2 then some (Sum.inr (v4.1)) else zb (q_X7_age u v4.2) fun r13 => (if r13 ≤ (u.1 19) then some (Sum.inl ((v4.1 + 0), (v4.2 + 1))) else some (Sum.inl ((v4.1 + 1), (v4.2 + 1)))))
noncomputable def q_X7_overdueMany (u : tX7) : Option (Int32) :=
  zb (zl 1000000 (q_X7_overdueMany_L4 u) (0, 0)) (fun b4 => some (b4))
set_option maxRecDepth 100000 in
set_option maxHeartbeats 4000000 in
theorem c_X7_overdueMany (l : Launch) (D : va_G) (G : zG) (ad : Nat → Nat) (b : Nat) (u : tX7) (res : Int32) (hf : q_X7_overdueMany u = some res) : zMi l yX7_overdueMany cX7_overdueMany 3 (some .int) 1 21 D G (wX7 G ad b u) (wX7 G ad b u) [.ref (ad b)] res := by
  refine zs_i (plainFor_of_name (by decide)) (Nat.le_of_ble_eq_true rfl) ?_
  intro p e s m args below meth c A Q H ls C0 hret hP hD hS hl
  obtain ⟨hx, hb, hml, hown, hW, hK, hlocks, hF, hr, hA⟩ := id C0
  replace hl : lv_has ls 3 [(0, .ref (ad b))] := hl
  unfold q_X7_overdueMany at hf
  refine lv_iconst (v := 0) hx hb dX7_overdueMany_0 (by decide) ?_
  refine lv_istore_n (lv' := [(1, .int 0), (0, .ref (ad b))]) hx hb dX7_overdueMany_1 rfl hl (by decide) rfl (fun ls hl => ?_)
  refine lv_iconst (v := 0) hx hb dX7_overdueMany_2 (by decide) ?_
  refine lv_istore_n (lv' := [(2, .int 0), (1, .int 0), (0, .ref (ad b))]) hx hb dX7_overdueMany_3 rfl hl (by decide) rfl (fun ls hl => ?_)
  replace hf := zb_s hf
  obtain ⟨b4, hz4, hk4⟩ := hf
  have L4 : ∀ (n4 : Nat) (v4 : Int32 × Int32) (hz4 : zl n4 (q_X7_overdueMany_L4 u) v4 = some b4) (H : Heap) (locs : List Loc) (hP : va_P D vwCl (wX7 G ad b u) H) (hD : va_D A (wX7 G ad b u)) (hS : va_S A s.heap H locs) (ls : Array Slot) (hl : lv_has ls 3 [(0, .ref (ad b)), (1, .int v4.1), (2, .int v4.2)]), W p l e (zRm 1 21) s m args below meth c H locs 0 0 Q (F0 m 4 ls []) := by
    intro n4
    induction n4 with
    | zero => intro v4 hz4; exact (zl_0 hz4).elim
    | succ n4 ih4 =>
      intro v4 hz4 H locs hP hD hS ls hl
      obtain ⟨o4, hf, hz4⟩ := zl_s hz4
      unfold q_X7_overdueMany_L4 at hf
      refine lv_iload_n hx hb dX7_overdueMany_4 rfl (lv_at hl 2 rfl) ?_
      refine lv_bipush (v := 8) hx hb dX7_overdueMany_5 (by decide) ?_
      refine lv_icmp_ge (tgt := 39) hx hb dX7_overdueMany_7 (by decide) (fun c7 => ?_) (fun c7 => ?_)
      · replace hf := zi_p hf c7
        have hb4 := zk_r hf hz4
        subst hb4
        replace hf := hk4
        refine lv_iload_n hx hb dX7_overdueMany_39 rfl (lv_at hl 1 rfl) ?_
        obtain rfl := zo hf
        exact hret _ _ _ _ _ hP hD hS rfl dX7_overdueMany_40
      · replace hf := zi_n hf c7
        refine lv_iload_n hx hb dX7_overdueMany_10 rfl (lv_at hl 1 rfl) ?_
        refine lv_aload_n hx hb dX7_overdueMany_11 rfl (lv_at hl 0 rfl) ?_
        refine lv_iload_n hx hb dX7_overdueMany_12 rfl (lv_at hl 2 rfl) ?_
        replace hf := zb_s hf
        obtain ⟨r13, hr13, hf⟩ := hf
        refine z_Vi (rest := [.int v4.1]) C0 kX7_67 (c_X7_age l D G ad (b) u v4.2 r13 hr13) z_pall z_pall.symm (ci := 8) (T := TX7) (N := 11) rfl rfl rfl ⟨Nat.le_of_ble_eq_true rfl, Nat.le_of_ble_eq_true rfl⟩ (Nat.le_of_ble_eq_true rfl) rfl hl.1 hP hD hS dX7_overdueMany_13 (fun H locs hP hD hS => ?_)
        refine lv_aload_n hx hb dX7_overdueMany_16 rfl (lv_at hl 0 rfl) ?_
        refine va_get (D := D) (ci := 8) (v := .ref (ad (b + 1))) (C := RX7) (T := TX7) (N := 11) hx hb hW inlX7 hown hK hP 0 rfl rfl 0 (by decide) (hW _ wd_127) (fun _ h9 => h9) rfl dX7_overdueMany_17 ?_
        refine lv_bipush (v := 19) hx hb dX7_overdueMany_20 (by decide) ?_
        refine z_iald (v := (u.1 19)) hx hb hK hP 1 0 rfl rfl (z_in rfl) rfl dX7_overdueMany_22 ?_
        refine lv_icmp_le (tgt := 30) hx hb dX7_overdueMany_23 (by decide) (fun c23 => ?_) (fun c23 => ?_)
        · replace hf := zi_p hf c23
          refine lv_iconst (v := 0) hx hb dX7_overdueMany_30 (by decide) ?_
          refine lv_iadd hx hb dX7_overdueMany_31 ?_
          refine lv_istore_n (lv' := [(1, .int (v4.1 + 0)), (0, .ref (ad b)), (2, .int v4.2)]) hx hb dX7_overdueMany_32 rfl hl (by decide) rfl (fun ls hl => ?_)
          refine lv_iinc (v := (v4.2 + 1)) (lv' := [(2, .int (v4.2 + 1)), (1, .int (v4.1 + 0)), (0, .ref (ad b))]) hx hb dX7_overdueMany_33 hl (k := 2) rfl rfl (by decide) rfl (fun ls hl => ?_)
          refine lv_goto (tgt := 4) hx hb dX7_overdueMany_36 (by decide) ?_
          exact ih4 _ (zk_l hf hz4) _ _ hP hD hS _ (lv_sub hl [2, 1, 0] rfl)
        · replace hf := zi_n hf c23
          refine lv_iconst (v := 1) hx hb dX7_overdueMany_26 (by decide) ?_
          refine lv_goto (tgt := 31) hx hb dX7_overdueMany_27 (by decide) ?_
          refine lv_iadd hx hb dX7_overdueMany_31 ?_
          refine lv_istore_n (lv' := [(1, .int (v4.1 + 1)), (0, .ref (ad b)), (2, .int v4.2)]) hx hb dX7_overdueMany_32 rfl hl (by decide) rfl (fun ls hl => ?_)
          refine lv_iinc (v := (v4.2 + 1)) (lv' := [(2, .int (v4.2 + 1)), (1, .int (v4.1 + 1)), (0, .ref (ad b))]) hx hb dX7_overdueMany_33 hl (k := 2) rfl rfl (by decide) rfl (fun ls hl => ?_)
          refine lv_goto (tgt := 4) hx hb dX7_overdueMany_36 (by decide) ?_
          exact ih4 _ (zk_l hf hz4) _ _ hP hD hS _ (lv_sub hl [2, 1, 0] rfl)
  exact L4 _ _ hz4 _ _ hP hD hS _ (lv_sub hl [2, 1, 0] rfl)
noncomputable def q_X7_character (u : tX7) (p1 : Int32) : Option (Int32) :=
  (if u.2.2.2.2.2.1 ≤ p1 then some ((-1)) else zg 80 u.2.2.2.2.1 p1 fun a13 => some (a13))
set_option maxRecDepth 100000 in
set_option maxHeartbeats 4000000 in
theorem c_X7_character (l : Launch) (D : va_G) (G : zG) (ad : Nat → Nat) (b : Nat) (u : tX7) (p1 : Int32) (res : Int32) (hf : q_X7_character u p1 = some res) : zMi l yX7_character cX7_character 2 (some .int) 0 0 D G (wX7 G ad b u) (wX7 G ad b u) [.ref (ad b), .int p1] res := by
  refine zs_i (plainFor_of_name (by decide)) (Nat.le_of_ble_eq_true rfl) ?_
  intro p e s m args below meth c A Q H ls C0 hret hP hD hS hl
  obtain ⟨hx, hb, hml, hown, hW, hK, hlocks, hF, hr, hA⟩ := id C0
  replace hl : lv_has ls 2 [(0, .ref (ad b)), (1, .int p1)] := hl
  unfold q_X7_character at hf
  refine lv_iload_n hx hb dX7_character_0 rfl (lv_at hl 1 rfl) ?_
  refine lv_aload_n hx hb dX7_character_1 rfl (lv_at hl 0 rfl) ?_
  refine va_get (D := D) (ci := 8) (v := .int u.2.2.2.2.2.1) (C := RX7) (T := TX7) (N := 11) hx hb hW inlX7 hown hK hP 0 rfl rfl 5 (by decide) (hW _ wd_921) (fun _ h9 => h9) rfl dX7_character_2 ?_
  refine lv_icmp_ge (tgt := 17) hx hb dX7_character_5 (by decide) (fun c5 => ?_) (fun c5 => ?_)
  · replace hf := zi_p hf c5
    refine lv_iconst (v := (-1)) hx hb dX7_character_17 (by decide) ?_
    obtain rfl := zo hf
    exact hret _ _ _ _ _ hP hD hS rfl dX7_character_18
  · replace hf := zi_n hf c5
    refine lv_aload_n hx hb dX7_character_8 rfl (lv_at hl 0 rfl) ?_
    refine va_get (D := D) (ci := 8) (v := .ref (ad (b + 4))) (C := RX7) (T := TX7) (N := 11) hx hb hW inlX7 hown hK hP 0 rfl rfl 4 (by decide) (hW _ wd_130) (fun _ h9 => h9) rfl dX7_character_9 ?_
    refine lv_iload_n hx hb dX7_character_12 rfl (lv_at hl 1 rfl) ?_
    replace hf := zg_s hf
    obtain ⟨hi13, a13, ea13, hf⟩ := hf
    refine z_iald hx hb hK hP 4 0 rfl rfl hi13 ea13 dX7_character_13 ?_
    refine lv_goto (tgt := 18) hx hb dX7_character_14 (by decide) ?_
    obtain rfl := zo hf
    exact hret _ _ _ _ _ hP hD hS rfl dX7_character_18
theorem kX7_186 : zLkV RX7 186 yX7_character cX7_character 2 (some .int) 1 := ⟨⟨wd_1020, wd_1021, wd_1022, wd_5, wd_1023⟩, by decide +kernel⟩
noncomputable def q_X7_isNext_J32 (u : tX7) (y17_0 : Int32) (y32_2 : Int32) : Option (Int32 × Int32) :=
  zn (u.2.2.2.2.2.2.1 + y32_2) fun k33 => zq (y17_0 = 0 ∨ y17_0 = 1) (some (y17_0, k33))
noncomputable def q_X7_isNext_J17 (u : tX7) (y17_0 : Int32) : Option (Int32 × Int32) :=
  (if y17_0 = 0 then q_X7_isNext_J32 u y17_0 0 else q_X7_isNext_J32 u y17_0 1)
noncomputable def q_X7_isNext (u : tX7) (p1 : Int32) : Option (Int32 × Int32) :=
  zb (q_X7_character u u.2.2.2.2.2.2.1) fun r5 => (if r5 = p1 then q_X7_isNext_J17 u 1 else q_X7_isNext_J17 u 0)
set_option maxRecDepth 100000 in
set_option maxHeartbeats 4000000 in
theorem c_X7_isNext (l : Launch) (D : va_G) (G : zG) (ad : Nat → Nat) (b : Nat) (u : tX7) (p1 : Int32) (res : Int32 × Int32) (hf : q_X7_isNext u p1 = some res) : zMi l yX7_isNext cX7_isNext 3 (some .boolean) 1 21 D G (wX7 G ad b u) (wX7 G ad b (u.1, u.2.1, u.2.2.1, u.2.2.2.1, u.2.2.2.2.1, u.2.2.2.2.2.1, res.2, u.2.2.2.2.2.2.2.1, u.2.2.2.2.2.2.2.2.1, u.2.2.2.2.2.2.2.2.2.1, u.2.2.2.2.2.2.2.2.2.2)) [.ref (ad b), .int p1] res.1 := by
  refine zs_z (plainFor_of_name (by decide)) (Nat.le_of_ble_eq_true rfl) ?_
  intro p e s m args below meth c A Q H ls C0 hret hP hD hS hl
  obtain ⟨hx, hb, hml, hown, hW, hK, hlocks, hF, hr, hA⟩ := id C0
  replace hl : lv_has ls 3 [(0, .ref (ad b)), (1, .int p1)] := hl
  unfold q_X7_isNext at hf
  refine lv_aload_n hx hb dX7_isNext_0 rfl (lv_at hl 0 rfl) ?_
  refine lv_aload_n hx hb dX7_isNext_1 rfl (lv_at hl 0 rfl) ?_
  refine va_get (D := D) (ci := 8) (v := .int u.2.2.2.2.2.2.1) (C := RX7) (T := TX7) (N := 11) hx hb hW inlX7 hown hK hP 0 rfl rfl 6 (by decide) (hW _ wd_1007) (fun _ h9 => h9) rfl dX7_isNext_2 ?_
  replace hf := zb_s hf
  obtain ⟨r5, hr5, hf⟩ := hf
  refine z_Vi (rest := []) C0 kX7_186 (c_X7_character l D G ad (b) u u.2.2.2.2.2.2.1 r5 hr5) z_pall z_pall.symm (ci := 8) (T := TX7) (N := 11) rfl rfl rfl ⟨Nat.le_of_ble_eq_true rfl, Nat.le_of_ble_eq_true rfl⟩ (Nat.le_of_ble_eq_true rfl) rfl hl.1 hP hD hS dX7_isNext_5 (fun H locs hP hD hS => ?_)
  refine lv_iload_n hx hb dX7_isNext_8 rfl (lv_at hl 1 rfl) ?_
  have J17 : ∀ (y17_0 : Int32) (hf : q_X7_isNext_J17 u y17_0 = some res) (H : Heap) (locs : List Loc) (hP : va_P D vwCl (wX7 G ad b u) H) (hD : va_D A (wX7 G ad b u)) (hS : va_S A s.heap H locs) (ls : Array Slot) (hl : lv_has ls 3 [(0, .ref (ad b))]), W p l e (zRm 1 21) s m args below meth c H locs 0 0 Q (F0 m 17 ls [.int y17_0]) := by
    intro y17_0 hf H locs hP hD hS ls hl
    unfold q_X7_isNext_J17 at hf
    refine lv_istore_n (lv' := [(2, .int y17_0), (0, .ref (ad b))]) hx hb dX7_isNext_17 rfl hl (by decide) rfl (fun ls hl => ?_)
    refine lv_aload_n hx hb dX7_isNext_18 rfl (lv_at hl 1 rfl) ?_
    refine lv_dup hx hb dX7_isNext_19 rfl ?_
    refine va_get (D := D) (ci := 8) (v := .int u.2.2.2.2.2.2.1) (C := RX7) (T := TX7) (N := 11) hx hb hW inlX7 hown hK hP 0 rfl rfl 6 (by decide) (hW _ wd_1007) (fun _ h9 => h9) rfl dX7_isNext_20 ?_
    refine lv_iload_n hx hb dX7_isNext_23 rfl (lv_at hl 0 rfl) ?_
    have J32 : ∀ (y32_2 : Int32) (hf : q_X7_isNext_J32 u y17_0 y32_2 = some res) (H : Heap) (locs : List Loc) (hP : va_P D vwCl (wX7 G ad b u) H) (hD : va_D A (wX7 G ad b u)) (hS : va_S A s.heap H locs) (ls : Array Slot) (hl : lv_has ls 3 [(2, .int y17_0)]), W p l e (zRm 1 21) s m args below meth c H locs 0 0 Q (F0 m 32 ls [.int y32_2, .int u.2.2.2.2.2.2.1, .ref (ad b)]) := by
      intro y32_2 hf H locs hP hD hS ls hl
      unfold q_X7_isNext_J32 at hf
      refine lv_iadd hx hb dX7_isNext_32 ?_
      replace hf := zn_s hf
      obtain ⟨k33, ek33, hf⟩ := hf
      refine z_top ek33 ?_
      refine z_put (ws' := wX7 G ad b (u.1, u.2.1, u.2.2.1, u.2.2.2.1, u.2.2.2.2.1, u.2.2.2.2.2.1, k33, u.2.2.2.2.2.2.2.1, u.2.2.2.2.2.2.2.2.1, u.2.2.2.2.2.2.2.2.2.1, u.2.2.2.2.2.2.2.2.2.2)) (ci := 8) (C := RX7) (T := TX7) (N := 11) hx hb hW inlX7 tyX7 tyX7_ok nmX7 hown hK hP hD hS 0 rfl rfl 6 (by decide) (hW _ wd_1007) rfl rfl (Nat.le_of_ble_eq_true rfl) rfl dX7_isNext_33 (fun H locs hP hD hS => ?_)
      refine lv_iload_n hx hb dX7_isNext_36 rfl (lv_at hl 0 rfl) ?_
      replace hf := zq_s hf
      obtain ⟨hq, hf⟩ := hf
      obtain rfl := zo hf
      exact hret _ _ _ _ _ hP hD hS rfl (z_nb hq) dX7_isNext_37
    refine lv_if_eq (tgt := 31) hx hb dX7_isNext_24 (by decide) (fun c24 => ?_) (fun c24 => ?_)
    · replace hf := zi_p hf c24
      refine lv_iconst (v := 0) hx hb dX7_isNext_31 (by decide) ?_
      exact J32 0 hf _ _ hP hD hS _ (lv_sub hl [0] rfl)
    · replace hf := zi_n hf c24
      refine lv_iconst (v := 1) hx hb dX7_isNext_27 (by decide) ?_
      refine lv_goto (tgt := 32) hx hb dX7_isNext_28 (by decide) ?_
      exact J32 1 hf _ _ hP hD hS _ (lv_sub hl [0] rfl)
  refine lv_icmp_ne (tgt := 16) hx hb dX7_isNext_9 (by decide) (fun c9 => ?_) (fun c9 => ?_)
  · replace hf := zi_n hf c9
    refine lv_iconst (v := 0) hx hb dX7_isNext_16 (by decide) ?_
    exact J17 0 hf _ _ hP hD hS _ (lv_sub hl [0] rfl)
  · replace hf := zi_p hf c9
    refine lv_iconst (v := 1) hx hb dX7_isNext_12 (by decide) ?_
    refine lv_goto (tgt := 17) hx hb dX7_isNext_13 (by decide) ?_
    exact J17 1 hf _ _ hP hD hS _ (lv_sub hl [0] rfl)
theorem kX7_189 : zLkV RX7 189 yX7_isNext cX7_isNext 3 (some .boolean) 1 := ⟨⟨wd_1028, wd_1029, wd_1030, wd_5, wd_1031⟩, by decide +kernel⟩
noncomputable def q_X7_readsWord_L5 (u : tX7) (v5 : Int32 × Int64 × Int32) : Option ((Int32 × Int64 × Int32) ⊕ (Int32 × Int32)) :=
  (if (lg_cmp v5.2.1 0) ≤ 0 then some (Sum.inr (v5.1, v5.2.2)) else (if v5.1 = 0 then some (Sum.inr (v5.1, v5.2.2)) else zb (q_X7_isNext (u.1, u.2.1, u.2.2.1, u.2.2.2.1, u.2.2.2.2.1, u.2.2.2.2.2.1, v5.2.2, u.2.2.2.2.2.2.2.1, u.2.2.2.2.2.2.2.2.1, u.2.2.2.2.2.2.2.2.2.1, u.2.2.2.2.2.2.2.2.2.2) (Int64.toInt32 (v5.2.1 &&& 255))) fun r24 => some (Sum.inl (r24.1, (v5.2.1 >>> (Int32.toInt64 8 &&& 63)), r24.2))))
noncomputable def q_X7_readsWord (u : tX7) (p1 : Int64) : Option (Int32 × Int32) :=
  zb (zl 1000000 (q_X7_readsWord_L5 u) (1, p1, u.2.2.2.2.2.2.1)) (fun b5 => zq (b5.1 = 0 ∨ b5.1 = 1) (some (b5.1, b5.2)))
set_option maxRecDepth 100000 in
set_option maxHeartbeats 4000000 in
theorem c_X7_readsWord (l : Launch) (D : va_G) (G : zG) (ad : Nat → Nat) (b : Nat) (u : tX7) (p1 : Int64) (res : Int32 × Int32) (hf : q_X7_readsWord u p1 = some res) : zMi l yX7_readsWord cX7_readsWord 6 (some .boolean) 2 43 D G (wX7 G ad b u) (wX7 G ad b (u.1, u.2.1, u.2.2.1, u.2.2.2.1, u.2.2.2.2.1, u.2.2.2.2.2.1, res.2, u.2.2.2.2.2.2.2.1, u.2.2.2.2.2.2.2.2.1, u.2.2.2.2.2.2.2.2.2.1, u.2.2.2.2.2.2.2.2.2.2)) [.ref (ad b), .long p1] res.1 := by
  refine zs_z (plainFor_of_name (by decide)) (Nat.le_of_ble_eq_true rfl) ?_
  intro p e s m args below meth c A Q H ls C0 hret hP hD hS hl
  obtain ⟨hx, hb, hml, hown, hW, hK, hlocks, hF, hr, hA⟩ := id C0
  replace hl : lv_has ls 6 [(0, .ref (ad b)), (1, .long p1)] := hl
  unfold q_X7_readsWord at hf
  refine lv_iconst (v := 1) hx hb dX7_readsWord_0 (by decide) ?_
  refine lv_istore_n (lv' := [(3, .int 1), (0, .ref (ad b)), (1, .long p1)]) hx hb dX7_readsWord_1 rfl hl (by decide) rfl (fun ls hl => ?_)
  refine lv_lload_n hx hb dX7_readsWord_2 rfl (lv_at hl 2 rfl) ?_
  refine lv_lstore (lv' := [(4, .long p1), (3, .int 1), (0, .ref (ad b)), (1, .long p1)]) hx hb dX7_readsWord_3 hl (by decide) rfl (fun ls hl => ?_)
  replace hf := zb_s hf
  obtain ⟨b5, hz5, hk5⟩ := hf
  have L5 : ∀ (n5 : Nat) (v5 : Int32 × Int64 × Int32) (hz5 : zl n5 (q_X7_readsWord_L5 u) v5 = some b5) (H : Heap) (locs : List Loc) (hP : va_P D vwCl (wX7 G ad b (u.1, u.2.1, u.2.2.1, u.2.2.2.1, u.2.2.2.2.1, u.2.2.2.2.2.1, v5.2.2, u.2.2.2.2.2.2.2.1, u.2.2.2.2.2.2.2.2.1, u.2.2.2.2.2.2.2.2.2.1, u.2.2.2.2.2.2.2.2.2.2)) H) (hD : va_D A (wX7 G ad b (u.1, u.2.1, u.2.2.1, u.2.2.2.1, u.2.2.2.2.1, u.2.2.2.2.2.1, v5.2.2, u.2.2.2.2.2.2.2.1, u.2.2.2.2.2.2.2.2.1, u.2.2.2.2.2.2.2.2.2.1, u.2.2.2.2.2.2.2.2.2.2))) (hS : va_S A s.heap H locs) (ls : Array Slot) (hl : lv_has ls 6 [(0, .ref (ad b)), (3, .int v5.1), (4, .long v5.2.1)]), W p l e (zRm 2 43) s m args below meth c H locs 0 0 Q (F0 m 5 ls []) := by
    intro n5
    induction n5 with
    | zero => intro v5 hz5; exact (zl_0 hz5).elim
    | succ n5 ih5 =>
      intro v5 hz5 H locs hP hD hS ls hl
      obtain ⟨o5, hf, hz5⟩ := zl_s hz5
      unfold q_X7_readsWord_L5 at hf
      refine lv_lload hx hb dX7_readsWord_5 (lv_at hl 2 rfl) ?_
      refine lv_lconst (v := 0) hx hb dX7_readsWord_7 (by decide) ?_
      refine W.lcmp hx hb dX7_readsWord_8 ?_
      refine lv_if_le (tgt := 38) hx hb dX7_readsWord_9 (by decide) (fun c9 => ?_) (fun c9 => ?_)
      · replace hf := zi_p hf c9
        have hb5 := zk_r hf hz5
        subst hb5
        replace hf := hk5
        refine lv_iload_n hx hb dX7_readsWord_38 rfl (lv_at hl 1 rfl) ?_
        replace hf := zq_s hf
        obtain ⟨hq, hf⟩ := hf
        obtain rfl := zo hf
        exact hret _ _ _ _ _ hP hD hS rfl (z_nb hq) dX7_readsWord_39
      · replace hf := zi_n hf c9
        refine lv_iload_n hx hb dX7_readsWord_12 rfl (lv_at hl 1 rfl) ?_
        refine lv_if_eq (tgt := 38) hx hb dX7_readsWord_13 (by decide) (fun c13 => ?_) (fun c13 => ?_)
        · replace hf := zi_p hf c13
          have hb5 := zk_r hf hz5
          subst hb5
          replace hf := hk5
          refine lv_iload_n hx hb dX7_readsWord_38 rfl (lv_at hl 1 rfl) ?_
          replace hf := zq_s hf
          obtain ⟨hq, hf⟩ := hf
          obtain rfl := zo hf
          exact hret _ _ _ _ _ hP hD hS rfl (z_nb hq) dX7_readsWord_39
        · replace hf := zi_n hf c13
          refine lv_aload_n hx hb dX7_readsWord_16 rfl (lv_at hl 0 rfl) ?_
          refine lv_lload hx hb dX7_readsWord_17 (lv_at hl 2 rfl) ?_
          refine lv_ldc2 hx hb hown (hW _ wd_849) dX7_readsWord_19 ?_
          refine lv_land hx hb dX7_readsWord_22 ?_
          refine lv_l2i (v := (Int64.toInt32 (v5.2.1 &&& 255))) hx hb dX7_readsWord_23 rfl ?_
          replace hf := zb_s hf
          obtain ⟨r24, hr24, hf⟩ := hf
          refine z_Vi (rest := []) C0 kX7_189 (c_X7_isNext l D G ad (b) (u.1, u.2.1, u.2.2.1, u.2.2.2.1, u.2.2.2.2.1, u.2.2.2.2.2.1, v5.2.2, u.2.2.2.2.2.2.2.1, u.2.2.2.2.2.2.2.2.1, u.2.2.2.2.2.2.2.2.2.1, u.2.2.2.2.2.2.2.2.2.2) (Int64.toInt32 (v5.2.1 &&& 255)) r24 hr24) z_pall z_pall.symm (ci := 8) (T := TX7) (N := 11) rfl rfl rfl ⟨Nat.le_of_ble_eq_true rfl, Nat.le_of_ble_eq_true rfl⟩ (Nat.le_of_ble_eq_true rfl) rfl hl.1 hP hD hS dX7_readsWord_24 (fun H locs hP hD hS => ?_)
          replace hP : va_P D vwCl (wX7 G ad b (u.1, u.2.1, u.2.2.1, u.2.2.2.1, u.2.2.2.2.1, u.2.2.2.2.2.1, r24.2, u.2.2.2.2.2.2.2.1, u.2.2.2.2.2.2.2.2.1, u.2.2.2.2.2.2.2.2.2.1, u.2.2.2.2.2.2.2.2.2.2)) H := hP
          replace hD : va_D A (wX7 G ad b (u.1, u.2.1, u.2.2.1, u.2.2.2.1, u.2.2.2.2.1, u.2.2.2.2.2.1, r24.2, u.2.2.2.2.2.2.2.1, u.2.2.2.2.2.2.2.2.1, u.2.2.2.2.2.2.2.2.2.1, u.2.2.2.2.2.2.2.2.2.2)) := hD
          refine lv_istore_n (lv' := [(3, .int r24.1), (0, .ref (ad b)), (4, .long v5.2.1)]) hx hb dX7_readsWord_27 rfl hl (by decide) rfl (fun ls hl => ?_)
          refine lv_lload hx hb dX7_readsWord_28 (lv_at hl 2 rfl) ?_
          refine lv_bipush (v := 8) hx hb dX7_readsWord_30 (by decide) ?_
          refine lv_lshr (v := (v5.2.1 >>> (Int32.toInt64 8 &&& 63))) hx hb dX7_readsWord_32 rfl ?_
          refine lv_lstore (lv' := [(4, .long (v5.2.1 >>> (Int32.toInt64 8 &&& 63))), (3, .int r24.1), (0, .ref (ad b))]) hx hb dX7_readsWord_33 hl (by decide) rfl (fun ls hl => ?_)
          refine lv_goto (tgt := 5) hx hb dX7_readsWord_35 (by decide) ?_
          exact ih5 _ (zk_l hf hz5) _ _ hP hD hS _ (lv_sub hl [2, 1, 0] rfl)
  exact L5 _ _ hz5 _ _ hP hD hS _ (lv_sub hl [2, 1, 0] rfl)
noncomputable def q_X7_readsNumber_J69  (x69_1 : Int32) (w69_0 : Int32) (w69_1 : Int32) : Option (Int32 × Int32 × Int32) :=
  (if x69_1 ≤ 0 then some (0, w69_0, w69_1) else some (1, w69_0, w69_1))
noncomputable def q_X7_readsNumber_L7 (u : tX7) (v7 : Int32 × Int32 × Int32) : Option ((Int32 × Int32 × Int32) ⊕ (Int32 × Int32 × Int32)) :=
  (if 3 ≤ v7.1 then some (Sum.inr (v7.1, v7.2.1, v7.2.2)) else zb (q_X7_character (u.1, u.2.1, u.2.2.1, u.2.2.2.1, u.2.2.2.2.1, u.2.2.2.2.2.1, v7.2.1, u.2.2.2.2.2.2.2.1, u.2.2.2.2.2.2.2.2.1, u.2.2.2.2.2.2.2.2.2.1, v7.2.2) v7.2.1) fun r17 => zb (q_X7_within r17 48 57) fun r24 => (if r24 = 0 then some (Sum.inr (v7.1, v7.2.1, v7.2.2)) else zb (q_X7_character (u.1, u.2.1, u.2.2.1, u.2.2.2.1, u.2.2.2.2.1, u.2.2.2.2.2.1, v7.2.1, u.2.2.2.2.2.2.2.1, u.2.2.2.2.2.2.2.2.1, u.2.2.2.2.2.2.2.2.2.1, v7.2.2) v7.2.1) fun r43 => zn (((10 * v7.2.2) + r43) - 48) fun k50 => zn (v7.2.1 + 1) fun k63 => some (Sum.inl ((v7.1 + 1), k63, k50))))
noncomputable def q_X7_readsNumber (u : tX7) : Option (Int32 × Int32 × Int32) :=
  zb (zl 1000000 (q_X7_readsNumber_L7 u) (0, u.2.2.2.2.2.2.1, 0)) (fun b7 => q_X7_readsNumber_J69 b7.1 b7.2.1 b7.2.2)
set_option maxRecDepth 100000 in
set_option maxHeartbeats 4000000 in
theorem c_X7_readsNumber (l : Launch) (D : va_G) (G : zG) (ad : Nat → Nat) (b : Nat) (u : tX7) (res : Int32 × Int32 × Int32) (hf : q_X7_readsNumber u = some res) : zMi l yX7_readsNumber cX7_readsNumber 2 (some .boolean) 1 22 D G (wX7 G ad b u) (wX7 G ad b (u.1, u.2.1, u.2.2.1, u.2.2.2.1, u.2.2.2.2.1, u.2.2.2.2.2.1, res.2.1, u.2.2.2.2.2.2.2.1, u.2.2.2.2.2.2.2.2.1, u.2.2.2.2.2.2.2.2.2.1, res.2.2)) [.ref (ad b)] res.1 := by
  refine zs_z (plainFor_of_name (by decide)) (Nat.le_of_ble_eq_true rfl) ?_
  intro p e s m args below meth c A Q H ls C0 hret hP hD hS hl
  obtain ⟨hx, hb, hml, hown, hW, hK, hlocks, hF, hr, hA⟩ := id C0
  replace hl : lv_has ls 2 [(0, .ref (ad b))] := hl
  unfold q_X7_readsNumber at hf
  refine lv_aload_n hx hb dX7_readsNumber_0 rfl (lv_at hl 0 rfl) ?_
  refine lv_iconst (v := 0) hx hb dX7_readsNumber_1 (by decide) ?_
  refine z_put (ws' := wX7 G ad b (u.1, u.2.1, u.2.2.1, u.2.2.2.1, u.2.2.2.2.1, u.2.2.2.2.2.1, u.2.2.2.2.2.2.1, u.2.2.2.2.2.2.2.1, u.2.2.2.2.2.2.2.2.1, u.2.2.2.2.2.2.2.2.2.1, 0)) (ci := 8) (C := RX7) (T := TX7) (N := 11) hx hb hW inlX7 tyX7 tyX7_ok nmX7 hown hK hP hD hS 0 rfl rfl 10 (by decide) (hW _ wd_1014) rfl rfl (Nat.le_of_ble_eq_true rfl) rfl dX7_readsNumber_2 (fun H locs hP hD hS => ?_)
  refine lv_iconst (v := 0) hx hb dX7_readsNumber_5 (by decide) ?_
  refine lv_istore_n (lv' := [(1, .int 0), (0, .ref (ad b))]) hx hb dX7_readsNumber_6 rfl hl (by decide) rfl (fun ls hl => ?_)
  have J69 : ∀ (x69_1 : Int32) (w69_0 : Int32) (w69_1 : Int32) (hf : q_X7_readsNumber_J69 x69_1 w69_0 w69_1 = some res) (H : Heap) (locs : List Loc) (hP : va_P D vwCl (wX7 G ad b (u.1, u.2.1, u.2.2.1, u.2.2.2.1, u.2.2.2.2.1, u.2.2.2.2.2.1, w69_0, u.2.2.2.2.2.2.2.1, u.2.2.2.2.2.2.2.2.1, u.2.2.2.2.2.2.2.2.2.1, w69_1)) H) (hD : va_D A (wX7 G ad b (u.1, u.2.1, u.2.2.1, u.2.2.2.1, u.2.2.2.2.1, u.2.2.2.2.2.1, w69_0, u.2.2.2.2.2.2.2.1, u.2.2.2.2.2.2.2.2.1, u.2.2.2.2.2.2.2.2.2.1, w69_1))) (hS : va_S A s.heap H locs) (ls : Array Slot) (hl : lv_has ls 2 [(1, .int x69_1)]), W p l e (zRm 1 22) s m args below meth c H locs 0 0 Q (F0 m 69 ls []) := by
    intro x69_1 w69_0 w69_1 hf H locs hP hD hS ls hl
    unfold q_X7_readsNumber_J69 at hf
    refine lv_iload_n hx hb dX7_readsNumber_69 rfl (lv_at hl 0 rfl) ?_
    refine lv_if_le (tgt := 77) hx hb dX7_readsNumber_70 (by decide) (fun c70 => ?_) (fun c70 => ?_)
    · replace hf := zi_p hf c70
      refine lv_iconst (v := 0) hx hb dX7_readsNumber_77 (by decide) ?_
      obtain rfl := zo hf
      exact hret _ _ _ _ _ hP hD hS rfl rfl dX7_readsNumber_78
    · replace hf := zi_n hf c70
      refine lv_iconst (v := 1) hx hb dX7_readsNumber_73 (by decide) ?_
      refine lv_goto (tgt := 78) hx hb dX7_readsNumber_74 (by decide) ?_
      obtain rfl := zo hf
      exact hret _ _ _ _ _ hP hD hS rfl rfl dX7_readsNumber_78
  replace hf := zb_s hf
  obtain ⟨b7, hz7, hk7⟩ := hf
  have L7 : ∀ (n7 : Nat) (v7 : Int32 × Int32 × Int32) (hz7 : zl n7 (q_X7_readsNumber_L7 u) v7 = some b7) (H : Heap) (locs : List Loc) (hP : va_P D vwCl (wX7 G ad b (u.1, u.2.1, u.2.2.1, u.2.2.2.1, u.2.2.2.2.1, u.2.2.2.2.2.1, v7.2.1, u.2.2.2.2.2.2.2.1, u.2.2.2.2.2.2.2.2.1, u.2.2.2.2.2.2.2.2.2.1, v7.2.2)) H) (hD : va_D A (wX7 G ad b (u.1, u.2.1, u.2.2.1, u.2.2.2.1, u.2.2.2.2.1, u.2.2.2.2.2.1, v7.2.1, u.2.2.2.2.2.2.2.1, u.2.2.2.2.2.2.2.2.1, u.2.2.2.2.2.2.2.2.2.1, v7.2.2))) (hS : va_S A s.heap H locs) (ls : Array Slot) (hl : lv_has ls 2 [(0, .ref (ad b)), (1, .int v7.1)]), W p l e (zRm 1 22) s m args below meth c H locs 0 0 Q (F0 m 7 ls []) := by
    intro n7
    induction n7 with
    | zero => intro v7 hz7; exact (zl_0 hz7).elim
    | succ n7 ih7 =>
      intro v7 hz7 H locs hP hD hS ls hl
      obtain ⟨o7, hf, hz7⟩ := zl_s hz7
      unfold q_X7_readsNumber_L7 at hf
      refine lv_iload_n hx hb dX7_readsNumber_7 rfl (lv_at hl 1 rfl) ?_
      refine lv_iconst (v := 3) hx hb dX7_readsNumber_8 (by decide) ?_
      refine lv_icmp_ge (tgt := 69) hx hb dX7_readsNumber_9 (by decide) (fun c9 => ?_) (fun c9 => ?_)
      · replace hf := zi_p hf c9
        have hb7 := zk_r hf hz7
        subst hb7
        replace hf := hk7
        exact J69 v7.1 v7.2.1 v7.2.2 hf _ _ hP hD hS _ (lv_sub hl [1] rfl)
      · replace hf := zi_n hf c9
        refine lv_aload_n hx hb dX7_readsNumber_12 rfl (lv_at hl 0 rfl) ?_
        refine lv_aload_n hx hb dX7_readsNumber_13 rfl (lv_at hl 0 rfl) ?_
        refine va_get (D := D) (ci := 8) (v := .int v7.2.1) (C := RX7) (T := TX7) (N := 11) hx hb hW inlX7 hown hK hP 0 rfl rfl 6 (by decide) (hW _ wd_1007) (fun _ h9 => h9) rfl dX7_readsNumber_14 ?_
        replace hf := zb_s hf
        obtain ⟨r17, hr17, hf⟩ := hf
        refine z_Vi (rest := []) C0 kX7_186 (c_X7_character l D G ad (b) (u.1, u.2.1, u.2.2.1, u.2.2.2.1, u.2.2.2.2.1, u.2.2.2.2.2.1, v7.2.1, u.2.2.2.2.2.2.2.1, u.2.2.2.2.2.2.2.2.1, u.2.2.2.2.2.2.2.2.2.1, v7.2.2) v7.2.1 r17 hr17) z_pall z_pall.symm (ci := 8) (T := TX7) (N := 11) rfl rfl rfl ⟨Nat.le_of_ble_eq_true rfl, Nat.le_of_ble_eq_true rfl⟩ (Nat.le_of_ble_eq_true rfl) rfl hl.1 hP hD hS dX7_readsNumber_17 (fun H locs hP hD hS => ?_)
        refine lv_bipush (v := 48) hx hb dX7_readsNumber_20 (by decide) ?_
        refine lv_bipush (v := 57) hx hb dX7_readsNumber_22 (by decide) ?_
        replace hf := zb_s hf
        obtain ⟨r24, hr24, hf⟩ := hf
        refine z_Si (rest := []) C0 kX7_30 (c_X7_within l D G r17 48 57 r24 hr24) (List.Perm.refl _) (List.Perm.refl _) rfl ⟨Nat.le_of_ble_eq_true rfl, Nat.le_of_ble_eq_true rfl⟩ (Nat.le_of_ble_eq_true rfl) rfl hl.1 hP hD hS dX7_readsNumber_24 (fun H locs hP hD hS => ?_)
        refine lv_if_eq (tgt := 69) hx hb dX7_readsNumber_27 (by decide) (fun c27 => ?_) (fun c27 => ?_)
        · replace hf := zi_p hf c27
          have hb7 := zk_r hf hz7
          subst hb7
          replace hf := hk7
          exact J69 v7.1 v7.2.1 v7.2.2 hf _ _ hP hD hS _ (lv_sub hl [1] rfl)
        · replace hf := zi_n hf c27
          refine lv_aload_n hx hb dX7_readsNumber_30 rfl (lv_at hl 0 rfl) ?_
          refine lv_bipush (v := 10) hx hb dX7_readsNumber_31 (by decide) ?_
          refine lv_aload_n hx hb dX7_readsNumber_33 rfl (lv_at hl 0 rfl) ?_
          refine va_get (D := D) (ci := 8) (v := .int v7.2.2) (C := RX7) (T := TX7) (N := 11) hx hb hW inlX7 hown hK hP 0 rfl rfl 10 (by decide) (hW _ wd_1014) (fun _ h9 => h9) rfl dX7_readsNumber_34 ?_
          refine lv_imul hx hb dX7_readsNumber_37 ?_
          refine lv_aload_n hx hb dX7_readsNumber_38 rfl (lv_at hl 0 rfl) ?_
          refine lv_aload_n hx hb dX7_readsNumber_39 rfl (lv_at hl 0 rfl) ?_
          refine va_get (D := D) (ci := 8) (v := .int v7.2.1) (C := RX7) (T := TX7) (N := 11) hx hb hW inlX7 hown hK hP 0 rfl rfl 6 (by decide) (hW _ wd_1007) (fun _ h9 => h9) rfl dX7_readsNumber_40 ?_
          replace hf := zb_s hf
          obtain ⟨r43, hr43, hf⟩ := hf
          refine z_Vi (rest := [.int (10 * v7.2.2), .ref (ad b)]) C0 kX7_186 (c_X7_character l D G ad (b) (u.1, u.2.1, u.2.2.1, u.2.2.2.1, u.2.2.2.2.1, u.2.2.2.2.2.1, v7.2.1, u.2.2.2.2.2.2.2.1, u.2.2.2.2.2.2.2.2.1, u.2.2.2.2.2.2.2.2.2.1, v7.2.2) v7.2.1 r43 hr43) z_pall z_pall.symm (ci := 8) (T := TX7) (N := 11) rfl rfl rfl ⟨Nat.le_of_ble_eq_true rfl, Nat.le_of_ble_eq_true rfl⟩ (Nat.le_of_ble_eq_true rfl) rfl hl.1 hP hD hS dX7_readsNumber_43 (fun H locs hP hD hS => ?_)
          refine lv_iadd hx hb dX7_readsNumber_46 ?_
          refine lv_bipush (v := 48) hx hb dX7_readsNumber_47 (by decide) ?_
          refine lv_isub hx hb dX7_readsNumber_49 ?_
          replace hf := zn_s hf
          obtain ⟨k50, ek50, hf⟩ := hf
          refine z_top ek50 ?_
          refine z_put (ws' := wX7 G ad b (u.1, u.2.1, u.2.2.1, u.2.2.2.1, u.2.2.2.2.1, u.2.2.2.2.2.1, v7.2.1, u.2.2.2.2.2.2.2.1, u.2.2.2.2.2.2.2.2.1, u.2.2.2.2.2.2.2.2.2.1, k50)) (ci := 8) (C := RX7) (T := TX7) (N := 11) hx hb hW inlX7 tyX7 tyX7_ok nmX7 hown hK hP hD hS 0 rfl rfl 10 (by decide) (hW _ wd_1014) rfl rfl (Nat.le_of_ble_eq_true rfl) rfl dX7_readsNumber_50 (fun H locs hP hD hS => ?_)
          refine lv_iinc (v := (v7.1 + 1)) (lv' := [(1, .int (v7.1 + 1)), (0, .ref (ad b))]) hx hb dX7_readsNumber_53 hl (k := 1) rfl rfl (by decide) rfl (fun ls hl => ?_)
          refine lv_aload_n hx hb dX7_readsNumber_56 rfl (lv_at hl 1 rfl) ?_
          refine lv_dup hx hb dX7_readsNumber_57 rfl ?_
          refine va_get (D := D) (ci := 8) (v := .int v7.2.1) (C := RX7) (T := TX7) (N := 11) hx hb hW inlX7 hown hK hP 0 rfl rfl 6 (by decide) (hW _ wd_1007) (fun _ h9 => h9) rfl dX7_readsNumber_58 ?_
          refine lv_iconst (v := 1) hx hb dX7_readsNumber_61 (by decide) ?_
          refine lv_iadd hx hb dX7_readsNumber_62 ?_
          replace hf := zn_s hf
          obtain ⟨k63, ek63, hf⟩ := hf
          refine z_top ek63 ?_
          refine z_put (ws' := wX7 G ad b (u.1, u.2.1, u.2.2.1, u.2.2.2.1, u.2.2.2.2.1, u.2.2.2.2.2.1, k63, u.2.2.2.2.2.2.2.1, u.2.2.2.2.2.2.2.2.1, u.2.2.2.2.2.2.2.2.2.1, k50)) (ci := 8) (C := RX7) (T := TX7) (N := 11) hx hb hW inlX7 tyX7 tyX7_ok nmX7 hown hK hP hD hS 0 rfl rfl 6 (by decide) (hW _ wd_1007) rfl rfl (Nat.le_of_ble_eq_true rfl) rfl dX7_readsNumber_63 (fun H locs hP hD hS => ?_)
          refine lv_goto (tgt := 7) hx hb dX7_readsNumber_66 (by decide) ?_
          exact ih7 _ (zk_l hf hz7) _ _ hP hD hS _ (lv_sub hl [1, 0] rfl)
  exact L7 _ _ hz7 _ _ hP hD hS _ (lv_sub hl [1, 0] rfl)
noncomputable def q_X7_readsDigit_J49 (u : tX7) (r16 : Int32) (k32 : Int32) (y49_2 : Int32) : Option (Int32 × Int32 × Int32) :=
  zn (u.2.2.2.2.2.2.1 + y49_2) fun k50 => zq (r16 = 0 ∨ r16 = 1) (some (r16, k50, k32))
noncomputable def q_X7_readsDigit (u : tX7) (p1 : Int32) (p2 : Int32) : Option (Int32 × Int32 × Int32) :=
  zb (q_X7_character u u.2.2.2.2.2.2.1) fun r5 => zb (q_X7_within r5 (48 + p1) (48 + p2)) fun r16 => zb (q_X7_character u u.2.2.2.2.2.2.1) fun r26 => zn (r26 - 48) fun k32 => (if r16 = 0 then q_X7_readsDigit_J49 u r16 k32 0 else q_X7_readsDigit_J49 u r16 k32 1)
set_option maxRecDepth 100000 in
set_option maxHeartbeats 4000000 in
theorem c_X7_readsDigit (l : Launch) (D : va_G) (G : zG) (ad : Nat → Nat) (b : Nat) (u : tX7) (p1 : Int32) (p2 : Int32) (res : Int32 × Int32 × Int32) (hf : q_X7_readsDigit u p1 p2 = some res) : zMi l yX7_readsDigit cX7_readsDigit 4 (some .boolean) 1 22 D G (wX7 G ad b u) (wX7 G ad b (u.1, u.2.1, u.2.2.1, u.2.2.2.1, u.2.2.2.2.1, u.2.2.2.2.2.1, res.2.1, u.2.2.2.2.2.2.2.1, u.2.2.2.2.2.2.2.2.1, u.2.2.2.2.2.2.2.2.2.1, res.2.2)) [.ref (ad b), .int p1, .int p2] res.1 := by
  refine zs_z (plainFor_of_name (by decide)) (Nat.le_of_ble_eq_true rfl) ?_
  intro p e s m args below meth c A Q H ls C0 hret hP hD hS hl
  obtain ⟨hx, hb, hml, hown, hW, hK, hlocks, hF, hr, hA⟩ := id C0
  replace hl : lv_has ls 4 [(0, .ref (ad b)), (1, .int p1), (2, .int p2)] := hl
  unfold q_X7_readsDigit at hf
  refine lv_aload_n hx hb dX7_readsDigit_0 rfl (lv_at hl 0 rfl) ?_
  refine lv_aload_n hx hb dX7_readsDigit_1 rfl (lv_at hl 0 rfl) ?_
  refine va_get (D := D) (ci := 8) (v := .int u.2.2.2.2.2.2.1) (C := RX7) (T := TX7) (N := 11) hx hb hW inlX7 hown hK hP 0 rfl rfl 6 (by decide) (hW _ wd_1007) (fun _ h9 => h9) rfl dX7_readsDigit_2 ?_
  replace hf := zb_s hf
  obtain ⟨r5, hr5, hf⟩ := hf
  refine z_Vi (rest := []) C0 kX7_186 (c_X7_character l D G ad (b) u u.2.2.2.2.2.2.1 r5 hr5) z_pall z_pall.symm (ci := 8) (T := TX7) (N := 11) rfl rfl rfl ⟨Nat.le_of_ble_eq_true rfl, Nat.le_of_ble_eq_true rfl⟩ (Nat.le_of_ble_eq_true rfl) rfl hl.1 hP hD hS dX7_readsDigit_5 (fun H locs hP hD hS => ?_)
  refine lv_bipush (v := 48) hx hb dX7_readsDigit_8 (by decide) ?_
  refine lv_iload_n hx hb dX7_readsDigit_10 rfl (lv_at hl 1 rfl) ?_
  refine lv_iadd hx hb dX7_readsDigit_11 ?_
  refine lv_bipush (v := 48) hx hb dX7_readsDigit_12 (by decide) ?_
  refine lv_iload_n hx hb dX7_readsDigit_14 rfl (lv_at hl 2 rfl) ?_
  refine lv_iadd hx hb dX7_readsDigit_15 ?_
  replace hf := zb_s hf
  obtain ⟨r16, hr16, hf⟩ := hf
  refine z_Si (rest := []) C0 kX7_30 (c_X7_within l D G r5 (48 + p1) (48 + p2) r16 hr16) (List.Perm.refl _) (List.Perm.refl _) rfl ⟨Nat.le_of_ble_eq_true rfl, Nat.le_of_ble_eq_true rfl⟩ (Nat.le_of_ble_eq_true rfl) rfl hl.1 hP hD hS dX7_readsDigit_16 (fun H locs hP hD hS => ?_)
  refine lv_istore_n (lv' := [(3, .int r16), (0, .ref (ad b)), (1, .int p1), (2, .int p2)]) hx hb dX7_readsDigit_19 rfl hl (by decide) rfl (fun ls hl => ?_)
  refine lv_aload_n hx hb dX7_readsDigit_20 rfl (lv_at hl 1 rfl) ?_
  refine lv_aload_n hx hb dX7_readsDigit_21 rfl (lv_at hl 1 rfl) ?_
  refine lv_aload_n hx hb dX7_readsDigit_22 rfl (lv_at hl 1 rfl) ?_
  refine va_get (D := D) (ci := 8) (v := .int u.2.2.2.2.2.2.1) (C := RX7) (T := TX7) (N := 11) hx hb hW inlX7 hown hK hP 0 rfl rfl 6 (by decide) (hW _ wd_1007) (fun _ h9 => h9) rfl dX7_readsDigit_23 ?_
  replace hf := zb_s hf
  obtain ⟨r26, hr26, hf⟩ := hf
  refine z_Vi (rest := [.ref (ad b)]) C0 kX7_186 (c_X7_character l D G ad (b) u u.2.2.2.2.2.2.1 r26 hr26) z_pall z_pall.symm (ci := 8) (T := TX7) (N := 11) rfl rfl rfl ⟨Nat.le_of_ble_eq_true rfl, Nat.le_of_ble_eq_true rfl⟩ (Nat.le_of_ble_eq_true rfl) rfl hl.1 hP hD hS dX7_readsDigit_26 (fun H locs hP hD hS => ?_)
  refine lv_bipush (v := 48) hx hb dX7_readsDigit_29 (by decide) ?_
  refine lv_isub hx hb dX7_readsDigit_31 ?_
  replace hf := zn_s hf
  obtain ⟨k32, ek32, hf⟩ := hf
  refine z_top ek32 ?_
  refine z_put (ws' := wX7 G ad b (u.1, u.2.1, u.2.2.1, u.2.2.2.1, u.2.2.2.2.1, u.2.2.2.2.2.1, u.2.2.2.2.2.2.1, u.2.2.2.2.2.2.2.1, u.2.2.2.2.2.2.2.2.1, u.2.2.2.2.2.2.2.2.2.1, k32)) (ci := 8) (C := RX7) (T := TX7) (N := 11) hx hb hW inlX7 tyX7 tyX7_ok nmX7 hown hK hP hD hS 0 rfl rfl 10 (by decide) (hW _ wd_1014) rfl rfl (Nat.le_of_ble_eq_true rfl) rfl dX7_readsDigit_32 (fun H locs hP hD hS => ?_)
  refine lv_aload_n hx hb dX7_readsDigit_35 rfl (lv_at hl 1 rfl) ?_
  refine lv_dup hx hb dX7_readsDigit_36 rfl ?_
  refine va_get (D := D) (ci := 8) (v := .int u.2.2.2.2.2.2.1) (C := RX7) (T := TX7) (N := 11) hx hb hW inlX7 hown hK hP 0 rfl rfl 6 (by decide) (hW _ wd_1007) (fun _ h9 => h9) rfl dX7_readsDigit_37 ?_
  refine lv_iload_n hx hb dX7_readsDigit_40 rfl (lv_at hl 0 rfl) ?_
  have J49 : ∀ (y49_2 : Int32) (hf : q_X7_readsDigit_J49 u r16 k32 y49_2 = some res) (H : Heap) (locs : List Loc) (hP : va_P D vwCl (wX7 G ad b (u.1, u.2.1, u.2.2.1, u.2.2.2.1, u.2.2.2.2.1, u.2.2.2.2.2.1, u.2.2.2.2.2.2.1, u.2.2.2.2.2.2.2.1, u.2.2.2.2.2.2.2.2.1, u.2.2.2.2.2.2.2.2.2.1, k32)) H) (hD : va_D A (wX7 G ad b (u.1, u.2.1, u.2.2.1, u.2.2.2.1, u.2.2.2.2.1, u.2.2.2.2.2.1, u.2.2.2.2.2.2.1, u.2.2.2.2.2.2.2.1, u.2.2.2.2.2.2.2.2.1, u.2.2.2.2.2.2.2.2.2.1, k32))) (hS : va_S A s.heap H locs) (ls : Array Slot) (hl : lv_has ls 4 [(3, .int r16)]), W p l e (zRm 1 22) s m args below meth c H locs 0 0 Q (F0 m 49 ls [.int y49_2, .int u.2.2.2.2.2.2.1, .ref (ad b)]) := by
    intro y49_2 hf H locs hP hD hS ls hl
    unfold q_X7_readsDigit_J49 at hf
    refine lv_iadd hx hb dX7_readsDigit_49 ?_
    replace hf := zn_s hf
    obtain ⟨k50, ek50, hf⟩ := hf
    refine z_top ek50 ?_
    refine z_put (ws' := wX7 G ad b (u.1, u.2.1, u.2.2.1, u.2.2.2.1, u.2.2.2.2.1, u.2.2.2.2.2.1, k50, u.2.2.2.2.2.2.2.1, u.2.2.2.2.2.2.2.2.1, u.2.2.2.2.2.2.2.2.2.1, k32)) (ci := 8) (C := RX7) (T := TX7) (N := 11) hx hb hW inlX7 tyX7 tyX7_ok nmX7 hown hK hP hD hS 0 rfl rfl 6 (by decide) (hW _ wd_1007) rfl rfl (Nat.le_of_ble_eq_true rfl) rfl dX7_readsDigit_50 (fun H locs hP hD hS => ?_)
    refine lv_iload_n hx hb dX7_readsDigit_53 rfl (lv_at hl 0 rfl) ?_
    replace hf := zq_s hf
    obtain ⟨hq, hf⟩ := hf
    obtain rfl := zo hf
    exact hret _ _ _ _ _ hP hD hS rfl (z_nb hq) dX7_readsDigit_54
  refine lv_if_eq (tgt := 48) hx hb dX7_readsDigit_41 (by decide) (fun c41 => ?_) (fun c41 => ?_)
  · replace hf := zi_p hf c41
    refine lv_iconst (v := 0) hx hb dX7_readsDigit_48 (by decide) ?_
    exact J49 0 hf _ _ hP hD hS _ (lv_sub hl [0] rfl)
  · replace hf := zi_n hf c41
    refine lv_iconst (v := 1) hx hb dX7_readsDigit_44 (by decide) ?_
    refine lv_goto (tgt := 49) hx hb dX7_readsDigit_45 (by decide) ?_
    exact J49 1 hf _ _ hP hD hS _ (lv_sub hl [0] rfl)
theorem kX7_195 : zLkV RX7 195 yX7_readsDigit cX7_readsDigit 4 (some .boolean) 2 := ⟨⟨wd_1037, wd_1038, wd_1039, wd_5, wd_1040⟩, by decide +kernel⟩
noncomputable def q_X7_readsSpan (u : tX7) : Option (Int32 × Int32 × Int32 × Int32) :=
  zb (q_X7_readsDigit u 0 7) fun r4 => zq (r4.1 = 0 ∨ r4.1 = 1) (some (r4.1, r4.2.1, r4.2.2, r4.2.2))
set_option maxRecDepth 100000 in
set_option maxHeartbeats 4000000 in
theorem c_X7_readsSpan (l : Launch) (D : va_G) (G : zG) (ad : Nat → Nat) (b : Nat) (u : tX7) (res : Int32 × Int32 × Int32 × Int32) (hf : q_X7_readsSpan u = some res) : zMi l yX7_readsSpan cX7_readsSpan 2 (some .boolean) 2 45 D G (wX7 G ad b u) (wX7 G ad b (u.1, u.2.1, u.2.2.1, u.2.2.2.1, u.2.2.2.2.1, u.2.2.2.2.2.1, res.2.1, u.2.2.2.2.2.2.2.1, res.2.2.1, u.2.2.2.2.2.2.2.2.2.1, res.2.2.2)) [.ref (ad b)] res.1 := by
  refine zs_z (plainFor_of_name (by decide)) (Nat.le_of_ble_eq_true rfl) ?_
  intro p e s m args below meth c A Q H ls C0 hret hP hD hS hl
  obtain ⟨hx, hb, hml, hown, hW, hK, hlocks, hF, hr, hA⟩ := id C0
  replace hl : lv_has ls 2 [(0, .ref (ad b))] := hl
  unfold q_X7_readsSpan at hf
  refine lv_aload_n hx hb dX7_readsSpan_0 rfl (lv_at hl 0 rfl) ?_
  refine lv_iconst (v := 0) hx hb dX7_readsSpan_1 (by decide) ?_
  refine lv_bipush (v := 7) hx hb dX7_readsSpan_2 (by decide) ?_
  replace hf := zb_s hf
  obtain ⟨r4, hr4, hf⟩ := hf
  refine z_Vi (rest := []) C0 kX7_195 (c_X7_readsDigit l D G ad (b) u 0 7 r4 hr4) z_pall z_pall.symm (ci := 8) (T := TX7) (N := 11) rfl rfl rfl ⟨Nat.le_of_ble_eq_true rfl, Nat.le_of_ble_eq_true rfl⟩ (Nat.le_of_ble_eq_true rfl) rfl hl.1 hP hD hS dX7_readsSpan_4 (fun H locs hP hD hS => ?_)
  replace hP : va_P D vwCl (wX7 G ad b (u.1, u.2.1, u.2.2.1, u.2.2.2.1, u.2.2.2.2.1, u.2.2.2.2.2.1, r4.2.1, u.2.2.2.2.2.2.2.1, u.2.2.2.2.2.2.2.2.1, u.2.2.2.2.2.2.2.2.2.1, r4.2.2)) H := hP
  replace hD : va_D A (wX7 G ad b (u.1, u.2.1, u.2.2.1, u.2.2.2.1, u.2.2.2.2.1, u.2.2.2.2.2.1, r4.2.1, u.2.2.2.2.2.2.2.1, u.2.2.2.2.2.2.2.2.1, u.2.2.2.2.2.2.2.2.2.1, r4.2.2)) := hD
  refine lv_istore_n (lv' := [(1, .int r4.1), (0, .ref (ad b))]) hx hb dX7_readsSpan_7 rfl hl (by decide) rfl (fun ls hl => ?_)
  refine lv_aload_n hx hb dX7_readsSpan_8 rfl (lv_at hl 1 rfl) ?_
  refine lv_aload_n hx hb dX7_readsSpan_9 rfl (lv_at hl 1 rfl) ?_
  refine va_get (D := D) (ci := 8) (v := .int r4.2.2) (C := RX7) (T := TX7) (N := 11) hx hb hW inlX7 hown hK hP 0 rfl rfl 10 (by decide) (hW _ wd_1014) (fun _ h9 => h9) rfl dX7_readsSpan_10 ?_
  refine z_put (ws' := wX7 G ad b (u.1, u.2.1, u.2.2.1, u.2.2.2.1, u.2.2.2.2.1, u.2.2.2.2.2.1, r4.2.1, u.2.2.2.2.2.2.2.1, r4.2.2, u.2.2.2.2.2.2.2.2.2.1, r4.2.2)) (ci := 8) (C := RX7) (T := TX7) (N := 11) hx hb hW inlX7 tyX7 tyX7_ok nmX7 hown hK hP hD hS 0 rfl rfl 8 (by decide) (hW _ wd_1036) rfl rfl (Nat.le_of_ble_eq_true rfl) rfl dX7_readsSpan_13 (fun H locs hP hD hS => ?_)
  refine lv_iload_n hx hb dX7_readsSpan_16 rfl (lv_at hl 0 rfl) ?_
  replace hf := zq_s hf
  obtain ⟨hq, hf⟩ := hf
  obtain rfl := zo hf
  exact hret _ _ _ _ _ hP hD hS rfl (z_nb hq) dX7_readsSpan_17
theorem kX7_210 : zLkV RX7 210 yX7_readsWord cX7_readsWord 6 (some .boolean) 1 := ⟨⟨wd_1024, wd_1025, wd_1026, wd_5, wd_1027⟩, by decide +kernel⟩
noncomputable def q_X7_readsWay_J62 (u : tX7) (y31_1 : Int32) (y62_1 : Int64) : Option (Int32 × Int32 × Int32) :=
  zb (q_X7_readsWord (u.1, u.2.1, u.2.2.1, u.2.2.2.1, u.2.2.2.2.1, u.2.2.2.2.2.1, u.2.2.2.2.2.2.1, u.2.2.2.2.2.2.2.1, u.2.2.2.2.2.2.2.2.1, y31_1, u.2.2.2.2.2.2.2.2.2.2) y62_1) fun r62 => zq (r62.1 = 0 ∨ r62.1 = 1) (some (r62.1, r62.2, y31_1))
noncomputable def q_X7_readsWay_J31 (u : tX7) (r5 : Int32) (y31_1 : Int32) : Option (Int32 × Int32 × Int32) :=
  (if r5 = 111 then q_X7_readsWay_J62 u y31_1 128038971141231 else (if r5 = 119 then q_X7_readsWay_J62 u y31_1 500153085815 else q_X7_readsWay_J62 u y31_1 7827314))
noncomputable def q_X7_readsWay (u : tX7) : Option (Int32 × Int32 × Int32) :=
  zb (q_X7_character u u.2.2.2.2.2.2.1) fun r5 => (if r5 = 111 then q_X7_readsWay_J31 u r5 0 else (if r5 = 119 then q_X7_readsWay_J31 u r5 1 else q_X7_readsWay_J31 u r5 2))
set_option maxRecDepth 100000 in
set_option maxHeartbeats 4000000 in
theorem c_X7_readsWay (l : Launch) (D : va_G) (G : zG) (ad : Nat → Nat) (b : Nat) (u : tX7) (res : Int32 × Int32 × Int32) (hf : q_X7_readsWay u = some res) : zMi l yX7_readsWay cX7_readsWay 2 (some .boolean) 3 68 D G (wX7 G ad b u) (wX7 G ad b (u.1, u.2.1, u.2.2.1, u.2.2.2.1, u.2.2.2.2.1, u.2.2.2.2.2.1, res.2.1, u.2.2.2.2.2.2.2.1, u.2.2.2.2.2.2.2.2.1, res.2.2, u.2.2.2.2.2.2.2.2.2.2)) [.ref (ad b)] res.1 := by
  refine zs_z (plainFor_of_name (by decide)) (Nat.le_of_ble_eq_true rfl) ?_
  intro p e s m args below meth c A Q H ls C0 hret hP hD hS hl
  obtain ⟨hx, hb, hml, hown, hW, hK, hlocks, hF, hr, hA⟩ := id C0
  replace hl : lv_has ls 2 [(0, .ref (ad b))] := hl
  unfold q_X7_readsWay at hf
  refine lv_aload_n hx hb dX7_readsWay_0 rfl (lv_at hl 0 rfl) ?_
  refine lv_aload_n hx hb dX7_readsWay_1 rfl (lv_at hl 0 rfl) ?_
  refine va_get (D := D) (ci := 8) (v := .int u.2.2.2.2.2.2.1) (C := RX7) (T := TX7) (N := 11) hx hb hW inlX7 hown hK hP 0 rfl rfl 6 (by decide) (hW _ wd_1007) (fun _ h9 => h9) rfl dX7_readsWay_2 ?_
  replace hf := zb_s hf
  obtain ⟨r5, hr5, hf⟩ := hf
  refine z_Vi (rest := []) C0 kX7_186 (c_X7_character l D G ad (b) u u.2.2.2.2.2.2.1 r5 hr5) z_pall z_pall.symm (ci := 8) (T := TX7) (N := 11) rfl rfl rfl ⟨Nat.le_of_ble_eq_true rfl, Nat.le_of_ble_eq_true rfl⟩ (Nat.le_of_ble_eq_true rfl) rfl hl.1 hP hD hS dX7_readsWay_5 (fun H locs hP hD hS => ?_)
  refine lv_istore_n (lv' := [(1, .int r5), (0, .ref (ad b))]) hx hb dX7_readsWay_8 rfl hl (by decide) rfl (fun ls hl => ?_)
  refine lv_aload_n hx hb dX7_readsWay_9 rfl (lv_at hl 1 rfl) ?_
  refine lv_iload_n hx hb dX7_readsWay_10 rfl (lv_at hl 0 rfl) ?_
  refine lv_bipush (v := 111) hx hb dX7_readsWay_11 (by decide) ?_
  have J31 : ∀ (y31_1 : Int32) (hf : q_X7_readsWay_J31 u r5 y31_1 = some res) (H : Heap) (locs : List Loc) (hP : va_P D vwCl (wX7 G ad b u) H) (hD : va_D A (wX7 G ad b u)) (hS : va_S A s.heap H locs) (ls : Array Slot) (hl : lv_has ls 2 [(0, .ref (ad b)), (1, .int r5)]), W p l e (zRm 3 68) s m args below meth c H locs 0 0 Q (F0 m 31 ls [.int y31_1, .ref (ad b)]) := by
    intro y31_1 hf H locs hP hD hS ls hl
    unfold q_X7_readsWay_J31 at hf
    refine z_put (ws' := wX7 G ad b (u.1, u.2.1, u.2.2.1, u.2.2.2.1, u.2.2.2.2.1, u.2.2.2.2.2.1, u.2.2.2.2.2.2.1, u.2.2.2.2.2.2.2.1, u.2.2.2.2.2.2.2.2.1, y31_1, u.2.2.2.2.2.2.2.2.2.2)) (ci := 8) (C := RX7) (T := TX7) (N := 11) hx hb hW inlX7 tyX7 tyX7_ok nmX7 hown hK hP hD hS 0 rfl rfl 9 (by decide) (hW _ wd_1015) rfl rfl (Nat.le_of_ble_eq_true rfl) rfl dX7_readsWay_31 (fun H locs hP hD hS => ?_)
    refine lv_aload_n hx hb dX7_readsWay_34 rfl (lv_at hl 0 rfl) ?_
    refine lv_iload_n hx hb dX7_readsWay_35 rfl (lv_at hl 1 rfl) ?_
    refine lv_bipush (v := 111) hx hb dX7_readsWay_36 (by decide) ?_
    have J62 : ∀ (y62_1 : Int64) (hf : q_X7_readsWay_J62 u y31_1 y62_1 = some res) (H : Heap) (locs : List Loc) (hP : va_P D vwCl (wX7 G ad b (u.1, u.2.1, u.2.2.1, u.2.2.2.1, u.2.2.2.2.1, u.2.2.2.2.2.1, u.2.2.2.2.2.2.1, u.2.2.2.2.2.2.2.1, u.2.2.2.2.2.2.2.2.1, y31_1, u.2.2.2.2.2.2.2.2.2.2)) H) (hD : va_D A (wX7 G ad b (u.1, u.2.1, u.2.2.1, u.2.2.2.1, u.2.2.2.2.1, u.2.2.2.2.2.1, u.2.2.2.2.2.2.1, u.2.2.2.2.2.2.2.1, u.2.2.2.2.2.2.2.2.1, y31_1, u.2.2.2.2.2.2.2.2.2.2))) (hS : va_S A s.heap H locs) (ls : Array Slot) (hl : lv_has ls 2 []), W p l e (zRm 3 68) s m args below meth c H locs 0 0 Q (F0 m 62 ls [.long y62_1, .ref (ad b)]) := by
      intro y62_1 hf H locs hP hD hS ls hl
      unfold q_X7_readsWay_J62 at hf
      replace hf := zb_s hf
      obtain ⟨r62, hr62, hf⟩ := hf
      refine z_Vi (rest := []) C0 kX7_210 (c_X7_readsWord l D G ad (b) (u.1, u.2.1, u.2.2.1, u.2.2.2.1, u.2.2.2.2.1, u.2.2.2.2.2.1, u.2.2.2.2.2.2.1, u.2.2.2.2.2.2.2.1, u.2.2.2.2.2.2.2.2.1, y31_1, u.2.2.2.2.2.2.2.2.2.2) y62_1 r62 hr62) z_pall z_pall.symm (ci := 8) (T := TX7) (N := 11) rfl rfl rfl ⟨Nat.le_of_ble_eq_true rfl, Nat.le_of_ble_eq_true rfl⟩ (Nat.le_of_ble_eq_true rfl) rfl hl.1 hP hD hS dX7_readsWay_62 (fun H locs hP hD hS => ?_)
      replace hP : va_P D vwCl (wX7 G ad b (u.1, u.2.1, u.2.2.1, u.2.2.2.1, u.2.2.2.2.1, u.2.2.2.2.2.1, r62.2, u.2.2.2.2.2.2.2.1, u.2.2.2.2.2.2.2.2.1, y31_1, u.2.2.2.2.2.2.2.2.2.2)) H := hP
      replace hD : va_D A (wX7 G ad b (u.1, u.2.1, u.2.2.1, u.2.2.2.1, u.2.2.2.2.1, u.2.2.2.2.2.1, r62.2, u.2.2.2.2.2.2.2.1, u.2.2.2.2.2.2.2.2.1, y31_1, u.2.2.2.2.2.2.2.2.2.2)) := hD
      replace hf := zq_s hf
      obtain ⟨hq, hf⟩ := hf
      obtain rfl := zo hf
      exact hret _ _ _ _ _ hP hD hS rfl (z_nb hq) dX7_readsWay_65
    refine lv_icmp_ne (tgt := 47) hx hb dX7_readsWay_38 (by decide) (fun c38 => ?_) (fun c38 => ?_)
    · replace hf := zi_n hf c38
      refine lv_iload_n hx hb dX7_readsWay_47 rfl (lv_at hl 1 rfl) ?_
      refine lv_bipush (v := 119) hx hb dX7_readsWay_48 (by decide) ?_
      refine lv_icmp_ne (tgt := 59) hx hb dX7_readsWay_50 (by decide) (fun c50 => ?_) (fun c50 => ?_)
      · replace hf := zi_n hf c50
        refine lv_ldc2 hx hb hown (hW _ wd_1051) dX7_readsWay_59 ?_
        exact J62 7827314 hf _ _ hP hD hS _ (lv_sub hl [] rfl)
      · replace hf := zi_p hf c50
        refine lv_ldc2 hx hb hown (hW _ wd_1050) dX7_readsWay_53 ?_
        refine lv_goto (tgt := 62) hx hb dX7_readsWay_56 (by decide) ?_
        exact J62 500153085815 hf _ _ hP hD hS _ (lv_sub hl [] rfl)
    · replace hf := zi_p hf c38
      refine lv_ldc2 hx hb hown (hW _ wd_1049) dX7_readsWay_41 ?_
      refine lv_goto (tgt := 62) hx hb dX7_readsWay_44 (by decide) ?_
      exact J62 128038971141231 hf _ _ hP hD hS _ (lv_sub hl [] rfl)
  refine lv_icmp_ne (tgt := 20) hx hb dX7_readsWay_13 (by decide) (fun c13 => ?_) (fun c13 => ?_)
  · replace hf := zi_n hf c13
    refine lv_iload_n hx hb dX7_readsWay_20 rfl (lv_at hl 0 rfl) ?_
    refine lv_bipush (v := 119) hx hb dX7_readsWay_21 (by decide) ?_
    refine lv_icmp_ne (tgt := 30) hx hb dX7_readsWay_23 (by decide) (fun c23 => ?_) (fun c23 => ?_)
    · replace hf := zi_n hf c23
      refine lv_iconst (v := 2) hx hb dX7_readsWay_30 (by decide) ?_
      exact J31 2 hf _ _ hP hD hS _ (lv_sub hl [1, 0] rfl)
    · replace hf := zi_p hf c23
      refine lv_iconst (v := 1) hx hb dX7_readsWay_26 (by decide) ?_
      refine lv_goto (tgt := 31) hx hb dX7_readsWay_27 (by decide) ?_
      exact J31 1 hf _ _ hP hD hS _ (lv_sub hl [1, 0] rfl)
  · replace hf := zi_p hf c13
    refine lv_iconst (v := 0) hx hb dX7_readsWay_16 (by decide) ?_
    refine lv_goto (tgt := 31) hx hb dX7_readsWay_17 (by decide) ?_
    exact J31 0 hf _ _ hP hD hS _ (lv_sub hl [1, 0] rfl)
theorem kX7_219 : zLkV RX7 219 yX7_readsSpan cX7_readsSpan 2 (some .boolean) 0 := ⟨⟨wd_1032, wd_1033, wd_1034, wd_5, wd_1035⟩, by decide +kernel⟩
theorem kX7_223 : zLkV RX7 223 yX7_readsNumber cX7_readsNumber 2 (some .boolean) 0 := ⟨⟨wd_1041, wd_1042, wd_1043, wd_5, wd_1044⟩, by decide +kernel⟩
theorem kX7_234 : zLkV RX7 234 yX7_readsWay cX7_readsWay 2 (some .boolean) 0 := ⟨⟨wd_1045, wd_1046, wd_1047, wd_5, wd_1048⟩, by decide +kernel⟩
noncomputable def q_X7_readsCommand_J139 (u : tX7) (r6 : Int32) (y139_0 : Int32) (w139_0 : Int32) (w139_1 : Int32) : Option (Int32 × Int32 × Int32 × Int32 × Int32 × Int32) :=
  zq (y139_0 = 0 ∨ y139_0 = 1) (some (y139_0, w139_0, r6, u.2.2.2.2.2.2.2.2.1, w139_1, w139_1))
noncomputable def q_X7_readsCommand_J106 (r6 : Int32) (y106_0 : Int32) (w106_0 : Int32) (w106_1 : Int32) (w106_2 : Int32) : Option (Int32 × Int32 × Int32 × Int32 × Int32 × Int32) :=
  zq (y106_0 = 0 ∨ y106_0 = 1) (some (y106_0, w106_0, r6, w106_1, w106_2, w106_2))
noncomputable def q_X7_readsCommand_J214 (r6 : Int32) (y214_0 : Int32) (w214_0 : Int32) (w214_1 : Int32) (w214_2 : Int32) : Option (Int32 × Int32 × Int32 × Int32 × Int32 × Int32) :=
  zq (y214_0 = 0 ∨ y214_0 = 1) (some (y214_0, w214_0, r6, w214_1, w214_2, w214_2))
noncomputable def q_X7_readsCommand (u : tX7) : Option (Int32 × Int32 × Int32 × Int32 × Int32 × Int32) :=
  zb (q_X7_character u u.2.2.2.2.2.2.1) fun r6 => (if r6 = 97 then zb (q_X7_readsWord (u.1, u.2.1, u.2.2.1, u.2.2.2.1, u.2.2.2.2.1, u.2.2.2.2.2.1, u.2.2.2.2.2.2.1, r6, u.2.2.2.2.2.2.2.2.1, u.2.2.2.2.2.2.2.2.2.1, u.2.2.2.2.2.2.2.2.2.2) 543912801) fun r154 => (if r154.1 = 0 then some (0, r154.2, r6, u.2.2.2.2.2.2.2.2.1, u.2.2.2.2.2.2.2.2.2.1, u.2.2.2.2.2.2.2.2.2.2) else zb (q_X7_readsSpan (u.1, u.2.1, u.2.2.1, u.2.2.2.1, u.2.2.2.2.1, u.2.2.2.2.2.1, r154.2, r6, u.2.2.2.2.2.2.2.2.1, u.2.2.2.2.2.2.2.2.2.1, u.2.2.2.2.2.2.2.2.2.2)) fun r161 => (if r161.1 = 0 then some (0, r161.2.1, r6, r161.2.2.1, u.2.2.2.2.2.2.2.2.2.1, r161.2.2.2) else some (1, r161.2.1, r6, r161.2.2.1, u.2.2.2.2.2.2.2.2.2.1, r161.2.2.2))) else if r6 = 113 then zb (q_X7_readsWord (u.1, u.2.1, u.2.2.1, u.2.2.2.1, u.2.2.2.2.1, u.2.2.2.2.2.1, u.2.2.2.2.2.2.1, r6, u.2.2.2.2.2.2.2.2.1, u.2.2.2.2.2.2.2.2.2.1, u.2.2.2.2.2.2.2.2.2.2) 35684289705329) fun r121 => (if r121.1 = 0 then q_X7_readsCommand_J139 u r6 0 r121.2 u.2.2.2.2.2.2.2.2.2.2 else zb (q_X7_readsNumber (u.1, u.2.1, u.2.2.1, u.2.2.2.1, u.2.2.2.2.1, u.2.2.2.2.2.1, r121.2, r6, u.2.2.2.2.2.2.2.2.1, u.2.2.2.2.2.2.2.2.2.1, u.2.2.2.2.2.2.2.2.2.2)) fun r128 => (if r128.1 = 0 then q_X7_readsCommand_J139 u r6 0 r128.2.1 r128.2.2 else q_X7_readsCommand_J139 u r6 1 r128.2.1 r128.2.2)) else if r6 = 114 then zb (q_X7_readsWord (u.1, u.2.1, u.2.2.1, u.2.2.2.1, u.2.2.2.2.1, u.2.2.2.2.2.1, u.2.2.2.2.2.2.1, r6, u.2.2.2.2.2.2.2.2.1, u.2.2.2.2.2.2.2.2.2.1, u.2.2.2.2.2.2.2.2.2.2) 139123058034) fun r72 => (if r72.1 = 0 then q_X7_readsCommand_J106 r6 0 r72.2 u.2.2.2.2.2.2.2.2.1 u.2.2.2.2.2.2.2.2.2.2 else zb (q_X7_readsSpan (u.1, u.2.1, u.2.2.1, u.2.2.2.1, u.2.2.2.2.1, u.2.2.2.2.2.1, r72.2, r6, u.2.2.2.2.2.2.2.2.1, u.2.2.2.2.2.2.2.2.2.1, u.2.2.2.2.2.2.2.2.2.2)) fun r79 => (if r79.1 = 0 then q_X7_readsCommand_J106 r6 0 r79.2.1 r79.2.2.1 r79.2.2.2 else zb (q_X7_isNext (u.1, u.2.1, u.2.2.1, u.2.2.2.1, u.2.2.2.2.1, u.2.2.2.2.2.1, r79.2.1, r6, r79.2.2.1, u.2.2.2.2.2.2.2.2.2.1, r79.2.2.2) 58) fun r88 => (if r88.1 = 0 then q_X7_readsCommand_J106 r6 0 r88.2 r79.2.2.1 r79.2.2.2 else zb (q_X7_readsNumber (u.1, u.2.1, u.2.2.1, u.2.2.2.1, u.2.2.2.2.1, u.2.2.2.2.2.1, r88.2, r6, r79.2.2.1, u.2.2.2.2.2.2.2.2.2.1, r79.2.2.2)) fun r95 => (if r95.1 = 0 then q_X7_readsCommand_J106 r6 0 r95.2.1 r79.2.2.1 r95.2.2 else q_X7_readsCommand_J106 r6 1 r95.2.1 r79.2.2.1 r95.2.2)))) else if r6 = 115 then zb (q_X7_readsWord (u.1, u.2.1, u.2.2.1, u.2.2.2.1, u.2.2.2.2.1, u.2.2.2.2.2.1, u.2.2.2.2.2.2.1, r6, u.2.2.2.2.2.2.2.2.1, u.2.2.2.2.2.2.2.2.2.1, u.2.2.2.2.2.2.2.2.2.2) 139392413811) fun r177 => (if r177.1 = 0 then q_X7_readsCommand_J214 r6 0 r177.2 u.2.2.2.2.2.2.2.2.1 u.2.2.2.2.2.2.2.2.2.2 else zb (q_X7_readsSpan (u.1, u.2.1, u.2.2.1, u.2.2.2.1, u.2.2.2.2.1, u.2.2.2.2.2.1, r177.2, r6, u.2.2.2.2.2.2.2.2.1, u.2.2.2.2.2.2.2.2.2.1, u.2.2.2.2.2.2.2.2.2.2)) fun r184 => (if r184.1 = 0 then q_X7_readsCommand_J214 r6 0 r184.2.1 r184.2.2.1 r184.2.2.2 else zb (q_X7_isNext (u.1, u.2.1, u.2.2.1, u.2.2.2.1, u.2.2.2.2.1, u.2.2.2.2.2.1, r184.2.1, r6, r184.2.2.1, u.2.2.2.2.2.2.2.2.2.1, r184.2.2.2) 58) fun r193 => (if r193.1 = 0 then q_X7_readsCommand_J214 r6 0 r193.2 r184.2.2.1 r184.2.2.2 else zb (q_X7_readsDigit (u.1, u.2.1, u.2.2.1, u.2.2.2.1, u.2.2.2.2.1, u.2.2.2.2.2.1, r193.2, r6, r184.2.2.1, u.2.2.2.2.2.2.2.2.2.1, r184.2.2.2) 1 9) fun r203 => (if r203.1 = 0 then q_X7_readsCommand_J214 r6 0 r203.2.1 r184.2.2.1 r203.2.2 else q_X7_readsCommand_J214 r6 1 r203.2.1 r184.2.2.1 r203.2.2)))) else if r6 = 119 then zb (q_X7_readsWord (u.1, u.2.1, u.2.2.1, u.2.2.2.1, u.2.2.2.2.1, u.2.2.2.2.2.1, u.2.2.2.2.2.2.1, r6, u.2.2.2.2.2.2.2.2.1, u.2.2.2.2.2.2.2.2.2.1, u.2.2.2.2.2.2.2.2.2.2) 544825719) fun r229 => (if r229.1 = 0 then some (0, r229.2, r6, u.2.2.2.2.2.2.2.2.1, u.2.2.2.2.2.2.2.2.2.1, u.2.2.2.2.2.2.2.2.2.2) else zb (q_X7_readsWay (u.1, u.2.1, u.2.2.1, u.2.2.2.1, u.2.2.2.2.1, u.2.2.2.2.2.1, r229.2, r6, u.2.2.2.2.2.2.2.2.1, u.2.2.2.2.2.2.2.2.2.1, u.2.2.2.2.2.2.2.2.2.2)) fun r236 => (if r236.1 = 0 then some (0, r236.2.1, r6, u.2.2.2.2.2.2.2.2.1, r236.2.2, u.2.2.2.2.2.2.2.2.2.2) else some (1, r236.2.1, r6, u.2.2.2.2.2.2.2.2.1, r236.2.2, u.2.2.2.2.2.2.2.2.2.2))) else some (0, u.2.2.2.2.2.2.1, r6, u.2.2.2.2.2.2.2.2.1, u.2.2.2.2.2.2.2.2.2.1, u.2.2.2.2.2.2.2.2.2.2))
set_option maxRecDepth 100000 in
set_option maxHeartbeats 4000000 in
theorem c_X7_readsCommand (l : Launch) (D : va_G) (G : zG) (ad : Nat → Nat) (b : Nat) (u : tX7) (res : Int32 × Int32 × Int32 × Int32 × Int32 × Int32) (hf : q_X7_readsCommand u = some res) : zMi l yX7_readsCommand cX7_readsCommand 2 (some .boolean) 4 89 D G (wX7 G ad b u) (wX7 G ad b (u.1, u.2.1, u.2.2.1, u.2.2.2.1, u.2.2.2.2.1, u.2.2.2.2.2.1, res.2.1, res.2.2.1, res.2.2.2.1, res.2.2.2.2.1, res.2.2.2.2.2)) [.ref (ad b)] res.1 := by
  refine zs_z (plainFor_of_name (by decide)) (Nat.le_of_ble_eq_true rfl) ?_
  intro p e s m args below meth c A Q H ls C0 hret hP hD hS hl
  obtain ⟨hx, hb, hml, hown, hW, hK, hlocks, hF, hr, hA⟩ := id C0
  replace hl : lv_has ls 2 [(0, .ref (ad b))] := hl
  unfold q_X7_readsCommand at hf
  refine lv_aload_n hx hb dX7_readsCommand_0 rfl (lv_at hl 0 rfl) ?_
  refine lv_aload_n hx hb dX7_readsCommand_1 rfl (lv_at hl 0 rfl) ?_
  refine lv_aload_n hx hb dX7_readsCommand_2 rfl (lv_at hl 0 rfl) ?_
  refine va_get (D := D) (ci := 8) (v := .int u.2.2.2.2.2.2.1) (C := RX7) (T := TX7) (N := 11) hx hb hW inlX7 hown hK hP 0 rfl rfl 6 (by decide) (hW _ wd_1007) (fun _ h9 => h9) rfl dX7_readsCommand_3 ?_
  replace hf := zb_s hf
  obtain ⟨r6, hr6, hf⟩ := hf
  refine z_Vi (rest := [.ref (ad b)]) C0 kX7_186 (c_X7_character l D G ad (b) u u.2.2.2.2.2.2.1 r6 hr6) z_pall z_pall.symm (ci := 8) (T := TX7) (N := 11) rfl rfl rfl ⟨Nat.le_of_ble_eq_true rfl, Nat.le_of_ble_eq_true rfl⟩ (Nat.le_of_ble_eq_true rfl) rfl hl.1 hP hD hS dX7_readsCommand_6 (fun H locs hP hD hS => ?_)
  refine z_put (ws' := wX7 G ad b (u.1, u.2.1, u.2.2.1, u.2.2.2.1, u.2.2.2.2.1, u.2.2.2.2.2.1, u.2.2.2.2.2.2.1, r6, u.2.2.2.2.2.2.2.2.1, u.2.2.2.2.2.2.2.2.2.1, u.2.2.2.2.2.2.2.2.2.2)) (ci := 8) (C := RX7) (T := TX7) (N := 11) hx hb hW inlX7 tyX7 tyX7_ok nmX7 hown hK hP hD hS 0 rfl rfl 7 (by decide) (hW _ wd_1012) rfl rfl (Nat.le_of_ble_eq_true rfl) rfl dX7_readsCommand_9 (fun H locs hP hD hS => ?_)
  refine lv_aload_n hx hb dX7_readsCommand_12 rfl (lv_at hl 0 rfl) ?_
  refine va_get (D := D) (ci := 8) (v := .int r6) (C := RX7) (T := TX7) (N := 11) hx hb hW inlX7 hown hK hP 0 rfl rfl 7 (by decide) (hW _ wd_1012) (fun _ h9 => h9) rfl dX7_readsCommand_13 ?_
  refine z_by (c := r6 = 97) (fun c16_0 => ?_) (fun n16_0 => ?_)
  · replace hf := zi_p hf c16_0
    refine lv_lookup (tgt := 150) (off := 134) hx hb dX7_readsCommand_16 (by decide) (by rw [c16_0]; decide) (by decide) ?_
    refine lv_aload_n hx hb dX7_readsCommand_150 rfl (lv_at hl 0 rfl) ?_
    refine lv_ldc2 hx hb hown (hW _ wd_1017) dX7_readsCommand_151 ?_
    replace hf := zb_s hf
    obtain ⟨r154, hr154, hf⟩ := hf
    refine z_Vi (rest := []) C0 kX7_210 (c_X7_readsWord l D G ad (b) (u.1, u.2.1, u.2.2.1, u.2.2.2.1, u.2.2.2.2.1, u.2.2.2.2.2.1, u.2.2.2.2.2.2.1, r6, u.2.2.2.2.2.2.2.2.1, u.2.2.2.2.2.2.2.2.2.1, u.2.2.2.2.2.2.2.2.2.2) 543912801 r154 hr154) z_pall z_pall.symm (ci := 8) (T := TX7) (N := 11) rfl rfl rfl ⟨Nat.le_of_ble_eq_true rfl, Nat.le_of_ble_eq_true rfl⟩ (Nat.le_of_ble_eq_true rfl) rfl hl.1 hP hD hS dX7_readsCommand_154 (fun H locs hP hD hS => ?_)
    replace hP : va_P D vwCl (wX7 G ad b (u.1, u.2.1, u.2.2.1, u.2.2.2.1, u.2.2.2.2.1, u.2.2.2.2.2.1, r154.2, r6, u.2.2.2.2.2.2.2.2.1, u.2.2.2.2.2.2.2.2.2.1, u.2.2.2.2.2.2.2.2.2.2)) H := hP
    replace hD : va_D A (wX7 G ad b (u.1, u.2.1, u.2.2.1, u.2.2.2.1, u.2.2.2.2.1, u.2.2.2.2.2.1, r154.2, r6, u.2.2.2.2.2.2.2.2.1, u.2.2.2.2.2.2.2.2.2.1, u.2.2.2.2.2.2.2.2.2.2)) := hD
    refine lv_if_eq (tgt := 171) hx hb dX7_readsCommand_157 (by decide) (fun c157 => ?_) (fun c157 => ?_)
    · replace hf := zi_p hf c157
      refine lv_iconst (v := 0) hx hb dX7_readsCommand_171 (by decide) ?_
      obtain rfl := zo hf
      exact hret _ _ _ _ _ hP hD hS rfl rfl dX7_readsCommand_172
    · replace hf := zi_n hf c157
      refine lv_aload_n hx hb dX7_readsCommand_160 rfl (lv_at hl 0 rfl) ?_
      replace hf := zb_s hf
      obtain ⟨r161, hr161, hf⟩ := hf
      refine z_Vi (rest := []) C0 kX7_219 (c_X7_readsSpan l D G ad (b) (u.1, u.2.1, u.2.2.1, u.2.2.2.1, u.2.2.2.2.1, u.2.2.2.2.2.1, r154.2, r6, u.2.2.2.2.2.2.2.2.1, u.2.2.2.2.2.2.2.2.2.1, u.2.2.2.2.2.2.2.2.2.2) r161 hr161) z_pall z_pall.symm (ci := 8) (T := TX7) (N := 11) rfl rfl rfl ⟨Nat.le_of_ble_eq_true rfl, Nat.le_of_ble_eq_true rfl⟩ (Nat.le_of_ble_eq_true rfl) rfl hl.1 hP hD hS dX7_readsCommand_161 (fun H locs hP hD hS => ?_)
      replace hP : va_P D vwCl (wX7 G ad b (u.1, u.2.1, u.2.2.1, u.2.2.2.1, u.2.2.2.2.1, u.2.2.2.2.2.1, r161.2.1, r6, r161.2.2.1, u.2.2.2.2.2.2.2.2.2.1, r161.2.2.2)) H := hP
      replace hD : va_D A (wX7 G ad b (u.1, u.2.1, u.2.2.1, u.2.2.2.1, u.2.2.2.2.1, u.2.2.2.2.2.1, r161.2.1, r6, r161.2.2.1, u.2.2.2.2.2.2.2.2.2.1, r161.2.2.2)) := hD
      refine lv_if_eq (tgt := 171) hx hb dX7_readsCommand_164 (by decide) (fun c164 => ?_) (fun c164 => ?_)
      · replace hf := zi_p hf c164
        refine lv_iconst (v := 0) hx hb dX7_readsCommand_171 (by decide) ?_
        obtain rfl := zo hf
        exact hret _ _ _ _ _ hP hD hS rfl rfl dX7_readsCommand_172
      · replace hf := zi_n hf c164
        refine lv_iconst (v := 1) hx hb dX7_readsCommand_167 (by decide) ?_
        refine lv_goto (tgt := 172) hx hb dX7_readsCommand_168 (by decide) ?_
        obtain rfl := zo hf
        exact hret _ _ _ _ _ hP hD hS rfl rfl dX7_readsCommand_172
  · replace hf := zi_n hf n16_0
    refine z_by (c := r6 = 113) (fun c16_1 => ?_) (fun n16_1 => ?_)
    · replace hf := zi_p hf c16_1
      refine lv_lookup (tgt := 117) (off := 101) hx hb dX7_readsCommand_16 (by decide) (by rw [c16_1]; decide) (by decide) ?_
      refine lv_aload_n hx hb dX7_readsCommand_117 rfl (lv_at hl 0 rfl) ?_
      refine lv_ldc2 hx hb hown (hW _ wd_1016) dX7_readsCommand_118 ?_
      replace hf := zb_s hf
      obtain ⟨r121, hr121, hf⟩ := hf
      refine z_Vi (rest := []) C0 kX7_210 (c_X7_readsWord l D G ad (b) (u.1, u.2.1, u.2.2.1, u.2.2.2.1, u.2.2.2.2.1, u.2.2.2.2.2.1, u.2.2.2.2.2.2.1, r6, u.2.2.2.2.2.2.2.2.1, u.2.2.2.2.2.2.2.2.2.1, u.2.2.2.2.2.2.2.2.2.2) 35684289705329 r121 hr121) z_pall z_pall.symm (ci := 8) (T := TX7) (N := 11) rfl rfl rfl ⟨Nat.le_of_ble_eq_true rfl, Nat.le_of_ble_eq_true rfl⟩ (Nat.le_of_ble_eq_true rfl) rfl hl.1 hP hD hS dX7_readsCommand_121 (fun H locs hP hD hS => ?_)
      replace hP : va_P D vwCl (wX7 G ad b (u.1, u.2.1, u.2.2.1, u.2.2.2.1, u.2.2.2.2.1, u.2.2.2.2.2.1, r121.2, r6, u.2.2.2.2.2.2.2.2.1, u.2.2.2.2.2.2.2.2.2.1, u.2.2.2.2.2.2.2.2.2.2)) H := hP
      replace hD : va_D A (wX7 G ad b (u.1, u.2.1, u.2.2.1, u.2.2.2.1, u.2.2.2.2.1, u.2.2.2.2.2.1, r121.2, r6, u.2.2.2.2.2.2.2.2.1, u.2.2.2.2.2.2.2.2.2.1, u.2.2.2.2.2.2.2.2.2.2)) := hD
      have J139 : ∀ (y139_0 : Int32) (w139_0 : Int32) (w139_1 : Int32) (hf : q_X7_readsCommand_J139 u r6 y139_0 w139_0 w139_1 = some res) (H : Heap) (locs : List Loc) (hP : va_P D vwCl (wX7 G ad b (u.1, u.2.1, u.2.2.1, u.2.2.2.1, u.2.2.2.2.1, u.2.2.2.2.2.1, w139_0, r6, u.2.2.2.2.2.2.2.2.1, u.2.2.2.2.2.2.2.2.2.1, w139_1)) H) (hD : va_D A (wX7 G ad b (u.1, u.2.1, u.2.2.1, u.2.2.2.1, u.2.2.2.2.1, u.2.2.2.2.2.1, w139_0, r6, u.2.2.2.2.2.2.2.2.1, u.2.2.2.2.2.2.2.2.2.1, w139_1))) (hS : va_S A s.heap H locs) (ls : Array Slot) (hl : lv_has ls 2 [(0, .ref (ad b))]), W p l e (zRm 4 89) s m args below meth c H locs 0 0 Q (F0 m 139 ls [.int y139_0]) := by
        intro y139_0 w139_0 w139_1 hf H locs hP hD hS ls hl
        unfold q_X7_readsCommand_J139 at hf
        refine lv_istore_n (lv' := [(1, .int y139_0), (0, .ref (ad b))]) hx hb dX7_readsCommand_139 rfl hl (by decide) rfl (fun ls hl => ?_)
        refine lv_aload_n hx hb dX7_readsCommand_140 rfl (lv_at hl 1 rfl) ?_
        refine lv_aload_n hx hb dX7_readsCommand_141 rfl (lv_at hl 1 rfl) ?_
        refine va_get (D := D) (ci := 8) (v := .int w139_1) (C := RX7) (T := TX7) (N := 11) hx hb hW inlX7 hown hK hP 0 rfl rfl 10 (by decide) (hW _ wd_1014) (fun _ h9 => h9) rfl dX7_readsCommand_142 ?_
        refine z_put (ws' := wX7 G ad b (u.1, u.2.1, u.2.2.1, u.2.2.2.1, u.2.2.2.2.1, u.2.2.2.2.2.1, w139_0, r6, u.2.2.2.2.2.2.2.2.1, w139_1, w139_1)) (ci := 8) (C := RX7) (T := TX7) (N := 11) hx hb hW inlX7 tyX7 tyX7_ok nmX7 hown hK hP hD hS 0 rfl rfl 9 (by decide) (hW _ wd_1015) rfl rfl (Nat.le_of_ble_eq_true rfl) rfl dX7_readsCommand_145 (fun H locs hP hD hS => ?_)
        refine lv_iload_n hx hb dX7_readsCommand_148 rfl (lv_at hl 0 rfl) ?_
        replace hf := zq_s hf
        obtain ⟨hq, hf⟩ := hf
        obtain rfl := zo hf
        exact hret _ _ _ _ _ hP hD hS rfl (z_nb hq) dX7_readsCommand_149
      refine lv_if_eq (tgt := 138) hx hb dX7_readsCommand_124 (by decide) (fun c124 => ?_) (fun c124 => ?_)
      · replace hf := zi_p hf c124
        refine lv_iconst (v := 0) hx hb dX7_readsCommand_138 (by decide) ?_
        exact J139 0 r121.2 u.2.2.2.2.2.2.2.2.2.2 hf _ _ hP hD hS _ (lv_sub hl [0] rfl)
      · replace hf := zi_n hf c124
        refine lv_aload_n hx hb dX7_readsCommand_127 rfl (lv_at hl 0 rfl) ?_
        replace hf := zb_s hf
        obtain ⟨r128, hr128, hf⟩ := hf
        refine z_Vi (rest := []) C0 kX7_223 (c_X7_readsNumber l D G ad (b) (u.1, u.2.1, u.2.2.1, u.2.2.2.1, u.2.2.2.2.1, u.2.2.2.2.2.1, r121.2, r6, u.2.2.2.2.2.2.2.2.1, u.2.2.2.2.2.2.2.2.2.1, u.2.2.2.2.2.2.2.2.2.2) r128 hr128) z_pall z_pall.symm (ci := 8) (T := TX7) (N := 11) rfl rfl rfl ⟨Nat.le_of_ble_eq_true rfl, Nat.le_of_ble_eq_true rfl⟩ (Nat.le_of_ble_eq_true rfl) rfl hl.1 hP hD hS dX7_readsCommand_128 (fun H locs hP hD hS => ?_)
        replace hP : va_P D vwCl (wX7 G ad b (u.1, u.2.1, u.2.2.1, u.2.2.2.1, u.2.2.2.2.1, u.2.2.2.2.2.1, r128.2.1, r6, u.2.2.2.2.2.2.2.2.1, u.2.2.2.2.2.2.2.2.2.1, r128.2.2)) H := hP
        replace hD : va_D A (wX7 G ad b (u.1, u.2.1, u.2.2.1, u.2.2.2.1, u.2.2.2.2.1, u.2.2.2.2.2.1, r128.2.1, r6, u.2.2.2.2.2.2.2.2.1, u.2.2.2.2.2.2.2.2.2.1, r128.2.2)) := hD
        refine lv_if_eq (tgt := 138) hx hb dX7_readsCommand_131 (by decide) (fun c131 => ?_) (fun c131 => ?_)
        · replace hf := zi_p hf c131
          refine lv_iconst (v := 0) hx hb dX7_readsCommand_138 (by decide) ?_
          exact J139 0 r128.2.1 r128.2.2 hf _ _ hP hD hS _ (lv_sub hl [0] rfl)
        · replace hf := zi_n hf c131
          refine lv_iconst (v := 1) hx hb dX7_readsCommand_134 (by decide) ?_
          refine lv_goto (tgt := 139) hx hb dX7_readsCommand_135 (by decide) ?_
          exact J139 1 r128.2.1 r128.2.2 hf _ _ hP hD hS _ (lv_sub hl [0] rfl)
    · replace hf := zi_n hf n16_1
      refine z_by (c := r6 = 114) (fun c16_2 => ?_) (fun n16_2 => ?_)
      · replace hf := zi_p hf c16_2
        refine lv_lookup (tgt := 68) (off := 52) hx hb dX7_readsCommand_16 (by decide) (by rw [c16_2]; decide) (by decide) ?_
        refine lv_aload_n hx hb dX7_readsCommand_68 rfl (lv_at hl 0 rfl) ?_
        refine lv_ldc2 hx hb hown (hW _ wd_1013) dX7_readsCommand_69 ?_
        replace hf := zb_s hf
        obtain ⟨r72, hr72, hf⟩ := hf
        refine z_Vi (rest := []) C0 kX7_210 (c_X7_readsWord l D G ad (b) (u.1, u.2.1, u.2.2.1, u.2.2.2.1, u.2.2.2.2.1, u.2.2.2.2.2.1, u.2.2.2.2.2.2.1, r6, u.2.2.2.2.2.2.2.2.1, u.2.2.2.2.2.2.2.2.2.1, u.2.2.2.2.2.2.2.2.2.2) 139123058034 r72 hr72) z_pall z_pall.symm (ci := 8) (T := TX7) (N := 11) rfl rfl rfl ⟨Nat.le_of_ble_eq_true rfl, Nat.le_of_ble_eq_true rfl⟩ (Nat.le_of_ble_eq_true rfl) rfl hl.1 hP hD hS dX7_readsCommand_72 (fun H locs hP hD hS => ?_)
        replace hP : va_P D vwCl (wX7 G ad b (u.1, u.2.1, u.2.2.1, u.2.2.2.1, u.2.2.2.2.1, u.2.2.2.2.2.1, r72.2, r6, u.2.2.2.2.2.2.2.2.1, u.2.2.2.2.2.2.2.2.2.1, u.2.2.2.2.2.2.2.2.2.2)) H := hP
        replace hD : va_D A (wX7 G ad b (u.1, u.2.1, u.2.2.1, u.2.2.2.1, u.2.2.2.2.1, u.2.2.2.2.2.1, r72.2, r6, u.2.2.2.2.2.2.2.2.1, u.2.2.2.2.2.2.2.2.2.1, u.2.2.2.2.2.2.2.2.2.2)) := hD
        have J106 : ∀ (y106_0 : Int32) (w106_0 : Int32) (w106_1 : Int32) (w106_2 : Int32) (hf : q_X7_readsCommand_J106 r6 y106_0 w106_0 w106_1 w106_2 = some res) (H : Heap) (locs : List Loc) (hP : va_P D vwCl (wX7 G ad b (u.1, u.2.1, u.2.2.1, u.2.2.2.1, u.2.2.2.2.1, u.2.2.2.2.2.1, w106_0, r6, w106_1, u.2.2.2.2.2.2.2.2.2.1, w106_2)) H) (hD : va_D A (wX7 G ad b (u.1, u.2.1, u.2.2.1, u.2.2.2.1, u.2.2.2.2.1, u.2.2.2.2.2.1, w106_0, r6, w106_1, u.2.2.2.2.2.2.2.2.2.1, w106_2))) (hS : va_S A s.heap H locs) (ls : Array Slot) (hl : lv_has ls 2 [(0, .ref (ad b))]), W p l e (zRm 4 89) s m args below meth c H locs 0 0 Q (F0 m 106 ls [.int y106_0]) := by
          intro y106_0 w106_0 w106_1 w106_2 hf H locs hP hD hS ls hl
          unfold q_X7_readsCommand_J106 at hf
          refine lv_istore_n (lv' := [(1, .int y106_0), (0, .ref (ad b))]) hx hb dX7_readsCommand_106 rfl hl (by decide) rfl (fun ls hl => ?_)
          refine lv_aload_n hx hb dX7_readsCommand_107 rfl (lv_at hl 1 rfl) ?_
          refine lv_aload_n hx hb dX7_readsCommand_108 rfl (lv_at hl 1 rfl) ?_
          refine va_get (D := D) (ci := 8) (v := .int w106_2) (C := RX7) (T := TX7) (N := 11) hx hb hW inlX7 hown hK hP 0 rfl rfl 10 (by decide) (hW _ wd_1014) (fun _ h9 => h9) rfl dX7_readsCommand_109 ?_
          refine z_put (ws' := wX7 G ad b (u.1, u.2.1, u.2.2.1, u.2.2.2.1, u.2.2.2.2.1, u.2.2.2.2.2.1, w106_0, r6, w106_1, w106_2, w106_2)) (ci := 8) (C := RX7) (T := TX7) (N := 11) hx hb hW inlX7 tyX7 tyX7_ok nmX7 hown hK hP hD hS 0 rfl rfl 9 (by decide) (hW _ wd_1015) rfl rfl (Nat.le_of_ble_eq_true rfl) rfl dX7_readsCommand_112 (fun H locs hP hD hS => ?_)
          refine lv_iload_n hx hb dX7_readsCommand_115 rfl (lv_at hl 0 rfl) ?_
          replace hf := zq_s hf
          obtain ⟨hq, hf⟩ := hf
          obtain rfl := zo hf
          exact hret _ _ _ _ _ hP hD hS rfl (z_nb hq) dX7_readsCommand_116
        refine lv_if_eq (tgt := 105) hx hb dX7_readsCommand_75 (by decide) (fun c75 => ?_) (fun c75 => ?_)
        · replace hf := zi_p hf c75
          refine lv_iconst (v := 0) hx hb dX7_readsCommand_105 (by decide) ?_
          exact J106 0 r72.2 u.2.2.2.2.2.2.2.2.1 u.2.2.2.2.2.2.2.2.2.2 hf _ _ hP hD hS _ (lv_sub hl [0] rfl)
        · replace hf := zi_n hf c75
          refine lv_aload_n hx hb dX7_readsCommand_78 rfl (lv_at hl 0 rfl) ?_
          replace hf := zb_s hf
          obtain ⟨r79, hr79, hf⟩ := hf
          refine z_Vi (rest := []) C0 kX7_219 (c_X7_readsSpan l D G ad (b) (u.1, u.2.1, u.2.2.1, u.2.2.2.1, u.2.2.2.2.1, u.2.2.2.2.2.1, r72.2, r6, u.2.2.2.2.2.2.2.2.1, u.2.2.2.2.2.2.2.2.2.1, u.2.2.2.2.2.2.2.2.2.2) r79 hr79) z_pall z_pall.symm (ci := 8) (T := TX7) (N := 11) rfl rfl rfl ⟨Nat.le_of_ble_eq_true rfl, Nat.le_of_ble_eq_true rfl⟩ (Nat.le_of_ble_eq_true rfl) rfl hl.1 hP hD hS dX7_readsCommand_79 (fun H locs hP hD hS => ?_)
          replace hP : va_P D vwCl (wX7 G ad b (u.1, u.2.1, u.2.2.1, u.2.2.2.1, u.2.2.2.2.1, u.2.2.2.2.2.1, r79.2.1, r6, r79.2.2.1, u.2.2.2.2.2.2.2.2.2.1, r79.2.2.2)) H := hP
          replace hD : va_D A (wX7 G ad b (u.1, u.2.1, u.2.2.1, u.2.2.2.1, u.2.2.2.2.1, u.2.2.2.2.2.1, r79.2.1, r6, r79.2.2.1, u.2.2.2.2.2.2.2.2.2.1, r79.2.2.2)) := hD
          refine lv_if_eq (tgt := 105) hx hb dX7_readsCommand_82 (by decide) (fun c82 => ?_) (fun c82 => ?_)
          · replace hf := zi_p hf c82
            refine lv_iconst (v := 0) hx hb dX7_readsCommand_105 (by decide) ?_
            exact J106 0 r79.2.1 r79.2.2.1 r79.2.2.2 hf _ _ hP hD hS _ (lv_sub hl [0] rfl)
          · replace hf := zi_n hf c82
            refine lv_aload_n hx hb dX7_readsCommand_85 rfl (lv_at hl 0 rfl) ?_
            refine lv_bipush (v := 58) hx hb dX7_readsCommand_86 (by decide) ?_
            replace hf := zb_s hf
            obtain ⟨r88, hr88, hf⟩ := hf
            refine z_Vi (rest := []) C0 kX7_189 (c_X7_isNext l D G ad (b) (u.1, u.2.1, u.2.2.1, u.2.2.2.1, u.2.2.2.2.1, u.2.2.2.2.2.1, r79.2.1, r6, r79.2.2.1, u.2.2.2.2.2.2.2.2.2.1, r79.2.2.2) 58 r88 hr88) z_pall z_pall.symm (ci := 8) (T := TX7) (N := 11) rfl rfl rfl ⟨Nat.le_of_ble_eq_true rfl, Nat.le_of_ble_eq_true rfl⟩ (Nat.le_of_ble_eq_true rfl) rfl hl.1 hP hD hS dX7_readsCommand_88 (fun H locs hP hD hS => ?_)
            replace hP : va_P D vwCl (wX7 G ad b (u.1, u.2.1, u.2.2.1, u.2.2.2.1, u.2.2.2.2.1, u.2.2.2.2.2.1, r88.2, r6, r79.2.2.1, u.2.2.2.2.2.2.2.2.2.1, r79.2.2.2)) H := hP
            replace hD : va_D A (wX7 G ad b (u.1, u.2.1, u.2.2.1, u.2.2.2.1, u.2.2.2.2.1, u.2.2.2.2.2.1, r88.2, r6, r79.2.2.1, u.2.2.2.2.2.2.2.2.2.1, r79.2.2.2)) := hD
            refine lv_if_eq (tgt := 105) hx hb dX7_readsCommand_91 (by decide) (fun c91 => ?_) (fun c91 => ?_)
            · replace hf := zi_p hf c91
              refine lv_iconst (v := 0) hx hb dX7_readsCommand_105 (by decide) ?_
              exact J106 0 r88.2 r79.2.2.1 r79.2.2.2 hf _ _ hP hD hS _ (lv_sub hl [0] rfl)
            · replace hf := zi_n hf c91
              refine lv_aload_n hx hb dX7_readsCommand_94 rfl (lv_at hl 0 rfl) ?_
              replace hf := zb_s hf
              obtain ⟨r95, hr95, hf⟩ := hf
              refine z_Vi (rest := []) C0 kX7_223 (c_X7_readsNumber l D G ad (b) (u.1, u.2.1, u.2.2.1, u.2.2.2.1, u.2.2.2.2.1, u.2.2.2.2.2.1, r88.2, r6, r79.2.2.1, u.2.2.2.2.2.2.2.2.2.1, r79.2.2.2) r95 hr95) z_pall z_pall.symm (ci := 8) (T := TX7) (N := 11) rfl rfl rfl ⟨Nat.le_of_ble_eq_true rfl, Nat.le_of_ble_eq_true rfl⟩ (Nat.le_of_ble_eq_true rfl) rfl hl.1 hP hD hS dX7_readsCommand_95 (fun H locs hP hD hS => ?_)
              replace hP : va_P D vwCl (wX7 G ad b (u.1, u.2.1, u.2.2.1, u.2.2.2.1, u.2.2.2.2.1, u.2.2.2.2.2.1, r95.2.1, r6, r79.2.2.1, u.2.2.2.2.2.2.2.2.2.1, r95.2.2)) H := hP
              replace hD : va_D A (wX7 G ad b (u.1, u.2.1, u.2.2.1, u.2.2.2.1, u.2.2.2.2.1, u.2.2.2.2.2.1, r95.2.1, r6, r79.2.2.1, u.2.2.2.2.2.2.2.2.2.1, r95.2.2)) := hD
              refine lv_if_eq (tgt := 105) hx hb dX7_readsCommand_98 (by decide) (fun c98 => ?_) (fun c98 => ?_)
              · replace hf := zi_p hf c98
                refine lv_iconst (v := 0) hx hb dX7_readsCommand_105 (by decide) ?_
                exact J106 0 r95.2.1 r79.2.2.1 r95.2.2 hf _ _ hP hD hS _ (lv_sub hl [0] rfl)
              · replace hf := zi_n hf c98
                refine lv_iconst (v := 1) hx hb dX7_readsCommand_101 (by decide) ?_
                refine lv_goto (tgt := 106) hx hb dX7_readsCommand_102 (by decide) ?_
                exact J106 1 r95.2.1 r79.2.2.1 r95.2.2 hf _ _ hP hD hS _ (lv_sub hl [0] rfl)
      · replace hf := zi_n hf n16_2
        refine z_by (c := r6 = 115) (fun c16_3 => ?_) (fun n16_3 => ?_)
        · replace hf := zi_p hf c16_3
          refine lv_lookup (tgt := 173) (off := 157) hx hb dX7_readsCommand_16 (by decide) (by rw [c16_3]; decide) (by decide) ?_
          refine lv_aload_n hx hb dX7_readsCommand_173 rfl (lv_at hl 0 rfl) ?_
          refine lv_ldc2 hx hb hown (hW _ wd_1018) dX7_readsCommand_174 ?_
          replace hf := zb_s hf
          obtain ⟨r177, hr177, hf⟩ := hf
          refine z_Vi (rest := []) C0 kX7_210 (c_X7_readsWord l D G ad (b) (u.1, u.2.1, u.2.2.1, u.2.2.2.1, u.2.2.2.2.1, u.2.2.2.2.2.1, u.2.2.2.2.2.2.1, r6, u.2.2.2.2.2.2.2.2.1, u.2.2.2.2.2.2.2.2.2.1, u.2.2.2.2.2.2.2.2.2.2) 139392413811 r177 hr177) z_pall z_pall.symm (ci := 8) (T := TX7) (N := 11) rfl rfl rfl ⟨Nat.le_of_ble_eq_true rfl, Nat.le_of_ble_eq_true rfl⟩ (Nat.le_of_ble_eq_true rfl) rfl hl.1 hP hD hS dX7_readsCommand_177 (fun H locs hP hD hS => ?_)
          replace hP : va_P D vwCl (wX7 G ad b (u.1, u.2.1, u.2.2.1, u.2.2.2.1, u.2.2.2.2.1, u.2.2.2.2.2.1, r177.2, r6, u.2.2.2.2.2.2.2.2.1, u.2.2.2.2.2.2.2.2.2.1, u.2.2.2.2.2.2.2.2.2.2)) H := hP
          replace hD : va_D A (wX7 G ad b (u.1, u.2.1, u.2.2.1, u.2.2.2.1, u.2.2.2.2.1, u.2.2.2.2.2.1, r177.2, r6, u.2.2.2.2.2.2.2.2.1, u.2.2.2.2.2.2.2.2.2.1, u.2.2.2.2.2.2.2.2.2.2)) := hD
          have J214 : ∀ (y214_0 : Int32) (w214_0 : Int32) (w214_1 : Int32) (w214_2 : Int32) (hf : q_X7_readsCommand_J214 r6 y214_0 w214_0 w214_1 w214_2 = some res) (H : Heap) (locs : List Loc) (hP : va_P D vwCl (wX7 G ad b (u.1, u.2.1, u.2.2.1, u.2.2.2.1, u.2.2.2.2.1, u.2.2.2.2.2.1, w214_0, r6, w214_1, u.2.2.2.2.2.2.2.2.2.1, w214_2)) H) (hD : va_D A (wX7 G ad b (u.1, u.2.1, u.2.2.1, u.2.2.2.1, u.2.2.2.2.1, u.2.2.2.2.2.1, w214_0, r6, w214_1, u.2.2.2.2.2.2.2.2.2.1, w214_2))) (hS : va_S A s.heap H locs) (ls : Array Slot) (hl : lv_has ls 2 [(0, .ref (ad b))]), W p l e (zRm 4 89) s m args below meth c H locs 0 0 Q (F0 m 214 ls [.int y214_0]) := by
            intro y214_0 w214_0 w214_1 w214_2 hf H locs hP hD hS ls hl
            unfold q_X7_readsCommand_J214 at hf
            refine lv_istore_n (lv' := [(1, .int y214_0), (0, .ref (ad b))]) hx hb dX7_readsCommand_214 rfl hl (by decide) rfl (fun ls hl => ?_)
            refine lv_aload_n hx hb dX7_readsCommand_215 rfl (lv_at hl 1 rfl) ?_
            refine lv_aload_n hx hb dX7_readsCommand_216 rfl (lv_at hl 1 rfl) ?_
            refine va_get (D := D) (ci := 8) (v := .int w214_2) (C := RX7) (T := TX7) (N := 11) hx hb hW inlX7 hown hK hP 0 rfl rfl 10 (by decide) (hW _ wd_1014) (fun _ h9 => h9) rfl dX7_readsCommand_217 ?_
            refine z_put (ws' := wX7 G ad b (u.1, u.2.1, u.2.2.1, u.2.2.2.1, u.2.2.2.2.1, u.2.2.2.2.2.1, w214_0, r6, w214_1, w214_2, w214_2)) (ci := 8) (C := RX7) (T := TX7) (N := 11) hx hb hW inlX7 tyX7 tyX7_ok nmX7 hown hK hP hD hS 0 rfl rfl 9 (by decide) (hW _ wd_1015) rfl rfl (Nat.le_of_ble_eq_true rfl) rfl dX7_readsCommand_220 (fun H locs hP hD hS => ?_)
            refine lv_iload_n hx hb dX7_readsCommand_223 rfl (lv_at hl 0 rfl) ?_
            replace hf := zq_s hf
            obtain ⟨hq, hf⟩ := hf
            obtain rfl := zo hf
            exact hret _ _ _ _ _ hP hD hS rfl (z_nb hq) dX7_readsCommand_224
          refine lv_if_eq (tgt := 213) hx hb dX7_readsCommand_180 (by decide) (fun c180 => ?_) (fun c180 => ?_)
          · replace hf := zi_p hf c180
            refine lv_iconst (v := 0) hx hb dX7_readsCommand_213 (by decide) ?_
            exact J214 0 r177.2 u.2.2.2.2.2.2.2.2.1 u.2.2.2.2.2.2.2.2.2.2 hf _ _ hP hD hS _ (lv_sub hl [0] rfl)
          · replace hf := zi_n hf c180
            refine lv_aload_n hx hb dX7_readsCommand_183 rfl (lv_at hl 0 rfl) ?_
            replace hf := zb_s hf
            obtain ⟨r184, hr184, hf⟩ := hf
            refine z_Vi (rest := []) C0 kX7_219 (c_X7_readsSpan l D G ad (b) (u.1, u.2.1, u.2.2.1, u.2.2.2.1, u.2.2.2.2.1, u.2.2.2.2.2.1, r177.2, r6, u.2.2.2.2.2.2.2.2.1, u.2.2.2.2.2.2.2.2.2.1, u.2.2.2.2.2.2.2.2.2.2) r184 hr184) z_pall z_pall.symm (ci := 8) (T := TX7) (N := 11) rfl rfl rfl ⟨Nat.le_of_ble_eq_true rfl, Nat.le_of_ble_eq_true rfl⟩ (Nat.le_of_ble_eq_true rfl) rfl hl.1 hP hD hS dX7_readsCommand_184 (fun H locs hP hD hS => ?_)
            replace hP : va_P D vwCl (wX7 G ad b (u.1, u.2.1, u.2.2.1, u.2.2.2.1, u.2.2.2.2.1, u.2.2.2.2.2.1, r184.2.1, r6, r184.2.2.1, u.2.2.2.2.2.2.2.2.2.1, r184.2.2.2)) H := hP
            replace hD : va_D A (wX7 G ad b (u.1, u.2.1, u.2.2.1, u.2.2.2.1, u.2.2.2.2.1, u.2.2.2.2.2.1, r184.2.1, r6, r184.2.2.1, u.2.2.2.2.2.2.2.2.2.1, r184.2.2.2)) := hD
            refine lv_if_eq (tgt := 213) hx hb dX7_readsCommand_187 (by decide) (fun c187 => ?_) (fun c187 => ?_)
            · replace hf := zi_p hf c187
              refine lv_iconst (v := 0) hx hb dX7_readsCommand_213 (by decide) ?_
              exact J214 0 r184.2.1 r184.2.2.1 r184.2.2.2 hf _ _ hP hD hS _ (lv_sub hl [0] rfl)
            · replace hf := zi_n hf c187
              refine lv_aload_n hx hb dX7_readsCommand_190 rfl (lv_at hl 0 rfl) ?_
              refine lv_bipush (v := 58) hx hb dX7_readsCommand_191 (by decide) ?_
              replace hf := zb_s hf
              obtain ⟨r193, hr193, hf⟩ := hf
              refine z_Vi (rest := []) C0 kX7_189 (c_X7_isNext l D G ad (b) (u.1, u.2.1, u.2.2.1, u.2.2.2.1, u.2.2.2.2.1, u.2.2.2.2.2.1, r184.2.1, r6, r184.2.2.1, u.2.2.2.2.2.2.2.2.2.1, r184.2.2.2) 58 r193 hr193) z_pall z_pall.symm (ci := 8) (T := TX7) (N := 11) rfl rfl rfl ⟨Nat.le_of_ble_eq_true rfl, Nat.le_of_ble_eq_true rfl⟩ (Nat.le_of_ble_eq_true rfl) rfl hl.1 hP hD hS dX7_readsCommand_193 (fun H locs hP hD hS => ?_)
              replace hP : va_P D vwCl (wX7 G ad b (u.1, u.2.1, u.2.2.1, u.2.2.2.1, u.2.2.2.2.1, u.2.2.2.2.2.1, r193.2, r6, r184.2.2.1, u.2.2.2.2.2.2.2.2.2.1, r184.2.2.2)) H := hP
              replace hD : va_D A (wX7 G ad b (u.1, u.2.1, u.2.2.1, u.2.2.2.1, u.2.2.2.2.1, u.2.2.2.2.2.1, r193.2, r6, r184.2.2.1, u.2.2.2.2.2.2.2.2.2.1, r184.2.2.2)) := hD
              refine lv_if_eq (tgt := 213) hx hb dX7_readsCommand_196 (by decide) (fun c196 => ?_) (fun c196 => ?_)
              · replace hf := zi_p hf c196
                refine lv_iconst (v := 0) hx hb dX7_readsCommand_213 (by decide) ?_
                exact J214 0 r193.2 r184.2.2.1 r184.2.2.2 hf _ _ hP hD hS _ (lv_sub hl [0] rfl)
              · replace hf := zi_n hf c196
                refine lv_aload_n hx hb dX7_readsCommand_199 rfl (lv_at hl 0 rfl) ?_
                refine lv_iconst (v := 1) hx hb dX7_readsCommand_200 (by decide) ?_
                refine lv_bipush (v := 9) hx hb dX7_readsCommand_201 (by decide) ?_
                replace hf := zb_s hf
                obtain ⟨r203, hr203, hf⟩ := hf
                refine z_Vi (rest := []) C0 kX7_195 (c_X7_readsDigit l D G ad (b) (u.1, u.2.1, u.2.2.1, u.2.2.2.1, u.2.2.2.2.1, u.2.2.2.2.2.1, r193.2, r6, r184.2.2.1, u.2.2.2.2.2.2.2.2.2.1, r184.2.2.2) 1 9 r203 hr203) z_pall z_pall.symm (ci := 8) (T := TX7) (N := 11) rfl rfl rfl ⟨Nat.le_of_ble_eq_true rfl, Nat.le_of_ble_eq_true rfl⟩ (Nat.le_of_ble_eq_true rfl) rfl hl.1 hP hD hS dX7_readsCommand_203 (fun H locs hP hD hS => ?_)
                replace hP : va_P D vwCl (wX7 G ad b (u.1, u.2.1, u.2.2.1, u.2.2.2.1, u.2.2.2.2.1, u.2.2.2.2.2.1, r203.2.1, r6, r184.2.2.1, u.2.2.2.2.2.2.2.2.2.1, r203.2.2)) H := hP
                replace hD : va_D A (wX7 G ad b (u.1, u.2.1, u.2.2.1, u.2.2.2.1, u.2.2.2.2.1, u.2.2.2.2.2.1, r203.2.1, r6, r184.2.2.1, u.2.2.2.2.2.2.2.2.2.1, r203.2.2)) := hD
                refine lv_if_eq (tgt := 213) hx hb dX7_readsCommand_206 (by decide) (fun c206 => ?_) (fun c206 => ?_)
                · replace hf := zi_p hf c206
                  refine lv_iconst (v := 0) hx hb dX7_readsCommand_213 (by decide) ?_
                  exact J214 0 r203.2.1 r184.2.2.1 r203.2.2 hf _ _ hP hD hS _ (lv_sub hl [0] rfl)
                · replace hf := zi_n hf c206
                  refine lv_iconst (v := 1) hx hb dX7_readsCommand_209 (by decide) ?_
                  refine lv_goto (tgt := 214) hx hb dX7_readsCommand_210 (by decide) ?_
                  exact J214 1 r203.2.1 r184.2.2.1 r203.2.2 hf _ _ hP hD hS _ (lv_sub hl [0] rfl)
        · replace hf := zi_n hf n16_3
          refine z_by (c := r6 = 119) (fun c16_4 => ?_) (fun n16_4 => ?_)
          · replace hf := zi_p hf c16_4
            refine lv_lookup (tgt := 225) (off := 209) hx hb dX7_readsCommand_16 (by decide) (by rw [c16_4]; decide) (by decide) ?_
            refine lv_aload_n hx hb dX7_readsCommand_225 rfl (lv_at hl 0 rfl) ?_
            refine lv_ldc2 hx hb hown (hW _ wd_1019) dX7_readsCommand_226 ?_
            replace hf := zb_s hf
            obtain ⟨r229, hr229, hf⟩ := hf
            refine z_Vi (rest := []) C0 kX7_210 (c_X7_readsWord l D G ad (b) (u.1, u.2.1, u.2.2.1, u.2.2.2.1, u.2.2.2.2.1, u.2.2.2.2.2.1, u.2.2.2.2.2.2.1, r6, u.2.2.2.2.2.2.2.2.1, u.2.2.2.2.2.2.2.2.2.1, u.2.2.2.2.2.2.2.2.2.2) 544825719 r229 hr229) z_pall z_pall.symm (ci := 8) (T := TX7) (N := 11) rfl rfl rfl ⟨Nat.le_of_ble_eq_true rfl, Nat.le_of_ble_eq_true rfl⟩ (Nat.le_of_ble_eq_true rfl) rfl hl.1 hP hD hS dX7_readsCommand_229 (fun H locs hP hD hS => ?_)
            replace hP : va_P D vwCl (wX7 G ad b (u.1, u.2.1, u.2.2.1, u.2.2.2.1, u.2.2.2.2.1, u.2.2.2.2.2.1, r229.2, r6, u.2.2.2.2.2.2.2.2.1, u.2.2.2.2.2.2.2.2.2.1, u.2.2.2.2.2.2.2.2.2.2)) H := hP
            replace hD : va_D A (wX7 G ad b (u.1, u.2.1, u.2.2.1, u.2.2.2.1, u.2.2.2.2.1, u.2.2.2.2.2.1, r229.2, r6, u.2.2.2.2.2.2.2.2.1, u.2.2.2.2.2.2.2.2.2.1, u.2.2.2.2.2.2.2.2.2.2)) := hD
            refine lv_if_eq (tgt := 246) hx hb dX7_readsCommand_232 (by decide) (fun c232 => ?_) (fun c232 => ?_)
            · replace hf := zi_p hf c232
              refine lv_iconst (v := 0) hx hb dX7_readsCommand_246 (by decide) ?_
              obtain rfl := zo hf
              exact hret _ _ _ _ _ hP hD hS rfl rfl dX7_readsCommand_247
            · replace hf := zi_n hf c232
              refine lv_aload_n hx hb dX7_readsCommand_235 rfl (lv_at hl 0 rfl) ?_
              replace hf := zb_s hf
              obtain ⟨r236, hr236, hf⟩ := hf
              refine z_Vi (rest := []) C0 kX7_234 (c_X7_readsWay l D G ad (b) (u.1, u.2.1, u.2.2.1, u.2.2.2.1, u.2.2.2.2.1, u.2.2.2.2.2.1, r229.2, r6, u.2.2.2.2.2.2.2.2.1, u.2.2.2.2.2.2.2.2.2.1, u.2.2.2.2.2.2.2.2.2.2) r236 hr236) z_pall z_pall.symm (ci := 8) (T := TX7) (N := 11) rfl rfl rfl ⟨Nat.le_of_ble_eq_true rfl, Nat.le_of_ble_eq_true rfl⟩ (Nat.le_of_ble_eq_true rfl) rfl hl.1 hP hD hS dX7_readsCommand_236 (fun H locs hP hD hS => ?_)
              replace hP : va_P D vwCl (wX7 G ad b (u.1, u.2.1, u.2.2.1, u.2.2.2.1, u.2.2.2.2.1, u.2.2.2.2.2.1, r236.2.1, r6, u.2.2.2.2.2.2.2.2.1, r236.2.2, u.2.2.2.2.2.2.2.2.2.2)) H := hP
              replace hD : va_D A (wX7 G ad b (u.1, u.2.1, u.2.2.1, u.2.2.2.1, u.2.2.2.2.1, u.2.2.2.2.2.1, r236.2.1, r6, u.2.2.2.2.2.2.2.2.1, r236.2.2, u.2.2.2.2.2.2.2.2.2.2)) := hD
              refine lv_if_eq (tgt := 246) hx hb dX7_readsCommand_239 (by decide) (fun c239 => ?_) (fun c239 => ?_)
              · replace hf := zi_p hf c239
                refine lv_iconst (v := 0) hx hb dX7_readsCommand_246 (by decide) ?_
                obtain rfl := zo hf
                exact hret _ _ _ _ _ hP hD hS rfl rfl dX7_readsCommand_247
              · replace hf := zi_n hf c239
                refine lv_iconst (v := 1) hx hb dX7_readsCommand_242 (by decide) ?_
                refine lv_goto (tgt := 247) hx hb dX7_readsCommand_243 (by decide) ?_
                obtain rfl := zo hf
                exact hret _ _ _ _ _ hP hD hS rfl rfl dX7_readsCommand_247
          · replace hf := zi_n hf n16_4
            refine lv_lookup (tgt := 248) (off := 232) hx hb dX7_readsCommand_16 (by decide) ((lv_osw n16_0 rfl).trans ((lv_osw n16_1 rfl).trans ((lv_osw n16_2 rfl).trans ((lv_osw n16_3 rfl).trans ((lv_osw n16_4 rfl).trans (rfl)))))) (by decide) ?_
            refine lv_iconst (v := 0) hx hb dX7_readsCommand_248 (by decide) ?_
            obtain rfl := zo hf
            exact hret _ _ _ _ _ hP hD hS rfl rfl dX7_readsCommand_249
theorem kX7_237 : zLkV RX7 237 yX7_readsCommand cX7_readsCommand 2 (some .boolean) 0 := ⟨⟨wd_1008, wd_1009, wd_1010, wd_5, wd_1011⟩, by decide +kernel⟩
noncomputable def q_X7_findError_L5 (u : tX7) (v5 : Int32 × Int32 × Int32 × Int32 × Int32) : Option ((Int32 × Int32 × Int32 × Int32 × Int32) ⊕ (((Int32 × Int32 × Int32 × Int32 × Int32) ⊕ ((Int32 × Int32 × Int32 × Int32 × Int32) ⊕ ((Int32 × Int32 × Int32 × Int32 × Int32)))))) :=
  zb (q_X7_readsCommand (u.1, u.2.1, u.2.2.1, u.2.2.2.1, u.2.2.2.2.1, u.2.2.2.2.2.1, v5.1, v5.2.1, v5.2.2.1, v5.2.2.2.1, v5.2.2.2.2)) fun r6 => (if r6.1 = 0 then some (Sum.inr (Sum.inl (r6.2.1, r6.2.2.1, r6.2.2.2.1, r6.2.2.2.2.1, r6.2.2.2.2.2))) else (if r6.2.1 = u.2.2.2.2.2.1 then some (Sum.inr (Sum.inr (Sum.inl (r6.2.1, r6.2.2.1, r6.2.2.2.1, r6.2.2.2.2.1, r6.2.2.2.2.2)))) else zb (q_X7_isNext (u.1, u.2.1, u.2.2.1, u.2.2.2.1, u.2.2.2.2.1, u.2.2.2.2.2.1, r6.2.1, r6.2.2.1, r6.2.2.2.1, r6.2.2.2.2.1, r6.2.2.2.2.2) 59) fun r34 => (if r34.1 = 0 then some (Sum.inr (Sum.inr (Sum.inr (r34.2, r6.2.2.1, r6.2.2.2.1, r6.2.2.2.2.1, r6.2.2.2.2.2)))) else some (Sum.inl (r34.2, r6.2.2.1, r6.2.2.2.1, r6.2.2.2.2.1, r6.2.2.2.2.2)))))
noncomputable def q_X7_findError (u : tX7) : Option (Int32 × Int32 × Int32 × Int32 × Int32 × Int32) :=
  zb (zl 1000000 (q_X7_findError_L5 u) (0, u.2.2.2.2.2.2.2.1, u.2.2.2.2.2.2.2.2.1, u.2.2.2.2.2.2.2.2.2.1, u.2.2.2.2.2.2.2.2.2.2)) (zm (fun e5_0 => some (e5_0.1, e5_0.1, e5_0.2.1, e5_0.2.2.1, e5_0.2.2.2.1, e5_0.2.2.2.2)) (zm (fun e5_1 => some ((-6), e5_1.1, e5_1.2.1, e5_1.2.2.1, e5_1.2.2.2.1, e5_1.2.2.2.2)) (fun e5_2 => some (e5_2.1, e5_2.1, e5_2.2.1, e5_2.2.2.1, e5_2.2.2.2.1, e5_2.2.2.2.2))))
set_option maxRecDepth 100000 in
set_option maxHeartbeats 4000000 in
theorem c_X7_findError (l : Launch) (D : va_G) (G : zG) (ad : Nat → Nat) (b : Nat) (u : tX7) (res : Int32 × Int32 × Int32 × Int32 × Int32 × Int32) (hf : q_X7_findError u = some res) : zMi l yX7_findError cX7_findError 1 (some .int) 5 110 D G (wX7 G ad b u) (wX7 G ad b (u.1, u.2.1, u.2.2.1, u.2.2.2.1, u.2.2.2.2.1, u.2.2.2.2.2.1, res.2.1, res.2.2.1, res.2.2.2.1, res.2.2.2.2.1, res.2.2.2.2.2)) [.ref (ad b)] res.1 := by
  refine zs_i (plainFor_of_name (by decide)) (Nat.le_of_ble_eq_true rfl) ?_
  intro p e s m args below meth c A Q H ls C0 hret hP hD hS hl
  obtain ⟨hx, hb, hml, hown, hW, hK, hlocks, hF, hr, hA⟩ := id C0
  replace hl : lv_has ls 1 [(0, .ref (ad b))] := hl
  unfold q_X7_findError at hf
  refine lv_aload_n hx hb dX7_findError_0 rfl (lv_at hl 0 rfl) ?_
  refine lv_iconst (v := 0) hx hb dX7_findError_1 (by decide) ?_
  refine z_put (ws' := wX7 G ad b (u.1, u.2.1, u.2.2.1, u.2.2.2.1, u.2.2.2.2.1, u.2.2.2.2.2.1, 0, u.2.2.2.2.2.2.2.1, u.2.2.2.2.2.2.2.2.1, u.2.2.2.2.2.2.2.2.2.1, u.2.2.2.2.2.2.2.2.2.2)) (ci := 8) (C := RX7) (T := TX7) (N := 11) hx hb hW inlX7 tyX7 tyX7_ok nmX7 hown hK hP hD hS 0 rfl rfl 6 (by decide) (hW _ wd_1007) rfl rfl (Nat.le_of_ble_eq_true rfl) rfl dX7_findError_2 (fun H locs hP hD hS => ?_)
  replace hf := zb_s hf
  obtain ⟨b5, hz5, hk5⟩ := hf
  have L5 : ∀ (n5 : Nat) (v5 : Int32 × Int32 × Int32 × Int32 × Int32) (hz5 : zl n5 (q_X7_findError_L5 u) v5 = some b5) (H : Heap) (locs : List Loc) (hP : va_P D vwCl (wX7 G ad b (u.1, u.2.1, u.2.2.1, u.2.2.2.1, u.2.2.2.2.1, u.2.2.2.2.2.1, v5.1, v5.2.1, v5.2.2.1, v5.2.2.2.1, v5.2.2.2.2)) H) (hD : va_D A (wX7 G ad b (u.1, u.2.1, u.2.2.1, u.2.2.2.1, u.2.2.2.2.1, u.2.2.2.2.2.1, v5.1, v5.2.1, v5.2.2.1, v5.2.2.2.1, v5.2.2.2.2))) (hS : va_S A s.heap H locs) (ls : Array Slot) (hl : lv_has ls 1 [(0, .ref (ad b))]), W p l e (zRm 5 110) s m args below meth c H locs 0 0 Q (F0 m 5 ls []) := by
    intro n5
    induction n5 with
    | zero => intro v5 hz5; exact (zl_0 hz5).elim
    | succ n5 ih5 =>
      intro v5 hz5 H locs hP hD hS ls hl
      obtain ⟨o5, hf, hz5⟩ := zl_s hz5
      unfold q_X7_findError_L5 at hf
      refine lv_aload_n hx hb dX7_findError_5 rfl (lv_at hl 0 rfl) ?_
      replace hf := zb_s hf
      obtain ⟨r6, hr6, hf⟩ := hf
      refine z_Vi (rest := []) C0 kX7_237 (c_X7_readsCommand l D G ad (b) (u.1, u.2.1, u.2.2.1, u.2.2.2.1, u.2.2.2.2.1, u.2.2.2.2.2.1, v5.1, v5.2.1, v5.2.2.1, v5.2.2.2.1, v5.2.2.2.2) r6 hr6) z_pall z_pall.symm (ci := 8) (T := TX7) (N := 11) rfl rfl rfl ⟨Nat.le_of_ble_eq_true rfl, Nat.le_of_ble_eq_true rfl⟩ (Nat.le_of_ble_eq_true rfl) rfl hl.1 hP hD hS dX7_findError_6 (fun H locs hP hD hS => ?_)
      replace hP : va_P D vwCl (wX7 G ad b (u.1, u.2.1, u.2.2.1, u.2.2.2.1, u.2.2.2.2.1, u.2.2.2.2.2.1, r6.2.1, r6.2.2.1, r6.2.2.2.1, r6.2.2.2.2.1, r6.2.2.2.2.2)) H := hP
      replace hD : va_D A (wX7 G ad b (u.1, u.2.1, u.2.2.1, u.2.2.2.1, u.2.2.2.2.1, u.2.2.2.2.2.1, r6.2.1, r6.2.2.1, r6.2.2.2.1, r6.2.2.2.2.1, r6.2.2.2.2.2)) := hD
      refine lv_if_ne (tgt := 17) hx hb dX7_findError_9 (by decide) (fun c9 => ?_) (fun c9 => ?_)
      · replace hf := zi_n hf c9
        refine lv_aload_n hx hb dX7_findError_17 rfl (lv_at hl 0 rfl) ?_
        refine va_get (D := D) (ci := 8) (v := .int r6.2.1) (C := RX7) (T := TX7) (N := 11) hx hb hW inlX7 hown hK hP 0 rfl rfl 6 (by decide) (hW _ wd_1007) (fun _ h9 => h9) rfl dX7_findError_18 ?_
        refine lv_aload_n hx hb dX7_findError_21 rfl (lv_at hl 0 rfl) ?_
        refine va_get (D := D) (ci := 8) (v := .int u.2.2.2.2.2.1) (C := RX7) (T := TX7) (N := 11) hx hb hW inlX7 hown hK hP 0 rfl rfl 5 (by decide) (hW _ wd_921) (fun _ h9 => h9) rfl dX7_findError_22 ?_
        refine lv_icmp_ne (tgt := 31) hx hb dX7_findError_25 (by decide) (fun c25 => ?_) (fun c25 => ?_)
        · replace hf := zi_n hf c25
          refine lv_aload_n hx hb dX7_findError_31 rfl (lv_at hl 0 rfl) ?_
          refine lv_bipush (v := 59) hx hb dX7_findError_32 (by decide) ?_
          replace hf := zb_s hf
          obtain ⟨r34, hr34, hf⟩ := hf
          refine z_Vi (rest := []) C0 kX7_189 (c_X7_isNext l D G ad (b) (u.1, u.2.1, u.2.2.1, u.2.2.2.1, u.2.2.2.2.1, u.2.2.2.2.2.1, r6.2.1, r6.2.2.1, r6.2.2.2.1, r6.2.2.2.2.1, r6.2.2.2.2.2) 59 r34 hr34) z_pall z_pall.symm (ci := 8) (T := TX7) (N := 11) rfl rfl rfl ⟨Nat.le_of_ble_eq_true rfl, Nat.le_of_ble_eq_true rfl⟩ (Nat.le_of_ble_eq_true rfl) rfl hl.1 hP hD hS dX7_findError_34 (fun H locs hP hD hS => ?_)
          replace hP : va_P D vwCl (wX7 G ad b (u.1, u.2.1, u.2.2.1, u.2.2.2.1, u.2.2.2.2.1, u.2.2.2.2.2.1, r34.2, r6.2.2.1, r6.2.2.2.1, r6.2.2.2.2.1, r6.2.2.2.2.2)) H := hP
          replace hD : va_D A (wX7 G ad b (u.1, u.2.1, u.2.2.1, u.2.2.2.1, u.2.2.2.2.1, u.2.2.2.2.2.1, r34.2, r6.2.2.1, r6.2.2.2.1, r6.2.2.2.2.1, r6.2.2.2.2.2)) := hD
          refine lv_if_ne (tgt := 5) hx hb dX7_findError_37 (by decide) (fun c37 => ?_) (fun c37 => ?_)
          · replace hf := zi_n hf c37
            exact ih5 _ (zk_l hf hz5) _ _ hP hD hS _ (lv_sub hl [0] rfl)
          · replace hf := zi_p hf c37
            have hb5 := zk_r hf hz5
            subst hb5
            replace hf := (zm_r (zm_r hk5))
            refine lv_aload_n hx hb dX7_findError_40 rfl (lv_at hl 0 rfl) ?_
            refine va_get (D := D) (ci := 8) (v := .int r34.2) (C := RX7) (T := TX7) (N := 11) hx hb hW inlX7 hown hK hP 0 rfl rfl 6 (by decide) (hW _ wd_1007) (fun _ h9 => h9) rfl dX7_findError_41 ?_
            obtain rfl := zo hf
            exact hret _ _ _ _ _ hP hD hS rfl dX7_findError_44
        · replace hf := zi_p hf c25
          have hb5 := zk_r hf hz5
          subst hb5
          replace hf := (zm_l (zm_r hk5))
          refine lv_bipush (v := (-6)) hx hb dX7_findError_28 (by decide) ?_
          obtain rfl := zo hf
          exact hret _ _ _ _ _ hP hD hS rfl dX7_findError_30
      · replace hf := zi_p hf c9
        have hb5 := zk_r hf hz5
        subst hb5
        replace hf := (zm_l hk5)
        refine lv_aload_n hx hb dX7_findError_12 rfl (lv_at hl 0 rfl) ?_
        refine va_get (D := D) (ci := 8) (v := .int r6.2.1) (C := RX7) (T := TX7) (N := 11) hx hb hW inlX7 hown hK hP 0 rfl rfl 6 (by decide) (hW _ wd_1007) (fun _ h9 => h9) rfl dX7_findError_13 ?_
        obtain rfl := zo hf
        exact hret _ _ _ _ _ hP hD hS rfl dX7_findError_16
  exact L5 _ _ hz5 _ _ hP hD hS _ (lv_sub hl [0] rfl)
theorem kX7_156 : zLkV RX7 156 yX7_whyNotQuiet cX7_whyNotQuiet 2 (some .int) 1 := ⟨⟨wd_429, wd_430, wd_431, wd_5, wd_432⟩, by decide +kernel⟩
theorem kX7_150 : zLkV RX7 150 yX7_whyNotRead cX7_whyNotRead 3 (some .int) 2 := ⟨⟨wd_349, wd_350, wd_351, wd_5, wd_352⟩, by decide +kernel⟩
theorem kX7_131 : zLkV RX7 131 yX7_whyNotSpot cX7_whyNotSpot 3 (some .int) 2 := ⟨⟨wd_247, wd_248, wd_249, wd_5, wd_250⟩, by decide +kernel⟩
noncomputable def q_X7_whyNotDone (u : tX7) : Option (Int32) :=
  (if u.2.2.2.2.2.2.2.1 = 97 then zb (q_X7_whyNotAsked u u.2.2.2.2.2.2.2.2.1) fun r75 => some (r75) else if u.2.2.2.2.2.2.2.1 = 113 then zb (q_X7_whyNotQuiet u u.2.2.2.2.2.2.2.2.2.1) fun r66 => some (r66) else if u.2.2.2.2.2.2.2.1 = 114 then zb (q_X7_whyNotRead u u.2.2.2.2.2.2.2.2.1 u.2.2.2.2.2.2.2.2.2.1) fun r57 => some (r57) else if u.2.2.2.2.2.2.2.1 = 115 then zb (q_X7_whyNotSpot u u.2.2.2.2.2.2.2.2.1 u.2.2.2.2.2.2.2.2.2.1) fun r88 => some (r88) else some (0))
set_option maxRecDepth 100000 in
set_option maxHeartbeats 4000000 in
theorem c_X7_whyNotDone (l : Launch) (D : va_G) (G : zG) (ad : Nat → Nat) (b : Nat) (u : tX7) (res : Int32) (hf : q_X7_whyNotDone u = some res) : zMi l yX7_whyNotDone cX7_whyNotDone 1 (some .int) 3 64 D G (wX7 G ad b u) (wX7 G ad b u) [.ref (ad b)] res := by
  refine zs_i (plainFor_of_name (by decide)) (Nat.le_of_ble_eq_true rfl) ?_
  intro p e s m args below meth c A Q H ls C0 hret hP hD hS hl
  obtain ⟨hx, hb, hml, hown, hW, hK, hlocks, hF, hr, hA⟩ := id C0
  replace hl : lv_has ls 1 [(0, .ref (ad b))] := hl
  unfold q_X7_whyNotDone at hf
  refine lv_aload_n hx hb dX7_whyNotDone_0 rfl (lv_at hl 0 rfl) ?_
  refine va_get (D := D) (ci := 8) (v := .int u.2.2.2.2.2.2.2.1) (C := RX7) (T := TX7) (N := 11) hx hb hW inlX7 hown hK hP 0 rfl rfl 7 (by decide) (hW _ wd_1012) (fun _ h9 => h9) rfl dX7_whyNotDone_1 ?_
  refine z_by (c := u.2.2.2.2.2.2.2.1 = 97) (fun c4_0 => ?_) (fun n4_0 => ?_)
  · replace hf := zi_p hf c4_0
    refine lv_lookup (tgt := 70) (off := 66) hx hb dX7_whyNotDone_4 (by decide) (by rw [c4_0]; decide) (by decide) ?_
    refine lv_aload_n hx hb dX7_whyNotDone_70 rfl (lv_at hl 0 rfl) ?_
    refine lv_aload_n hx hb dX7_whyNotDone_71 rfl (lv_at hl 0 rfl) ?_
    refine va_get (D := D) (ci := 8) (v := .int u.2.2.2.2.2.2.2.2.1) (C := RX7) (T := TX7) (N := 11) hx hb hW inlX7 hown hK hP 0 rfl rfl 8 (by decide) (hW _ wd_1036) (fun _ h9 => h9) rfl dX7_whyNotDone_72 ?_
    replace hf := zb_s hf
    obtain ⟨r75, hr75, hf⟩ := hf
    refine z_Vi (rest := []) C0 kX7_140 (c_X7_whyNotAsked l D G ad (b) u u.2.2.2.2.2.2.2.2.1 r75 hr75) z_pall z_pall.symm (ci := 8) (T := TX7) (N := 11) rfl rfl rfl ⟨Nat.le_of_ble_eq_true rfl, Nat.le_of_ble_eq_true rfl⟩ (Nat.le_of_ble_eq_true rfl) rfl hl.1 hP hD hS dX7_whyNotDone_75 (fun H locs hP hD hS => ?_)
    obtain rfl := zo hf
    exact hret _ _ _ _ _ hP hD hS rfl dX7_whyNotDone_78
  · replace hf := zi_n hf n4_0
    refine z_by (c := u.2.2.2.2.2.2.2.1 = 113) (fun c4_1 => ?_) (fun n4_1 => ?_)
    · replace hf := zi_p hf c4_1
      refine lv_lookup (tgt := 61) (off := 57) hx hb dX7_whyNotDone_4 (by decide) (by rw [c4_1]; decide) (by decide) ?_
      refine lv_aload_n hx hb dX7_whyNotDone_61 rfl (lv_at hl 0 rfl) ?_
      refine lv_aload_n hx hb dX7_whyNotDone_62 rfl (lv_at hl 0 rfl) ?_
      refine va_get (D := D) (ci := 8) (v := .int u.2.2.2.2.2.2.2.2.2.1) (C := RX7) (T := TX7) (N := 11) hx hb hW inlX7 hown hK hP 0 rfl rfl 9 (by decide) (hW _ wd_1015) (fun _ h9 => h9) rfl dX7_whyNotDone_63 ?_
      replace hf := zb_s hf
      obtain ⟨r66, hr66, hf⟩ := hf
      refine z_Vi (rest := []) C0 kX7_156 (c_X7_whyNotQuiet l D G ad (b) u u.2.2.2.2.2.2.2.2.2.1 r66 hr66) z_pall z_pall.symm (ci := 8) (T := TX7) (N := 11) rfl rfl rfl ⟨Nat.le_of_ble_eq_true rfl, Nat.le_of_ble_eq_true rfl⟩ (Nat.le_of_ble_eq_true rfl) rfl hl.1 hP hD hS dX7_whyNotDone_66 (fun H locs hP hD hS => ?_)
      obtain rfl := zo hf
      exact hret _ _ _ _ _ hP hD hS rfl dX7_whyNotDone_69
    · replace hf := zi_n hf n4_1
      refine z_by (c := u.2.2.2.2.2.2.2.1 = 114) (fun c4_2 => ?_) (fun n4_2 => ?_)
      · replace hf := zi_p hf c4_2
        refine lv_lookup (tgt := 48) (off := 44) hx hb dX7_whyNotDone_4 (by decide) (by rw [c4_2]; decide) (by decide) ?_
        refine lv_aload_n hx hb dX7_whyNotDone_48 rfl (lv_at hl 0 rfl) ?_
        refine lv_aload_n hx hb dX7_whyNotDone_49 rfl (lv_at hl 0 rfl) ?_
        refine va_get (D := D) (ci := 8) (v := .int u.2.2.2.2.2.2.2.2.1) (C := RX7) (T := TX7) (N := 11) hx hb hW inlX7 hown hK hP 0 rfl rfl 8 (by decide) (hW _ wd_1036) (fun _ h9 => h9) rfl dX7_whyNotDone_50 ?_
        refine lv_aload_n hx hb dX7_whyNotDone_53 rfl (lv_at hl 0 rfl) ?_
        refine va_get (D := D) (ci := 8) (v := .int u.2.2.2.2.2.2.2.2.2.1) (C := RX7) (T := TX7) (N := 11) hx hb hW inlX7 hown hK hP 0 rfl rfl 9 (by decide) (hW _ wd_1015) (fun _ h9 => h9) rfl dX7_whyNotDone_54 ?_
        replace hf := zb_s hf
        obtain ⟨r57, hr57, hf⟩ := hf
        refine z_Vi (rest := []) C0 kX7_150 (c_X7_whyNotRead l D G ad (b) u u.2.2.2.2.2.2.2.2.1 u.2.2.2.2.2.2.2.2.2.1 r57 hr57) z_pall z_pall.symm (ci := 8) (T := TX7) (N := 11) rfl rfl rfl ⟨Nat.le_of_ble_eq_true rfl, Nat.le_of_ble_eq_true rfl⟩ (Nat.le_of_ble_eq_true rfl) rfl hl.1 hP hD hS dX7_whyNotDone_57 (fun H locs hP hD hS => ?_)
        obtain rfl := zo hf
        exact hret _ _ _ _ _ hP hD hS rfl dX7_whyNotDone_60
      · replace hf := zi_n hf n4_2
        refine z_by (c := u.2.2.2.2.2.2.2.1 = 115) (fun c4_3 => ?_) (fun n4_3 => ?_)
        · replace hf := zi_p hf c4_3
          refine lv_lookup (tgt := 79) (off := 75) hx hb dX7_whyNotDone_4 (by decide) (by rw [c4_3]; decide) (by decide) ?_
          refine lv_aload_n hx hb dX7_whyNotDone_79 rfl (lv_at hl 0 rfl) ?_
          refine lv_aload_n hx hb dX7_whyNotDone_80 rfl (lv_at hl 0 rfl) ?_
          refine va_get (D := D) (ci := 8) (v := .int u.2.2.2.2.2.2.2.2.1) (C := RX7) (T := TX7) (N := 11) hx hb hW inlX7 hown hK hP 0 rfl rfl 8 (by decide) (hW _ wd_1036) (fun _ h9 => h9) rfl dX7_whyNotDone_81 ?_
          refine lv_aload_n hx hb dX7_whyNotDone_84 rfl (lv_at hl 0 rfl) ?_
          refine va_get (D := D) (ci := 8) (v := .int u.2.2.2.2.2.2.2.2.2.1) (C := RX7) (T := TX7) (N := 11) hx hb hW inlX7 hown hK hP 0 rfl rfl 9 (by decide) (hW _ wd_1015) (fun _ h9 => h9) rfl dX7_whyNotDone_85 ?_
          replace hf := zb_s hf
          obtain ⟨r88, hr88, hf⟩ := hf
          refine z_Vi (rest := []) C0 kX7_131 (c_X7_whyNotSpot l D G ad (b) u u.2.2.2.2.2.2.2.2.1 u.2.2.2.2.2.2.2.2.2.1 r88 hr88) z_pall z_pall.symm (ci := 8) (T := TX7) (N := 11) rfl rfl rfl ⟨Nat.le_of_ble_eq_true rfl, Nat.le_of_ble_eq_true rfl⟩ (Nat.le_of_ble_eq_true rfl) rfl hl.1 hP hD hS dX7_whyNotDone_88 (fun H locs hP hD hS => ?_)
          obtain rfl := zo hf
          exact hret _ _ _ _ _ hP hD hS rfl dX7_whyNotDone_91
        · replace hf := zi_n hf n4_3
          refine lv_lookup (tgt := 92) (off := 88) hx hb dX7_whyNotDone_4 (by decide) ((lv_osw n4_0 rfl).trans ((lv_osw n4_1 rfl).trans ((lv_osw n4_2 rfl).trans ((lv_osw n4_3 rfl).trans (rfl))))) (by decide) ?_
          refine lv_iconst (v := 0) hx hb dX7_whyNotDone_92 (by decide) ?_
          obtain rfl := zo hf
          exact hret _ _ _ _ _ hP hD hS rfl dX7_whyNotDone_93
theorem kX7_159 : zLkV RX7 159 yX7_passes cX7_passes 4 (some .int) 1 := ⟨⟨wd_433, wd_434, wd_435, wd_5, wd_436⟩, by decide +kernel⟩
theorem kX7_153 : zLkV RX7 153 yX7_reads cX7_reads 3 (some .int) 2 := ⟨⟨wd_354, wd_355, wd_356, wd_5, wd_357⟩, by decide +kernel⟩
theorem kX7_134 : zLkV RX7 134 yX7_adds cX7_adds 3 (some .int) 2 := ⟨⟨wd_254, wd_255, wd_256, wd_5, wd_257⟩, by decide +kernel⟩
noncomputable def q_X7_does (u : tX7) : Option ((Nat → Int32)) :=
  (if u.2.2.2.2.2.2.2.1 = 97 then zb (q_X7_asks u u.2.2.2.2.2.2.2.2.1) fun r81 => some (r81.2) else if u.2.2.2.2.2.2.2.1 = 113 then zb (q_X7_passes u u.2.2.2.2.2.2.2.2.2.1) fun r69 => some (r69.2) else if u.2.2.2.2.2.2.2.1 = 114 then zb (q_X7_reads u u.2.2.2.2.2.2.2.2.1 u.2.2.2.2.2.2.2.2.2.1) fun r57 => some (r57.2) else if u.2.2.2.2.2.2.2.1 = 115 then zb (q_X7_adds u u.2.2.2.2.2.2.2.2.1 u.2.2.2.2.2.2.2.2.2.1) fun r97 => some (r97.2) else zn (upd u.1 4 u.2.2.2.2.2.2.2.2.2.1) fun s113 => some (s113))
set_option maxRecDepth 100000 in
set_option maxHeartbeats 4000000 in
theorem c_X7_does (l : Launch) (D : va_G) (G : zG) (ad : Nat → Nat) (b : Nat) (u : tX7) (res : (Nat → Int32)) (hf : q_X7_does u = some res) : zMv l yX7_does cX7_does 1 none 7 156 D G (wX7 G ad b u) (wX7 G ad b (res, u.2.1, u.2.2.1, u.2.2.2.1, u.2.2.2.2.1, u.2.2.2.2.2.1, u.2.2.2.2.2.2.1, u.2.2.2.2.2.2.2.1, u.2.2.2.2.2.2.2.2.1, u.2.2.2.2.2.2.2.2.2.1, u.2.2.2.2.2.2.2.2.2.2)) [.ref (ad b)] := by
  refine zs_v (plainFor_of_name (by decide)) (Nat.le_of_ble_eq_true rfl) ?_
  intro p e s m args below meth c A Q H ls C0 hret hP hD hS hl
  obtain ⟨hx, hb, hml, hown, hW, hK, hlocks, hF, hr, hA⟩ := id C0
  replace hl : lv_has ls 1 [(0, .ref (ad b))] := hl
  unfold q_X7_does at hf
  refine lv_aload_n hx hb dX7_does_0 rfl (lv_at hl 0 rfl) ?_
  refine va_get (D := D) (ci := 8) (v := .int u.2.2.2.2.2.2.2.1) (C := RX7) (T := TX7) (N := 11) hx hb hW inlX7 hown hK hP 0 rfl rfl 7 (by decide) (hW _ wd_1012) (fun _ h9 => h9) rfl dX7_does_1 ?_
  refine z_by (c := u.2.2.2.2.2.2.2.1 = 97) (fun c4_0 => ?_) (fun n4_0 => ?_)
  · replace hf := zi_p hf c4_0
    refine lv_lookup (tgt := 76) (off := 72) hx hb dX7_does_4 (by decide) (by rw [c4_0]; decide) (by decide) ?_
    refine lv_aload_n hx hb dX7_does_76 rfl (lv_at hl 0 rfl) ?_
    refine lv_aload_n hx hb dX7_does_77 rfl (lv_at hl 0 rfl) ?_
    refine va_get (D := D) (ci := 8) (v := .int u.2.2.2.2.2.2.2.2.1) (C := RX7) (T := TX7) (N := 11) hx hb hW inlX7 hown hK hP 0 rfl rfl 8 (by decide) (hW _ wd_1036) (fun _ h9 => h9) rfl dX7_does_78 ?_
    replace hf := zb_s hf
    obtain ⟨r81, hr81, hf⟩ := hf
    refine z_Vi (rest := []) C0 kX7_143 (c_X7_asks l D G ad (b) u u.2.2.2.2.2.2.2.2.1 r81 hr81) z_pall z_pall.symm (ci := 8) (T := TX7) (N := 11) rfl rfl rfl ⟨Nat.le_of_ble_eq_true rfl, Nat.le_of_ble_eq_true rfl⟩ (Nat.le_of_ble_eq_true rfl) rfl hl.1 hP hD hS dX7_does_81 (fun H locs hP hD hS => ?_)
    replace hP : va_P D vwCl (wX7 G ad b (r81.2, u.2.1, u.2.2.1, u.2.2.2.1, u.2.2.2.2.1, u.2.2.2.2.2.1, u.2.2.2.2.2.2.1, u.2.2.2.2.2.2.2.1, u.2.2.2.2.2.2.2.2.1, u.2.2.2.2.2.2.2.2.2.1, u.2.2.2.2.2.2.2.2.2.2)) H := hP
    replace hD : va_D A (wX7 G ad b (r81.2, u.2.1, u.2.2.1, u.2.2.2.1, u.2.2.2.2.1, u.2.2.2.2.2.1, u.2.2.2.2.2.2.1, u.2.2.2.2.2.2.2.1, u.2.2.2.2.2.2.2.2.1, u.2.2.2.2.2.2.2.2.2.1, u.2.2.2.2.2.2.2.2.2.2)) := hD
    refine lv_pop hx hb dX7_does_84 rfl ?_
    refine lv_goto (tgt := 114) hx hb dX7_does_85 (by decide) ?_
    obtain rfl := zo hf
    exact hret _ _ _ _ hP hD hS dX7_does_114
  · replace hf := zi_n hf n4_0
    refine z_by (c := u.2.2.2.2.2.2.2.1 = 113) (fun c4_1 => ?_) (fun n4_1 => ?_)
    · replace hf := zi_p hf c4_1
      refine lv_lookup (tgt := 64) (off := 60) hx hb dX7_does_4 (by decide) (by rw [c4_1]; decide) (by decide) ?_
      refine lv_aload_n hx hb dX7_does_64 rfl (lv_at hl 0 rfl) ?_
      refine lv_aload_n hx hb dX7_does_65 rfl (lv_at hl 0 rfl) ?_
      refine va_get (D := D) (ci := 8) (v := .int u.2.2.2.2.2.2.2.2.2.1) (C := RX7) (T := TX7) (N := 11) hx hb hW inlX7 hown hK hP 0 rfl rfl 9 (by decide) (hW _ wd_1015) (fun _ h9 => h9) rfl dX7_does_66 ?_
      replace hf := zb_s hf
      obtain ⟨r69, hr69, hf⟩ := hf
      refine z_Vi (rest := []) C0 kX7_159 (c_X7_passes l D G ad (b) u u.2.2.2.2.2.2.2.2.2.1 r69 hr69) z_pall z_pall.symm (ci := 8) (T := TX7) (N := 11) rfl rfl rfl ⟨Nat.le_of_ble_eq_true rfl, Nat.le_of_ble_eq_true rfl⟩ (Nat.le_of_ble_eq_true rfl) rfl hl.1 hP hD hS dX7_does_69 (fun H locs hP hD hS => ?_)
      replace hP : va_P D vwCl (wX7 G ad b (r69.2, u.2.1, u.2.2.1, u.2.2.2.1, u.2.2.2.2.1, u.2.2.2.2.2.1, u.2.2.2.2.2.2.1, u.2.2.2.2.2.2.2.1, u.2.2.2.2.2.2.2.2.1, u.2.2.2.2.2.2.2.2.2.1, u.2.2.2.2.2.2.2.2.2.2)) H := hP
      replace hD : va_D A (wX7 G ad b (r69.2, u.2.1, u.2.2.1, u.2.2.2.1, u.2.2.2.2.1, u.2.2.2.2.2.1, u.2.2.2.2.2.2.1, u.2.2.2.2.2.2.2.1, u.2.2.2.2.2.2.2.2.1, u.2.2.2.2.2.2.2.2.2.1, u.2.2.2.2.2.2.2.2.2.2)) := hD
      refine lv_pop hx hb dX7_does_72 rfl ?_
      refine lv_goto (tgt := 114) hx hb dX7_does_73 (by decide) ?_
      obtain rfl := zo hf
      exact hret _ _ _ _ hP hD hS dX7_does_114
    · replace hf := zi_n hf n4_1
      refine z_by (c := u.2.2.2.2.2.2.2.1 = 114) (fun c4_2 => ?_) (fun n4_2 => ?_)
      · replace hf := zi_p hf c4_2
        refine lv_lookup (tgt := 48) (off := 44) hx hb dX7_does_4 (by decide) (by rw [c4_2]; decide) (by decide) ?_
        refine lv_aload_n hx hb dX7_does_48 rfl (lv_at hl 0 rfl) ?_
        refine lv_aload_n hx hb dX7_does_49 rfl (lv_at hl 0 rfl) ?_
        refine va_get (D := D) (ci := 8) (v := .int u.2.2.2.2.2.2.2.2.1) (C := RX7) (T := TX7) (N := 11) hx hb hW inlX7 hown hK hP 0 rfl rfl 8 (by decide) (hW _ wd_1036) (fun _ h9 => h9) rfl dX7_does_50 ?_
        refine lv_aload_n hx hb dX7_does_53 rfl (lv_at hl 0 rfl) ?_
        refine va_get (D := D) (ci := 8) (v := .int u.2.2.2.2.2.2.2.2.2.1) (C := RX7) (T := TX7) (N := 11) hx hb hW inlX7 hown hK hP 0 rfl rfl 9 (by decide) (hW _ wd_1015) (fun _ h9 => h9) rfl dX7_does_54 ?_
        replace hf := zb_s hf
        obtain ⟨r57, hr57, hf⟩ := hf
        refine z_Vi (rest := []) C0 kX7_153 (c_X7_reads l D G ad (b) u u.2.2.2.2.2.2.2.2.1 u.2.2.2.2.2.2.2.2.2.1 r57 hr57) z_pall z_pall.symm (ci := 8) (T := TX7) (N := 11) rfl rfl rfl ⟨Nat.le_of_ble_eq_true rfl, Nat.le_of_ble_eq_true rfl⟩ (Nat.le_of_ble_eq_true rfl) rfl hl.1 hP hD hS dX7_does_57 (fun H locs hP hD hS => ?_)
        replace hP : va_P D vwCl (wX7 G ad b (r57.2, u.2.1, u.2.2.1, u.2.2.2.1, u.2.2.2.2.1, u.2.2.2.2.2.1, u.2.2.2.2.2.2.1, u.2.2.2.2.2.2.2.1, u.2.2.2.2.2.2.2.2.1, u.2.2.2.2.2.2.2.2.2.1, u.2.2.2.2.2.2.2.2.2.2)) H := hP
        replace hD : va_D A (wX7 G ad b (r57.2, u.2.1, u.2.2.1, u.2.2.2.1, u.2.2.2.2.1, u.2.2.2.2.2.1, u.2.2.2.2.2.2.1, u.2.2.2.2.2.2.2.1, u.2.2.2.2.2.2.2.2.1, u.2.2.2.2.2.2.2.2.2.1, u.2.2.2.2.2.2.2.2.2.2)) := hD
        refine lv_pop hx hb dX7_does_60 rfl ?_
        refine lv_goto (tgt := 114) hx hb dX7_does_61 (by decide) ?_
        obtain rfl := zo hf
        exact hret _ _ _ _ hP hD hS dX7_does_114
      · replace hf := zi_n hf n4_2
        refine z_by (c := u.2.2.2.2.2.2.2.1 = 115) (fun c4_3 => ?_) (fun n4_3 => ?_)
        · replace hf := zi_p hf c4_3
          refine lv_lookup (tgt := 88) (off := 84) hx hb dX7_does_4 (by decide) (by rw [c4_3]; decide) (by decide) ?_
          refine lv_aload_n hx hb dX7_does_88 rfl (lv_at hl 0 rfl) ?_
          refine lv_aload_n hx hb dX7_does_89 rfl (lv_at hl 0 rfl) ?_
          refine va_get (D := D) (ci := 8) (v := .int u.2.2.2.2.2.2.2.2.1) (C := RX7) (T := TX7) (N := 11) hx hb hW inlX7 hown hK hP 0 rfl rfl 8 (by decide) (hW _ wd_1036) (fun _ h9 => h9) rfl dX7_does_90 ?_
          refine lv_aload_n hx hb dX7_does_93 rfl (lv_at hl 0 rfl) ?_
          refine va_get (D := D) (ci := 8) (v := .int u.2.2.2.2.2.2.2.2.2.1) (C := RX7) (T := TX7) (N := 11) hx hb hW inlX7 hown hK hP 0 rfl rfl 9 (by decide) (hW _ wd_1015) (fun _ h9 => h9) rfl dX7_does_94 ?_
          replace hf := zb_s hf
          obtain ⟨r97, hr97, hf⟩ := hf
          refine z_Vi (rest := []) C0 kX7_134 (c_X7_adds l D G ad (b) u u.2.2.2.2.2.2.2.2.1 u.2.2.2.2.2.2.2.2.2.1 r97 hr97) z_pall z_pall.symm (ci := 8) (T := TX7) (N := 11) rfl rfl rfl ⟨Nat.le_of_ble_eq_true rfl, Nat.le_of_ble_eq_true rfl⟩ (Nat.le_of_ble_eq_true rfl) rfl hl.1 hP hD hS dX7_does_97 (fun H locs hP hD hS => ?_)
          replace hP : va_P D vwCl (wX7 G ad b (r97.2, u.2.1, u.2.2.1, u.2.2.2.1, u.2.2.2.2.1, u.2.2.2.2.2.1, u.2.2.2.2.2.2.1, u.2.2.2.2.2.2.2.1, u.2.2.2.2.2.2.2.2.1, u.2.2.2.2.2.2.2.2.2.1, u.2.2.2.2.2.2.2.2.2.2)) H := hP
          replace hD : va_D A (wX7 G ad b (r97.2, u.2.1, u.2.2.1, u.2.2.2.1, u.2.2.2.2.1, u.2.2.2.2.2.1, u.2.2.2.2.2.2.1, u.2.2.2.2.2.2.2.1, u.2.2.2.2.2.2.2.2.1, u.2.2.2.2.2.2.2.2.2.1, u.2.2.2.2.2.2.2.2.2.2)) := hD
          refine lv_pop hx hb dX7_does_100 rfl ?_
          refine lv_goto (tgt := 114) hx hb dX7_does_101 (by decide) ?_
          obtain rfl := zo hf
          exact hret _ _ _ _ hP hD hS dX7_does_114
        · replace hf := zi_n hf n4_3
          refine lv_lookup (tgt := 104) (off := 100) hx hb dX7_does_4 (by decide) ((lv_osw n4_0 rfl).trans ((lv_osw n4_1 rfl).trans ((lv_osw n4_2 rfl).trans ((lv_osw n4_3 rfl).trans (rfl))))) (by decide) ?_
          refine lv_aload_n hx hb dX7_does_104 rfl (lv_at hl 0 rfl) ?_
          refine va_get (D := D) (ci := 8) (v := .ref (ad (b + 1))) (C := RX7) (T := TX7) (N := 11) hx hb hW inlX7 hown hK hP 0 rfl rfl 0 (by decide) (hW _ wd_127) (fun _ h9 => h9) rfl dX7_does_105 ?_
          refine lv_iconst (v := 4) hx hb dX7_does_108 (by decide) ?_
          refine lv_aload_n hx hb dX7_does_109 rfl (lv_at hl 0 rfl) ?_
          refine va_get (D := D) (ci := 8) (v := .int u.2.2.2.2.2.2.2.2.2.1) (C := RX7) (T := TX7) (N := 11) hx hb hW inlX7 hown hK hP 0 rfl rfl 9 (by decide) (hW _ wd_1015) (fun _ h9 => h9) rfl dX7_does_110 ?_
          replace hf := zn_s hf
          obtain ⟨s113, es113, hf⟩ := hf
          refine z_iast (ws' := wX7 G ad b (s113, u.2.1, u.2.2.1, u.2.2.2.1, u.2.2.2.2.1, u.2.2.2.2.2.1, u.2.2.2.2.2.2.1, u.2.2.2.2.2.2.2.1, u.2.2.2.2.2.2.2.2.1, u.2.2.2.2.2.2.2.2.2.1, u.2.2.2.2.2.2.2.2.2.2)) hx hb hK hP hD hS 1 0 rfl rfl (z_in rfl) es113 rfl dX7_does_113 (fun H locs hP hD hS => ?_)
          obtain rfl := zo hf
          exact hret _ _ _ _ hP hD hS dX7_does_114
