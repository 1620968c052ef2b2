noncomputable def q_X4_append (u : tX4) (p1 : Int32) : Option (Int32 × (Nat → Int32) × Int32) :=
  (if p1 < 32 then some ((-2), u.1, u.2.1) else (if p1 ≤ 126 then (if u.2.1 < 80 then zs 80 u.1 u.2.1 (vp_nar .char ((Int32.toUInt32 p1 % 65536).toInt32)) fun s37 => zn (u.2.1 + 1) fun k45 => some (k45, s37, k45) else some ((-4), u.1, u.2.1)) else some ((-2), u.1, u.2.1)))
set_option maxRecDepth 100000 in
set_option maxHeartbeats 4000000 in
theorem c_X4_append (l : Launch) (D : va_G) (G : zG) (ad : Nat → Nat) (b : Nat) (u : tX4) (p1 : Int32) (res : Int32 × (Nat → Int32) × Int32) (hf : q_X4_append u p1 = some res) : zMi l yX4_append cX4_append 2 (some .int) 0 0 D G (wX4 G ad b u) (wX4 G ad b (res.2.1, res.2.2, u.2.2.1, u.2.2.2.1, u.2.2.2.2.1, u.2.2.2.2.2.1, u.2.2.2.2.2.2.1, u.2.2.2.2.2.2.2)) [.ref (ad b), .int p1] res.1 := by
  refine zs_i (plainFor_of_name (by decide)) (Nat.le_of_ble_eq_true rfl) ?_
  intro p e s m args below meth c A Q H ls C0 hret hP hD hS hl
  obtain ⟨hx, hb, hml, hown, hW, hK, hlocks, hF, hr, hA⟩ := id C0
  replace hl : lv_has ls 2 [(0, .ref (ad b)), (1, .int p1)] := hl
  unfold q_X4_append at hf
  refine lv_iload_n hx hb dX4_append_0 rfl (lv_at hl 1 rfl) ?_
  refine lv_bipush (v := 32) hx hb dX4_append_1 (by decide) ?_
  refine lv_icmp_lt (tgt := 12) hx hb dX4_append_3 (by decide) (fun c3 => ?_) (fun c3 => ?_)
  · replace hf := zi_p hf c3
    refine lv_bipush (v := (-2)) hx hb dX4_append_12 (by decide) ?_
    obtain rfl := zo hf
    exact hret _ _ _ _ _ hP hD hS rfl dX4_append_14
  · replace hf := zi_n hf c3
    refine lv_iload_n hx hb dX4_append_6 rfl (lv_at hl 1 rfl) ?_
    refine lv_bipush (v := 126) hx hb dX4_append_7 (by decide) ?_
    refine lv_icmp_le (tgt := 15) hx hb dX4_append_9 (by decide) (fun c9 => ?_) (fun c9 => ?_)
    · replace hf := zi_p hf c9
      refine lv_aload_n hx hb dX4_append_15 rfl (lv_at hl 0 rfl) ?_
      refine va_get (D := D) (ci := 5) (v := .int u.2.1) (C := RX4) (T := TX4) (N := 8) hx hb hW inlX4 hown hK hP 0 rfl rfl 1 (by decide) (hW _ wd_96) (fun _ h9 => h9) rfl dX4_append_16 ?_
      refine lv_bipush (v := 80) hx hb dX4_append_19 (by decide) ?_
      refine lv_icmp_lt (tgt := 27) hx hb dX4_append_21 (by decide) (fun c21 => ?_) (fun c21 => ?_)
      · replace hf := zi_p hf c21
        refine lv_aload_n hx hb dX4_append_27 rfl (lv_at hl 0 rfl) ?_
        refine va_get (D := D) (ci := 5) (v := .ref (ad (b + 1))) (C := RX4) (T := TX4) (N := 8) hx hb hW inlX4 hown hK hP 0 rfl rfl 0 (by decide) (hW _ wd_95) (fun _ h9 => h9) rfl dX4_append_28 ?_
        refine lv_aload_n hx hb dX4_append_31 rfl (lv_at hl 0 rfl) ?_
        refine va_get (D := D) (ci := 5) (v := .int u.2.1) (C := RX4) (T := TX4) (N := 8) hx hb hW inlX4 hown hK hP 0 rfl rfl 1 (by decide) (hW _ wd_96) (fun _ h9 => h9) rfl dX4_append_32 ?_
        refine lv_iload_n hx hb dX4_append_35 rfl (lv_at hl 1 rfl) ?_
        refine lv_i2c (v := ((Int32.toUInt32 p1 % 65536).toInt32)) hx hb dX4_append_36 rfl ?_
        replace hf := zs_s hf
        obtain ⟨hi37, s37, es37, hf⟩ := hf
        refine z_cast (ws' := wX4 G ad b (s37, u.2.1, u.2.2.1, u.2.2.2.1, u.2.2.2.2.1, u.2.2.2.2.2.1, u.2.2.2.2.2.2.1, u.2.2.2.2.2.2.2)) hx hb hK hP hD hS 1 1 rfl rfl hi37 es37 rfl dX4_append_37 (fun H locs hP hD hS => ?_)
        refine lv_aload_n hx hb dX4_append_38 rfl (lv_at hl 0 rfl) ?_
        refine lv_dup hx hb dX4_append_39 rfl ?_
        refine va_get (D := D) (ci := 5) (v := .int u.2.1) (C := RX4) (T := TX4) (N := 8) hx hb hW inlX4 hown hK hP 0 rfl rfl 1 (by decide) (hW _ wd_96) (fun _ h9 => h9) rfl dX4_append_40 ?_
        refine lv_iconst (v := 1) hx hb dX4_append_43 (by decide) ?_
        refine lv_iadd hx hb dX4_append_44 ?_
        replace hf := zn_s hf
        obtain ⟨k45, ek45, hf⟩ := hf
        refine z_top ek45 ?_
        refine z_put (ws' := wX4 G ad b (s37, k45, u.2.2.1, u.2.2.2.1, u.2.2.2.2.1, u.2.2.2.2.2.1, u.2.2.2.2.2.2.1, u.2.2.2.2.2.2.2)) (ci := 5) (C := RX4) (T := TX4) (N := 8) hx hb hW inlX4 tyX4 tyX4_ok nmX4 hown hK hP hD hS 0 rfl rfl 1 (by decide) (hW _ wd_96) rfl rfl (Nat.le_of_ble_eq_true rfl) rfl dX4_append_45 (fun H locs hP hD hS => ?_)
        refine lv_aload_n hx hb dX4_append_48 rfl (lv_at hl 0 rfl) ?_
        refine va_get (D := D) (ci := 5) (v := .int k45) (C := RX4) (T := TX4) (N := 8) hx hb hW inlX4 hown hK hP 0 rfl rfl 1 (by decide) (hW _ wd_96) (fun _ h9 => h9) rfl dX4_append_49 ?_
        obtain rfl := zo hf
        exact hret _ _ _ _ _ hP hD hS rfl dX4_append_52
      · replace hf := zi_n hf c21
        refine lv_bipush (v := (-4)) hx hb dX4_append_24 (by decide) ?_
        obtain rfl := zo hf
        exact hret _ _ _ _ _ hP hD hS rfl dX4_append_26
    · replace hf := zi_n hf c9
      refine lv_bipush (v := (-2)) hx hb dX4_append_12 (by decide) ?_
      obtain rfl := zo hf
      exact hret _ _ _ _ _ hP hD hS rfl dX4_append_14
noncomputable def q_X4_clear (u : tX4) : Option (Int32 × Int32) :=
  some (u.2.1, 0)
set_option maxRecDepth 100000 in
set_option maxHeartbeats 4000000 in
theorem c_X4_clear (l : Launch) (D : va_G) (G : zG) (ad : Nat → Nat) (b : Nat) (u : tX4) (res : Int32 × Int32) (hf : q_X4_clear u = some res) : zMi l yX4_clear cX4_clear 2 (some .int) 0 0 D G (wX4 G ad b u) (wX4 G ad b (u.1, res.2, u.2.2.1, u.2.2.2.1, u.2.2.2.2.1, u.2.2.2.2.2.1, u.2.2.2.2.2.2.1, u.2.2.2.2.2.2.2)) [.ref (ad b)] res.1 := by
  refine zs_i (plainFor_of_name (by decide)) (Nat.le_of_ble_eq_true rfl) ?_
  intro p e s m args below meth c A Q H ls C0 hret hP hD hS hl
  obtain ⟨hx, hb, hml, hown, hW, hK, hlocks, hF, hr, hA⟩ := id C0
  replace hl : lv_has ls 2 [(0, .ref (ad b))] := hl
  unfold q_X4_clear at hf
  refine lv_aload_n hx hb dX4_clear_0 rfl (lv_at hl 0 rfl) ?_
  refine va_get (D := D) (ci := 5) (v := .int u.2.1) (C := RX4) (T := TX4) (N := 8) hx hb hW inlX4 hown hK hP 0 rfl rfl 1 (by decide) (hW _ wd_96) (fun _ h9 => h9) rfl dX4_clear_1 ?_
  refine lv_istore_n (lv' := [(1, .int u.2.1), (0, .ref (ad b))]) hx hb dX4_clear_4 rfl hl (by decide) rfl (fun ls hl => ?_)
  refine lv_aload_n hx hb dX4_clear_5 rfl (lv_at hl 1 rfl) ?_
  refine lv_iconst (v := 0) hx hb dX4_clear_6 (by decide) ?_
  refine z_put (ws' := wX4 G ad b (u.1, 0, u.2.2.1, u.2.2.2.1, u.2.2.2.2.1, u.2.2.2.2.2.1, u.2.2.2.2.2.2.1, u.2.2.2.2.2.2.2)) (ci := 5) (C := RX4) (T := TX4) (N := 8) hx hb hW inlX4 tyX4 tyX4_ok nmX4 hown hK hP hD hS 0 rfl rfl 1 (by decide) (hW _ wd_96) rfl rfl (Nat.le_of_ble_eq_true rfl) rfl dX4_clear_7 (fun H locs hP hD hS => ?_)
  refine lv_iload_n hx hb dX4_clear_10 rfl (lv_at hl 0 rfl) ?_
  obtain rfl := zo hf
  exact hret _ _ _ _ _ hP hD hS rfl dX4_clear_11
noncomputable def q_X4_note (u : tX4) (p1 : Int32) (p2 : Int32) : Option (Int32 × (Nat → Int32) × (Nat → Int32)) :=
  (if p1 < 0 then some (1, u.2.2.2.1, u.2.2.2.2.1) else (if 16 ≤ p1 then some (1, u.2.2.2.1, u.2.2.2.2.1) else zs 16 u.2.2.2.1 p1 p2 fun s16 => zs 16 u.2.2.2.2.1 p1 u.2.2.2.2.2.2.2 fun s26 => some (1, s16, s26)))
set_option maxRecDepth 100000 in
set_option maxHeartbeats 4000000 in
theorem c_X4_note (l : Launch) (D : va_G) (G : zG) (ad : Nat → Nat) (b : Nat) (u : tX4) (p1 : Int32) (p2 : Int32) (res : Int32 × (Nat → Int32) × (Nat → Int32)) (hf : q_X4_note u p1 p2 = some res) : zMi l yX4_note cX4_note 3 (some .boolean) 0 0 D G (wX4 G ad b u) (wX4 G ad b (u.1, u.2.1, u.2.2.1, res.2.1, res.2.2, u.2.2.2.2.2.1, u.2.2.2.2.2.2.1, u.2.2.2.2.2.2.2)) [.ref (ad b), .int p1, .int p2] res.1 := by
  refine zs_z (plainFor_of_name (by decide)) (Nat.le_of_ble_eq_true rfl) ?_
  intro p e s m args below meth c A Q H ls C0 hret hP hD hS hl
  obtain ⟨hx, hb, hml, hown, hW, hK, hlocks, hF, hr, hA⟩ := id C0
  replace hl : lv_has ls 3 [(0, .ref (ad b)), (1, .int p1), (2, .int p2)] := hl
  unfold q_X4_note at hf
  refine lv_iload_n hx hb dX4_note_0 rfl (lv_at hl 1 rfl) ?_
  refine lv_if_lt (tgt := 27) hx hb dX4_note_1 (by decide) (fun c1 => ?_) (fun c1 => ?_)
  · replace hf := zi_p hf c1
    refine lv_iconst (v := 1) hx hb dX4_note_27 (by decide) ?_
    obtain rfl := zo hf
    exact hret _ _ _ _ _ hP hD hS rfl rfl dX4_note_28
  · replace hf := zi_n hf c1
    refine lv_iload_n hx hb dX4_note_4 rfl (lv_at hl 1 rfl) ?_
    refine lv_bipush (v := 16) hx hb dX4_note_5 (by decide) ?_
    refine lv_icmp_ge (tgt := 27) hx hb dX4_note_7 (by decide) (fun c7 => ?_) (fun c7 => ?_)
    · replace hf := zi_p hf c7
      refine lv_iconst (v := 1) hx hb dX4_note_27 (by decide) ?_
      obtain rfl := zo hf
      exact hret _ _ _ _ _ hP hD hS rfl rfl dX4_note_28
    · replace hf := zi_n hf c7
      refine lv_aload_n hx hb dX4_note_10 rfl (lv_at hl 0 rfl) ?_
      refine va_get (D := D) (ci := 5) (v := .ref (ad (b + 2))) (C := RX4) (T := TX4) (N := 8) hx hb hW inlX4 hown hK hP 0 rfl rfl 3 (by decide) (hW _ wd_98) (fun _ h9 => h9) rfl dX4_note_11 ?_
      refine lv_iload_n hx hb dX4_note_14 rfl (lv_at hl 1 rfl) ?_
      refine lv_iload_n hx hb dX4_note_15 rfl (lv_at hl 2 rfl) ?_
      replace hf := zs_s hf
      obtain ⟨hi16, s16, es16, hf⟩ := hf
      refine z_iast (ws' := wX4 G ad b (u.1, u.2.1, u.2.2.1, s16, u.2.2.2.2.1, u.2.2.2.2.2.1, u.2.2.2.2.2.2.1, u.2.2.2.2.2.2.2)) hx hb hK hP hD hS 2 0 rfl rfl hi16 es16 rfl dX4_note_16 (fun H locs hP hD hS => ?_)
      refine lv_aload_n hx hb dX4_note_17 rfl (lv_at hl 0 rfl) ?_
      refine va_get (D := D) (ci := 5) (v := .ref (ad (b + 3))) (C := RX4) (T := TX4) (N := 8) hx hb hW inlX4 hown hK hP 0 rfl rfl 4 (by decide) (hW _ wd_99) (fun _ h9 => h9) rfl dX4_note_18 ?_
      refine lv_iload_n hx hb dX4_note_21 rfl (lv_at hl 1 rfl) ?_
      refine lv_aload_n hx hb dX4_note_22 rfl (lv_at hl 0 rfl) ?_
      refine va_get (D := D) (ci := 5) (v := .int u.2.2.2.2.2.2.2) (C := RX4) (T := TX4) (N := 8) hx hb hW inlX4 hown hK hP 0 rfl rfl 7 (by decide) (hW _ wd_102) (fun _ h9 => h9) rfl dX4_note_23 ?_
      replace hf := zs_s hf
      obtain ⟨hi26, s26, es26, hf⟩ := hf
      refine z_iast (ws' := wX4 G ad b (u.1, u.2.1, u.2.2.1, s16, s26, u.2.2.2.2.2.1, u.2.2.2.2.2.2.1, u.2.2.2.2.2.2.2)) hx hb hK hP hD hS 3 0 rfl rfl hi26 es26 rfl dX4_note_26 (fun H locs hP hD hS => ?_)
      refine lv_iconst (v := 1) hx hb dX4_note_27 (by decide) ?_
      obtain rfl := zo hf
      exact hret _ _ _ _ _ hP hD hS rfl rfl dX4_note_28
noncomputable def q_X4_noteSecond (u : tX4) (p1 : Int32) : Option (Int32 × (Nat → Int32)) :=
  (if p1 < 0 then some (1, u.2.2.2.2.2.1) else (if 16 ≤ p1 then some (1, u.2.2.2.2.2.1) else zs 16 u.2.2.2.2.2.1 p1 u.2.2.2.2.2.2.2 fun s19 => some (1, s19)))
set_option maxRecDepth 100000 in
set_option maxHeartbeats 4000000 in
theorem c_X4_noteSecond (l : Launch) (D : va_G) (G : zG) (ad : Nat → Nat) (b : Nat) (u : tX4) (p1 : Int32) (res : Int32 × (Nat → Int32)) (hf : q_X4_noteSecond u p1 = some res) : zMi l yX4_noteSecond cX4_noteSecond 2 (some .boolean) 0 0 D G (wX4 G ad b u) (wX4 G ad b (u.1, u.2.1, u.2.2.1, u.2.2.2.1, u.2.2.2.2.1, res.2, u.2.2.2.2.2.2.1, u.2.2.2.2.2.2.2)) [.ref (ad b), .int p1] res.1 := by
  refine zs_z (plainFor_of_name (by decide)) (Nat.le_of_ble_eq_true rfl) ?_
  intro p e s m args below meth c A Q H ls C0 hret hP hD hS hl
  obtain ⟨hx, hb, hml, hown, hW, hK, hlocks, hF, hr, hA⟩ := id C0
  replace hl : lv_has ls 2 [(0, .ref (ad b)), (1, .int p1)] := hl
  unfold q_X4_noteSecond at hf
  refine lv_iload_n hx hb dX4_noteSecond_0 rfl (lv_at hl 1 rfl) ?_
  refine lv_if_lt (tgt := 20) hx hb dX4_noteSecond_1 (by decide) (fun c1 => ?_) (fun c1 => ?_)
  · replace hf := zi_p hf c1
    refine lv_iconst (v := 1) hx hb dX4_noteSecond_20 (by decide) ?_
    obtain rfl := zo hf
    exact hret _ _ _ _ _ hP hD hS rfl rfl dX4_noteSecond_21
  · replace hf := zi_n hf c1
    refine lv_iload_n hx hb dX4_noteSecond_4 rfl (lv_at hl 1 rfl) ?_
    refine lv_bipush (v := 16) hx hb dX4_noteSecond_5 (by decide) ?_
    refine lv_icmp_ge (tgt := 20) hx hb dX4_noteSecond_7 (by decide) (fun c7 => ?_) (fun c7 => ?_)
    · replace hf := zi_p hf c7
      refine lv_iconst (v := 1) hx hb dX4_noteSecond_20 (by decide) ?_
      obtain rfl := zo hf
      exact hret _ _ _ _ _ hP hD hS rfl rfl dX4_noteSecond_21
    · replace hf := zi_n hf c7
      refine lv_aload_n hx hb dX4_noteSecond_10 rfl (lv_at hl 0 rfl) ?_
      refine va_get (D := D) (ci := 5) (v := .ref (ad (b + 4))) (C := RX4) (T := TX4) (N := 8) hx hb hW inlX4 hown hK hP 0 rfl rfl 5 (by decide) (hW _ wd_100) (fun _ h9 => h9) rfl dX4_noteSecond_11 ?_
      refine lv_iload_n hx hb dX4_noteSecond_14 rfl (lv_at hl 1 rfl) ?_
      refine lv_aload_n hx hb dX4_noteSecond_15 rfl (lv_at hl 0 rfl) ?_
      refine va_get (D := D) (ci := 5) (v := .int u.2.2.2.2.2.2.2) (C := RX4) (T := TX4) (N := 8) hx hb hW inlX4 hown hK hP 0 rfl rfl 7 (by decide) (hW _ wd_102) (fun _ h9 => h9) rfl dX4_noteSecond_16 ?_
      replace hf := zs_s hf
      obtain ⟨hi19, s19, es19, hf⟩ := hf
      refine z_iast (ws' := wX4 G ad b (u.1, u.2.1, u.2.2.1, u.2.2.2.1, u.2.2.2.2.1, s19, u.2.2.2.2.2.2.1, u.2.2.2.2.2.2.2)) hx hb hK hP hD hS 4 0 rfl rfl hi19 es19 rfl dX4_noteSecond_19 (fun H locs hP hD hS => ?_)
      refine lv_iconst (v := 1) hx hb dX4_noteSecond_20 (by decide) ?_
      obtain rfl := zo hf
      exact hret _ _ _ _ _ hP hD hS rfl rfl dX4_noteSecond_21
noncomputable def q_X4_sign (u : tX4) : Option (Int32) :=
  (if u.2.2.1 < 0 then some (0) else (if u.2.1 ≤ u.2.2.1 then some (0) else zg 80 u.1 u.2.2.1 fun a26 => zq (0 ≤ a26 ∧ a26 < 65536) (some (a26))))
set_option maxRecDepth 100000 in
set_option maxHeartbeats 4000000 in
theorem c_X4_sign (l : Launch) (D : va_G) (G : zG) (ad : Nat → Nat) (b : Nat) (u : tX4) (res : Int32) (hf : q_X4_sign u = some res) : zMi l yX4_sign cX4_sign 1 (some .char) 0 0 D G (wX4 G ad b u) (wX4 G ad b u) [.ref (ad b)] res := by
  refine zs_z (plainFor_of_name (by decide)) (Nat.le_of_ble_eq_true rfl) ?_
  intro p e s m args below meth c A Q H ls C0 hret hP hD hS hl
  obtain ⟨hx, hb, hml, hown, hW, hK, hlocks, hF, hr, hA⟩ := id C0
  replace hl : lv_has ls 1 [(0, .ref (ad b))] := hl
  unfold q_X4_sign at hf
  refine lv_aload_n hx hb dX4_sign_0 rfl (lv_at hl 0 rfl) ?_
  refine va_get (D := D) (ci := 5) (v := .int u.2.2.1) (C := RX4) (T := TX4) (N := 8) hx hb hW inlX4 hown hK hP 0 rfl rfl 2 (by decide) (hW _ wd_97) (fun _ h9 => h9) rfl dX4_sign_1 ?_
  refine lv_if_lt (tgt := 30) hx hb dX4_sign_4 (by decide) (fun c4 => ?_) (fun c4 => ?_)
  · replace hf := zi_p hf c4
    refine lv_iconst (v := 0) hx hb dX4_sign_30 (by decide) ?_
    obtain rfl := zo hf
    exact hret _ _ _ _ _ hP hD hS rfl rfl dX4_sign_31
  · replace hf := zi_n hf c4
    refine lv_aload_n hx hb dX4_sign_7 rfl (lv_at hl 0 rfl) ?_
    refine va_get (D := D) (ci := 5) (v := .int u.2.2.1) (C := RX4) (T := TX4) (N := 8) hx hb hW inlX4 hown hK hP 0 rfl rfl 2 (by decide) (hW _ wd_97) (fun _ h9 => h9) rfl dX4_sign_8 ?_
    refine lv_aload_n hx hb dX4_sign_11 rfl (lv_at hl 0 rfl) ?_
    refine va_get (D := D) (ci := 5) (v := .int u.2.1) (C := RX4) (T := TX4) (N := 8) hx hb hW inlX4 hown hK hP 0 rfl rfl 1 (by decide) (hW _ wd_96) (fun _ h9 => h9) rfl dX4_sign_12 ?_
    refine lv_icmp_ge (tgt := 30) hx hb dX4_sign_15 (by decide) (fun c15 => ?_) (fun c15 => ?_)
    · replace hf := zi_p hf c15
      refine lv_iconst (v := 0) hx hb dX4_sign_30 (by decide) ?_
      obtain rfl := zo hf
      exact hret _ _ _ _ _ hP hD hS rfl rfl dX4_sign_31
    · replace hf := zi_n hf c15
      refine lv_aload_n hx hb dX4_sign_18 rfl (lv_at hl 0 rfl) ?_
      refine va_get (D := D) (ci := 5) (v := .ref (ad (b + 1))) (C := RX4) (T := TX4) (N := 8) hx hb hW inlX4 hown hK hP 0 rfl rfl 0 (by decide) (hW _ wd_95) (fun _ h9 => h9) rfl dX4_sign_19 ?_
      refine lv_aload_n hx hb dX4_sign_22 rfl (lv_at hl 0 rfl) ?_
      refine va_get (D := D) (ci := 5) (v := .int u.2.2.1) (C := RX4) (T := TX4) (N := 8) hx hb hW inlX4 hown hK hP 0 rfl rfl 2 (by decide) (hW _ wd_97) (fun _ h9 => h9) rfl dX4_sign_23 ?_
      replace hf := zg_s hf
      obtain ⟨hi26, a26, ea26, hf⟩ := hf
      refine z_cald hx hb hK hP 1 1 rfl rfl hi26 ea26 dX4_sign_26 ?_
      refine lv_goto (tgt := 31) hx hb dX4_sign_27 (by decide) ?_
      replace hf := zq_s hf
      obtain ⟨hq, hf⟩ := hf
      obtain rfl := zo hf
      exact hret _ _ _ _ _ hP hD hS rfl (z_nc hq) dX4_sign_31
theorem kX4_46 : zLkV RX4 46 yX4_sign cX4_sign 1 (some .char) 0 := ⟨⟨wd_946, wd_947, wd_948, wd_23, wd_949⟩, by decide +kernel⟩
noncomputable def q_X4_takeSign (u : tX4) (p1 : Int32) : Option (Int32 × Int32) :=
  zb (q_X4_sign u) fun r1 => (if r1 = p1 then zn (u.2.2.1 + 1) fun k17 => some (1, k17) else some (0, u.2.2.1))
set_option maxRecDepth 100000 in
set_option maxHeartbeats 4000000 in
theorem c_X4_takeSign (l : Launch) (D : va_G) (G : zG) (ad : Nat → Nat) (b : Nat) (u : tX4) (p1 : Int32) (res : Int32 × Int32) (hf : q_X4_takeSign u p1 = some res) : zMi l yX4_takeSign cX4_takeSign 2 (some .boolean) 1 20 D G (wX4 G ad b u) (wX4 G ad b (u.1, u.2.1, res.2, u.2.2.2.1, u.2.2.2.2.1, u.2.2.2.2.2.1, u.2.2.2.2.2.2.1, u.2.2.2.2.2.2.2)) [.ref (ad b), .int p1] res.1 := by
  refine zs_z (plainFor_of_name (by decide)) (Nat.le_of_ble_eq_true rfl) ?_
  intro p e s m args below meth c A Q H ls C0 hret hP hD hS hl
  obtain ⟨hx, hb, hml, hown, hW, hK, hlocks, hF, hr, hA⟩ := id C0
  replace hl : lv_has ls 2 [(0, .ref (ad b)), (1, .int p1)] := hl
  unfold q_X4_takeSign at hf
  refine lv_aload_n hx hb dX4_takeSign_0 rfl (lv_at hl 0 rfl) ?_
  replace hf := zb_s hf
  obtain ⟨r1, hr1, hf⟩ := hf
  refine z_Vi (rest := []) C0 kX4_46 (c_X4_sign l D G ad (b) u r1 hr1) z_pall z_pall.symm (ci := 5) (T := TX4) (N := 8) rfl rfl rfl ⟨Nat.le_of_ble_eq_true rfl, Nat.le_of_ble_eq_true rfl⟩ (Nat.le_of_ble_eq_true rfl) rfl hl.1 hP hD hS dX4_takeSign_1 (fun H locs hP hD hS => ?_)
  refine lv_iload_n hx hb dX4_takeSign_4 rfl (lv_at hl 1 rfl) ?_
  refine lv_icmp_eq (tgt := 10) hx hb dX4_takeSign_5 (by decide) (fun c5 => ?_) (fun c5 => ?_)
  · replace hf := zi_p hf c5
    refine lv_aload_n hx hb dX4_takeSign_10 rfl (lv_at hl 0 rfl) ?_
    refine lv_dup hx hb dX4_takeSign_11 rfl ?_
    refine va_get (D := D) (ci := 5) (v := .int u.2.2.1) (C := RX4) (T := TX4) (N := 8) hx hb hW inlX4 hown hK hP 0 rfl rfl 2 (by decide) (hW _ wd_97) (fun _ h9 => h9) rfl dX4_takeSign_12 ?_
    refine lv_iconst (v := 1) hx hb dX4_takeSign_15 (by decide) ?_
    refine lv_iadd hx hb dX4_takeSign_16 ?_
    replace hf := zn_s hf
    obtain ⟨k17, ek17, hf⟩ := hf
    refine z_top ek17 ?_
    refine z_put (ws' := wX4 G ad b (u.1, u.2.1, k17, u.2.2.2.1, u.2.2.2.2.1, u.2.2.2.2.2.1, u.2.2.2.2.2.2.1, u.2.2.2.2.2.2.2)) (ci := 5) (C := RX4) (T := TX4) (N := 8) hx hb hW inlX4 tyX4 tyX4_ok nmX4 hown hK hP hD hS 0 rfl rfl 2 (by decide) (hW _ wd_97) rfl rfl (Nat.le_of_ble_eq_true rfl) rfl dX4_takeSign_17 (fun H locs hP hD hS => ?_)
    refine lv_iconst (v := 1) hx hb dX4_takeSign_20 (by decide) ?_
    obtain rfl := zo hf
    exact hret _ _ _ _ _ hP hD hS rfl rfl dX4_takeSign_21
  · replace hf := zi_n hf c5
    refine lv_iconst (v := 0) hx hb dX4_takeSign_8 (by decide) ?_
    obtain rfl := zo hf
    exact hret _ _ _ _ _ hP hD hS rfl rfl dX4_takeSign_9
theorem kX4_85 : zLkV RX4 85 yJ0_length_8abf5 cJ0_length_8abf5 1 (some .int) 0 := ⟨⟨wd_954, wd_758, wd_759, wd_678, wd_760⟩, by decide +kernel⟩
theorem kX4_90 : zLkV RX4 90 yJ0_charAt_5068e cJ0_charAt_5068e 2 (some .char) 1 := ⟨⟨wd_955, wd_956, wd_957, wd_678, wd_958⟩, by decide +kernel⟩
theorem kX4_42 : zLkV RX4 42 yX4_takeSign cX4_takeSign 2 (some .boolean) 1 := ⟨⟨wd_971, wd_972, wd_973, wd_23, wd_974⟩, by decide +kernel⟩
noncomputable def q_X4_takeWord_L2 (u : tX4) (k1 : Nat) (v2 : Int32 × Int32) : Option ((Int32 × Int32) ⊕ (((Int32) ⊕ (Int32)))) :=
  zq (k1 < 14) (zb (q_J0_length_8abf5 k1) fun r4 => (if r4 ≤ v2.1 then some (Sum.inr (Sum.inl (v2.2))) else zq (k1 < 14) (zb (q_J0_charAt_5068e k1 v2.1) fun r13 => zb (q_X4_takeSign (u.1, u.2.1, v2.2, u.2.2.2.1, u.2.2.2.2.1, u.2.2.2.2.2.1, u.2.2.2.2.2.2.1, u.2.2.2.2.2.2.2) r13) fun r16 => (if r16.1 = 0 then some (Sum.inr (Sum.inr (r16.2))) else some (Sum.inl ((v2.1 + 1), r16.2))))))
noncomputable def q_X4_takeWord (u : tX4) (k1 : Nat) : Option (Int32 × Int32) :=
  zb (zl 1000000 (q_X4_takeWord_L2 u k1) (0, u.2.2.1)) (zm (fun e2_0 => some (1, e2_0)) (fun e2_1 => some (0, e2_1)))
set_option maxRecDepth 100000 in
set_option maxHeartbeats 4000000 in
theorem c_X4_takeWord (l : Launch) (D : va_G) (G : zG) (ad : Nat → Nat) (b : Nat) (u : tX4) (k1 : Nat) (res : Int32 × Int32) (hf : q_X4_takeWord u k1 = some res) : zMi l yX4_takeWord cX4_takeWord 3 (some .boolean) 4 85 D G (wX4 G ad b u) (wX4 G ad b (u.1, u.2.1, res.2, u.2.2.2.1, u.2.2.2.2.1, u.2.2.2.2.2.1, u.2.2.2.2.2.2.1, u.2.2.2.2.2.2.2)) [.ref (ad b), .ref (G.2.2.2.1 k1)] res.1 := by
  refine zs_z (plainFor_of_name (by decide)) (Nat.le_of_ble_eq_true rfl) ?_
  intro p e s m args below meth c A Q H ls C0 hret hP hD hS hl
  obtain ⟨hx, hb, hml, hown, hW, hK, hlocks, hF, hr, hA⟩ := id C0
  replace hl : lv_has ls 3 [(0, .ref (ad b)), (1, .ref (G.2.2.2.1 k1))] := hl
  unfold q_X4_takeWord at hf
  refine lv_iconst (v := 0) hx hb dX4_takeWord_0 (by decide) ?_
  refine lv_istore_n (lv' := [(2, .int 0), (0, .ref (ad b)), (1, .ref (G.2.2.2.1 k1))]) hx hb dX4_takeWord_1 rfl hl (by decide) rfl (fun ls hl => ?_)
  replace hf := zb_s hf
  obtain ⟨b2, hz2, hk2⟩ := hf
  have L2 : ∀ (n2 : Nat) (v2 : Int32 × Int32) (hz2 : zl n2 (q_X4_takeWord_L2 u k1) v2 = some b2) (H : Heap) (locs : List Loc) (hP : va_P D vwCl (wX4 G ad b (u.1, u.2.1, v2.2, u.2.2.2.1, u.2.2.2.2.1, u.2.2.2.2.2.1, u.2.2.2.2.2.2.1, u.2.2.2.2.2.2.2)) H) (hD : va_D A (wX4 G ad b (u.1, u.2.1, v2.2, u.2.2.2.1, u.2.2.2.2.1, u.2.2.2.2.2.1, u.2.2.2.2.2.2.1, u.2.2.2.2.2.2.2))) (hS : va_S A s.heap H locs) (ls : Array Slot) (hl : lv_has ls 3 [(0, .ref (ad b)), (1, .ref (G.2.2.2.1 k1)), (2, .int v2.1)]), W p l e (zRm 4 85) s m args below meth c H locs 0 0 Q (F0 m 2 ls []) := by
    intro n2
    induction n2 with
    | zero => intro v2 hz2; exact (zl_0 hz2).elim
    | succ n2 ih2 =>
      intro v2 hz2 H locs hP hD hS ls hl
      obtain ⟨o2, hf, hz2⟩ := zl_s hz2
      unfold q_X4_takeWord_L2 at hf
      refine lv_iload_n hx hb dX4_takeWord_2 rfl (lv_at hl 2 rfl) ?_
      refine lv_aload_n hx hb dX4_takeWord_3 rfl (lv_at hl 1 rfl) ?_
      replace hf := zq_s hf
      obtain ⟨hk14, hf⟩ := hf
      replace hf := zb_s hf
      obtain ⟨r4, hr4, hf⟩ := hf
      refine z_Ti (rest := [.int v2.1]) C0 kX4_85 (c_J0_length_8abf5 l D G k1 r4 hr4) (List.Perm.refl _) (List.Perm.refl _) (kS := k1) hk14 rfl rfl ⟨Nat.le_of_ble_eq_true rfl, Nat.le_of_ble_eq_true rfl⟩ (Nat.le_of_ble_eq_true rfl) rfl hl.1 hP hD hS dX4_takeWord_4 (fun H locs hP hD hS => ?_)
      refine lv_icmp_ge (tgt := 30) hx hb dX4_takeWord_7 (by decide) (fun c7 => ?_) (fun c7 => ?_)
      · replace hf := zi_p hf c7
        have hb2 := zk_r hf hz2
        subst hb2
        replace hf := (zm_l hk2)
        refine lv_iconst (v := 1) hx hb dX4_takeWord_30 (by decide) ?_
        obtain rfl := zo hf
        exact hret _ _ _ _ _ hP hD hS rfl rfl dX4_takeWord_31
      · replace hf := zi_n hf c7
        refine lv_aload_n hx hb dX4_takeWord_10 rfl (lv_at hl 0 rfl) ?_
        refine lv_aload_n hx hb dX4_takeWord_11 rfl (lv_at hl 1 rfl) ?_
        refine lv_iload_n hx hb dX4_takeWord_12 rfl (lv_at hl 2 rfl) ?_
        replace hf := zq_s hf
        obtain ⟨hk14, hf⟩ := hf
        replace hf := zb_s hf
        obtain ⟨r13, hr13, hf⟩ := hf
        refine z_Ti (rest := [.ref (ad b)]) C0 kX4_90 (c_J0_charAt_5068e l D G k1 v2.1 r13 hr13) (List.Perm.refl _) (List.Perm.refl _) (kS := k1) hk14 rfl rfl ⟨Nat.le_of_ble_eq_true rfl, Nat.le_of_ble_eq_true rfl⟩ (Nat.le_of_ble_eq_true rfl) rfl hl.1 hP hD hS dX4_takeWord_13 (fun H locs hP hD hS => ?_)
        replace hf := zb_s hf
        obtain ⟨r16, hr16, hf⟩ := hf
        refine z_Vi (rest := []) C0 kX4_42 (c_X4_takeSign l D G ad (b) (u.1, u.2.1, v2.2, u.2.2.2.1, u.2.2.2.2.1, u.2.2.2.2.2.1, u.2.2.2.2.2.2.1, u.2.2.2.2.2.2.2) r13 r16 hr16) z_pall z_pall.symm (ci := 5) (T := TX4) (N := 8) rfl rfl rfl ⟨Nat.le_of_ble_eq_true rfl, Nat.le_of_ble_eq_true rfl⟩ (Nat.le_of_ble_eq_true rfl) rfl hl.1 hP hD hS dX4_takeWord_16 (fun H locs hP hD hS => ?_)
        replace hP : va_P D vwCl (wX4 G ad b (u.1, u.2.1, r16.2, u.2.2.2.1, u.2.2.2.2.1, u.2.2.2.2.2.1, u.2.2.2.2.2.2.1, u.2.2.2.2.2.2.2)) H := hP
        replace hD : va_D A (wX4 G ad b (u.1, u.2.1, r16.2, u.2.2.2.1, u.2.2.2.2.1, u.2.2.2.2.2.1, u.2.2.2.2.2.2.1, u.2.2.2.2.2.2.2)) := hD
        refine lv_if_ne (tgt := 24) hx hb dX4_takeWord_19 (by decide) (fun c19 => ?_) (fun c19 => ?_)
        · replace hf := zi_n hf c19
          refine lv_iinc (v := (v2.1 + 1)) (lv' := [(2, .int (v2.1 + 1)), (0, .ref (ad b)), (1, .ref (G.2.2.2.1 k1))]) hx hb dX4_takeWord_24 hl (k := 2) rfl rfl (by decide) rfl (fun ls hl => ?_)
          refine lv_goto (tgt := 2) hx hb dX4_takeWord_27 (by decide) ?_
          exact ih2 _ (zk_l hf hz2) _ _ hP hD hS _ (lv_sub hl [1, 2, 0] rfl)
        · replace hf := zi_p hf c19
          have hb2 := zk_r hf hz2
          subst hb2
          replace hf := (zm_r hk2)
          refine lv_iconst (v := 0) hx hb dX4_takeWord_22 (by decide) ?_
          obtain rfl := zo hf
          exact hret _ _ _ _ _ hP hD hS rfl rfl dX4_takeWord_23
  exact L2 _ _ hz2 _ _ hP hD hS _ (lv_sub hl [1, 2, 0] rfl)
noncomputable def q_X4_takeDigit (u : tX4) (p1 : Int32) (p2 : Int32) : Option (Int32 × Int32 × Int32) :=
  zb (q_X4_sign u) fun r1 => (if r1 < p1 then some (0, u.2.2.1, u.2.2.2.2.2.2.2) else (if r1 ≤ p2 then zn (r1 - 48) fun k22 => zn (u.2.2.1 + 1) fun k32 => some (1, k32, k22) else some (0, u.2.2.1, u.2.2.2.2.2.2.2)))
set_option maxRecDepth 100000 in
set_option maxHeartbeats 4000000 in
theorem c_X4_takeDigit (l : Launch) (D : va_G) (G : zG) (ad : Nat → Nat) (b : Nat) (u : tX4) (p1 : Int32) (p2 : Int32) (res : Int32 × Int32 × Int32) (hf : q_X4_takeDigit u p1 p2 = some res) : zMi l yX4_takeDigit cX4_takeDigit 4 (some .boolean) 1 20 D G (wX4 G ad b u) (wX4 G ad b (u.1, u.2.1, res.2.1, u.2.2.2.1, u.2.2.2.2.1, u.2.2.2.2.2.1, u.2.2.2.2.2.2.1, res.2.2)) [.ref (ad b), .int p1, .int p2] res.1 := by
  refine zs_z (plainFor_of_name (by decide)) (Nat.le_of_ble_eq_true rfl) ?_
  intro p e s m args below meth c A Q H ls C0 hret hP hD hS hl
  obtain ⟨hx, hb, hml, hown, hW, hK, hlocks, hF, hr, hA⟩ := id C0
  replace hl : lv_has ls 4 [(0, .ref (ad b)), (1, .int p1), (2, .int p2)] := hl
  unfold q_X4_takeDigit at hf
  refine lv_aload_n hx hb dX4_takeDigit_0 rfl (lv_at hl 0 rfl) ?_
  replace hf := zb_s hf
  obtain ⟨r1, hr1, hf⟩ := hf
  refine z_Vi (rest := []) C0 kX4_46 (c_X4_sign l D G ad (b) u r1 hr1) z_pall z_pall.symm (ci := 5) (T := TX4) (N := 8) rfl rfl rfl ⟨Nat.le_of_ble_eq_true rfl, Nat.le_of_ble_eq_true rfl⟩ (Nat.le_of_ble_eq_true rfl) rfl hl.1 hP hD hS dX4_takeDigit_1 (fun H locs hP hD hS => ?_)
  refine lv_istore_n (lv' := [(3, .int r1), (0, .ref (ad b)), (1, .int p1), (2, .int p2)]) hx hb dX4_takeDigit_4 rfl hl (by decide) rfl (fun ls hl => ?_)
  refine lv_iload_n hx hb dX4_takeDigit_5 rfl (lv_at hl 0 rfl) ?_
  refine lv_iload_n hx hb dX4_takeDigit_6 rfl (lv_at hl 2 rfl) ?_
  refine lv_icmp_lt (tgt := 15) hx hb dX4_takeDigit_7 (by decide) (fun c7 => ?_) (fun c7 => ?_)
  · replace hf := zi_p hf c7
    refine lv_iconst (v := 0) hx hb dX4_takeDigit_15 (by decide) ?_
    obtain rfl := zo hf
    exact hret _ _ _ _ _ hP hD hS rfl rfl dX4_takeDigit_16
  · replace hf := zi_n hf c7
    refine lv_iload_n hx hb dX4_takeDigit_10 rfl (lv_at hl 0 rfl) ?_
    refine lv_iload_n hx hb dX4_takeDigit_11 rfl (lv_at hl 3 rfl) ?_
    refine lv_icmp_le (tgt := 17) hx hb dX4_takeDigit_12 (by decide) (fun c12 => ?_) (fun c12 => ?_)
    · replace hf := zi_p hf c12
      refine lv_aload_n hx hb dX4_takeDigit_17 rfl (lv_at hl 1 rfl) ?_
      refine lv_iload_n hx hb dX4_takeDigit_18 rfl (lv_at hl 0 rfl) ?_
      refine lv_bipush (v := 48) hx hb dX4_takeDigit_19 (by decide) ?_
      refine lv_isub hx hb dX4_takeDigit_21 ?_
      replace hf := zn_s hf
      obtain ⟨k22, ek22, hf⟩ := hf
      refine z_top ek22 ?_
      refine z_put (ws' := wX4 G ad b (u.1, u.2.1, u.2.2.1, u.2.2.2.1, u.2.2.2.2.1, u.2.2.2.2.2.1, u.2.2.2.2.2.2.1, k22)) (ci := 5) (C := RX4) (T := TX4) (N := 8) hx hb hW inlX4 tyX4 tyX4_ok nmX4 hown hK hP hD hS 0 rfl rfl 7 (by decide) (hW _ wd_102) rfl rfl (Nat.le_of_ble_eq_true rfl) rfl dX4_takeDigit_22 (fun H locs hP hD hS => ?_)
      refine lv_aload_n hx hb dX4_takeDigit_25 rfl (lv_at hl 1 rfl) ?_
      refine lv_dup hx hb dX4_takeDigit_26 rfl ?_
      refine va_get (D := D) (ci := 5) (v := .int u.2.2.1) (C := RX4) (T := TX4) (N := 8) hx hb hW inlX4 hown hK hP 0 rfl rfl 2 (by decide) (hW _ wd_97) (fun _ h9 => h9) rfl dX4_takeDigit_27 ?_
      refine lv_iconst (v := 1) hx hb dX4_takeDigit_30 (by decide) ?_
      refine lv_iadd hx hb dX4_takeDigit_31 ?_
      replace hf := zn_s hf
      obtain ⟨k32, ek32, hf⟩ := hf
      refine z_top ek32 ?_
      refine z_put (ws' := wX4 G ad b (u.1, u.2.1, k32, u.2.2.2.1, u.2.2.2.2.1, u.2.2.2.2.2.1, u.2.2.2.2.2.2.1, k22)) (ci := 5) (C := RX4) (T := TX4) (N := 8) hx hb hW inlX4 tyX4 tyX4_ok nmX4 hown hK hP hD hS 0 rfl rfl 2 (by decide) (hW _ wd_97) rfl rfl (Nat.le_of_ble_eq_true rfl) rfl dX4_takeDigit_32 (fun H locs hP hD hS => ?_)
      refine lv_iconst (v := 1) hx hb dX4_takeDigit_35 (by decide) ?_
      obtain rfl := zo hf
      exact hret _ _ _ _ _ hP hD hS rfl rfl dX4_takeDigit_36
    · replace hf := zi_n hf c12
      refine lv_iconst (v := 0) hx hb dX4_takeDigit_15 (by decide) ?_
      obtain rfl := zo hf
      exact hret _ _ _ _ _ hP hD hS rfl rfl dX4_takeDigit_16
theorem kX4_76 : zLkV RX4 76 yX4_takeDigit cX4_takeDigit 4 (some .boolean) 2 := ⟨⟨wd_979, wd_980, wd_981, wd_23, wd_982⟩, by decide +kernel⟩
noncomputable def q_X4_takeSpan (u : tX4) : Option (Int32 × Int32 × Int32) :=
  zb (q_X4_takeDigit u 48 55) fun r5 => zq (r5.1 = 0 ∨ r5.1 = 1) (some (r5.1, r5.2.1, r5.2.2))
set_option maxRecDepth 100000 in
set_option maxHeartbeats 4000000 in
theorem c_X4_takeSpan (l : Launch) (D : va_G) (G : zG) (ad : Nat → Nat) (b : Nat) (u : tX4) (res : Int32 × Int32 × Int32) (hf : q_X4_takeSpan u = some res) : zMi l yX4_takeSpan cX4_takeSpan 1 (some .boolean) 2 43 D G (wX4 G ad b u) (wX4 G ad b (u.1, u.2.1, res.2.1, u.2.2.2.1, u.2.2.2.2.1, u.2.2.2.2.2.1, u.2.2.2.2.2.2.1, res.2.2)) [.ref (ad b)] res.1 := by
  refine zs_z (plainFor_of_name (by decide)) (Nat.le_of_ble_eq_true rfl) ?_
  intro p e s m args below meth c A Q H ls C0 hret hP hD hS hl
  obtain ⟨hx, hb, hml, hown, hW, hK, hlocks, hF, hr, hA⟩ := id C0
  replace hl : lv_has ls 1 [(0, .ref (ad b))] := hl
  unfold q_X4_takeSpan at hf
  refine lv_aload_n hx hb dX4_takeSpan_0 rfl (lv_at hl 0 rfl) ?_
  refine lv_bipush (v := 48) hx hb dX4_takeSpan_1 (by decide) ?_
  refine lv_bipush (v := 55) hx hb dX4_takeSpan_3 (by decide) ?_
  replace hf := zb_s hf
  obtain ⟨r5, hr5, hf⟩ := hf
  refine z_Vi (rest := []) C0 kX4_76 (c_X4_takeDigit l D G ad (b) u 48 55 r5 hr5) z_pall z_pall.symm (ci := 5) (T := TX4) (N := 8) rfl rfl rfl ⟨Nat.le_of_ble_eq_true rfl, Nat.le_of_ble_eq_true rfl⟩ (Nat.le_of_ble_eq_true rfl) rfl hl.1 hP hD hS dX4_takeSpan_5 (fun H locs hP hD hS => ?_)
  replace hP : va_P D vwCl (wX4 G ad b (u.1, u.2.1, r5.2.1, u.2.2.2.1, u.2.2.2.2.1, u.2.2.2.2.2.1, u.2.2.2.2.2.2.1, r5.2.2)) H := hP
  replace hD : va_D A (wX4 G ad b (u.1, u.2.1, r5.2.1, u.2.2.2.1, u.2.2.2.2.1, u.2.2.2.2.2.1, u.2.2.2.2.2.2.1, r5.2.2)) := hD
  replace hf := zq_s hf
  obtain ⟨hq, hf⟩ := hf
  obtain rfl := zo hf
  exact hret _ _ _ _ _ hP hD hS rfl (z_nb hq) dX4_takeSpan_8
noncomputable def q_X4_takeNumber_J36  (x36_1 : Int32) (x36_2 : Int32) (w36_0 : Int32) (w36_1 : Int32) : Option (Int32 × Int32 × Int32) :=
  (if x36_1 ≤ 0 then some (0, w36_0, x36_2) else some (1, w36_0, x36_2))
noncomputable def q_X4_takeNumber_L4 (u : tX4) (v4 : Int32 × Int32 × Int32 × Int32) : Option ((Int32 × Int32 × Int32 × Int32) ⊕ (Int32 × Int32 × Int32 × Int32)) :=
  (if 3 ≤ v4.1 then some (Sum.inr (v4.1, v4.2.1, v4.2.2.1, v4.2.2.2)) else zb (q_X4_takeDigit (u.1, u.2.1, v4.2.2.1, u.2.2.2.1, u.2.2.2.2.1, u.2.2.2.2.2.1, u.2.2.2.2.2.2.1, v4.2.2.2) 48 57) fun r14 => (if r14.1 = 0 then some (Sum.inr (v4.1, v4.2.1, r14.2.1, r14.2.2)) else some (Sum.inl ((v4.1 + 1), ((10 * v4.2.1) + r14.2.2), r14.2.1, r14.2.2))))
noncomputable def q_X4_takeNumber (u : tX4) : Option (Int32 × Int32 × Int32) :=
  zb (zl 1000000 (q_X4_takeNumber_L4 u) (0, 0, u.2.2.1, u.2.2.2.2.2.2.2)) (fun b4 => q_X4_takeNumber_J36 b4.1 b4.2.1 b4.2.2.1 b4.2.2.2)
set_option maxRecDepth 100000 in
set_option maxHeartbeats 4000000 in
theorem c_X4_takeNumber (l : Launch) (D : va_G) (G : zG) (ad : Nat → Nat) (b : Nat) (u : tX4) (res : Int32 × Int32 × Int32) (hf : q_X4_takeNumber u = some res) : zMi l yX4_takeNumber cX4_takeNumber 3 (some .boolean) 2 43 D G (wX4 G ad b u) (wX4 G ad b (u.1, u.2.1, res.2.1, u.2.2.2.1, u.2.2.2.2.1, u.2.2.2.2.2.1, u.2.2.2.2.2.2.1, res.2.2)) [.ref (ad b)] res.1 := by
  refine zs_z (plainFor_of_name (by decide)) (Nat.le_of_ble_eq_true rfl) ?_
  intro p e s m args below meth c A Q H ls C0 hret hP hD hS hl
  obtain ⟨hx, hb, hml, hown, hW, hK, hlocks, hF, hr, hA⟩ := id C0
  replace hl : lv_has ls 3 [(0, .ref (ad b))] := hl
  unfold q_X4_takeNumber at hf
  refine lv_iconst (v := 0) hx hb dX4_takeNumber_0 (by decide) ?_
  refine lv_istore_n (lv' := [(1, .int 0), (0, .ref (ad b))]) hx hb dX4_takeNumber_1 rfl hl (by decide) rfl (fun ls hl => ?_)
  refine lv_iconst (v := 0) hx hb dX4_takeNumber_2 (by decide) ?_
  refine lv_istore_n (lv' := [(2, .int 0), (1, .int 0), (0, .ref (ad b))]) hx hb dX4_takeNumber_3 rfl hl (by decide) rfl (fun ls hl => ?_)
  have J36 : ∀ (x36_1 : Int32) (x36_2 : Int32) (w36_0 : Int32) (w36_1 : Int32) (hf : q_X4_takeNumber_J36 x36_1 x36_2 w36_0 w36_1 = some res) (H : Heap) (locs : List Loc) (hP : va_P D vwCl (wX4 G ad b (u.1, u.2.1, w36_0, u.2.2.2.1, u.2.2.2.2.1, u.2.2.2.2.2.1, u.2.2.2.2.2.2.1, w36_1)) H) (hD : va_D A (wX4 G ad b (u.1, u.2.1, w36_0, u.2.2.2.1, u.2.2.2.2.1, u.2.2.2.2.2.1, u.2.2.2.2.2.2.1, w36_1))) (hS : va_S A s.heap H locs) (ls : Array Slot) (hl : lv_has ls 3 [(0, .ref (ad b)), (1, .int x36_1), (2, .int x36_2)]), W p l e (zRm 2 43) s m args below meth c H locs 0 0 Q (F0 m 36 ls []) := by
    intro x36_1 x36_2 w36_0 w36_1 hf H locs hP hD hS ls hl
    unfold q_X4_takeNumber_J36 at hf
    refine lv_aload_n hx hb dX4_takeNumber_36 rfl (lv_at hl 0 rfl) ?_
    refine lv_iload_n hx hb dX4_takeNumber_37 rfl (lv_at hl 2 rfl) ?_
    refine z_put (ws' := wX4 G ad b (u.1, u.2.1, w36_0, u.2.2.2.1, u.2.2.2.2.1, u.2.2.2.2.2.1, u.2.2.2.2.2.2.1, x36_2)) (ci := 5) (C := RX4) (T := TX4) (N := 8) hx hb hW inlX4 tyX4 tyX4_ok nmX4 hown hK hP hD hS 0 rfl rfl 7 (by decide) (hW _ wd_102) rfl rfl (Nat.le_of_ble_eq_true rfl) rfl dX4_takeNumber_38 (fun H locs hP hD hS => ?_)
    refine lv_iload_n hx hb dX4_takeNumber_41 rfl (lv_at hl 1 rfl) ?_
    refine lv_if_le (tgt := 49) hx hb dX4_takeNumber_42 (by decide) (fun c42 => ?_) (fun c42 => ?_)
    · replace hf := zi_p hf c42
      refine lv_iconst (v := 0) hx hb dX4_takeNumber_49 (by decide) ?_
      obtain rfl := zo hf
      exact hret _ _ _ _ _ hP hD hS rfl rfl dX4_takeNumber_50
    · replace hf := zi_n hf c42
      refine lv_iconst (v := 1) hx hb dX4_takeNumber_45 (by decide) ?_
      refine lv_goto (tgt := 50) hx hb dX4_takeNumber_46 (by decide) ?_
      obtain rfl := zo hf
      exact hret _ _ _ _ _ hP hD hS rfl rfl dX4_takeNumber_50
  replace hf := zb_s hf
  obtain ⟨b4, hz4, hk4⟩ := hf
  have L4 : ∀ (n4 : Nat) (v4 : Int32 × Int32 × Int32 × Int32) (hz4 : zl n4 (q_X4_takeNumber_L4 u) v4 = some b4) (H : Heap) (locs : List Loc) (hP : va_P D vwCl (wX4 G ad b (u.1, u.2.1, v4.2.2.1, u.2.2.2.1, u.2.2.2.2.1, u.2.2.2.2.2.1, u.2.2.2.2.2.2.1, v4.2.2.2)) H) (hD : va_D A (wX4 G ad b (u.1, u.2.1, v4.2.2.1, u.2.2.2.1, u.2.2.2.2.1, u.2.2.2.2.2.1, u.2.2.2.2.2.2.1, v4.2.2.2))) (hS : va_S A s.heap H locs) (ls : Array Slot) (hl : lv_has ls 3 [(0, .ref (ad b)), (1, .int v4.1), (2, .int v4.2.1)]), W p l e (zRm 2 43) s m args below meth c H locs 0 0 Q (F0 m 4 ls []) := by
    intro n4
    induction n4 with
    | zero => intro v4 hz4; exact (zl_0 hz4).elim
    | succ n4 ih4 =>
      intro v4 hz4 H locs hP hD hS ls hl
      obtain ⟨o4, hf, hz4⟩ := zl_s hz4
      unfold q_X4_takeNumber_L4 at hf
      refine lv_iload_n hx hb dX4_takeNumber_4 rfl (lv_at hl 1 rfl) ?_
      refine lv_iconst (v := 3) hx hb dX4_takeNumber_5 (by decide) ?_
      refine lv_icmp_ge (tgt := 36) hx hb dX4_takeNumber_6 (by decide) (fun c6 => ?_) (fun c6 => ?_)
      · replace hf := zi_p hf c6
        have hb4 := zk_r hf hz4
        subst hb4
        replace hf := hk4
        exact J36 v4.1 v4.2.1 v4.2.2.1 v4.2.2.2 hf _ _ hP hD hS _ (lv_sub hl [0, 1, 2] rfl)
      · replace hf := zi_n hf c6
        refine lv_aload_n hx hb dX4_takeNumber_9 rfl (lv_at hl 0 rfl) ?_
        refine lv_bipush (v := 48) hx hb dX4_takeNumber_10 (by decide) ?_
        refine lv_bipush (v := 57) hx hb dX4_takeNumber_12 (by decide) ?_
        replace hf := zb_s hf
        obtain ⟨r14, hr14, hf⟩ := hf
        refine z_Vi (rest := []) C0 kX4_76 (c_X4_takeDigit l D G ad (b) (u.1, u.2.1, v4.2.2.1, u.2.2.2.1, u.2.2.2.2.1, u.2.2.2.2.2.1, u.2.2.2.2.2.2.1, v4.2.2.2) 48 57 r14 hr14) z_pall z_pall.symm (ci := 5) (T := TX4) (N := 8) rfl rfl rfl ⟨Nat.le_of_ble_eq_true rfl, Nat.le_of_ble_eq_true rfl⟩ (Nat.le_of_ble_eq_true rfl) rfl hl.1 hP hD hS dX4_takeNumber_14 (fun H locs hP hD hS => ?_)
        replace hP : va_P D vwCl (wX4 G ad b (u.1, u.2.1, r14.2.1, u.2.2.2.1, u.2.2.2.2.1, u.2.2.2.2.2.1, u.2.2.2.2.2.2.1, r14.2.2)) H := hP
        replace hD : va_D A (wX4 G ad b (u.1, u.2.1, r14.2.1, u.2.2.2.1, u.2.2.2.2.1, u.2.2.2.2.2.1, u.2.2.2.2.2.2.1, r14.2.2)) := hD
        refine lv_if_eq (tgt := 36) hx hb dX4_takeNumber_17 (by decide) (fun c17 => ?_) (fun c17 => ?_)
        · replace hf := zi_p hf c17
          have hb4 := zk_r hf hz4
          subst hb4
          replace hf := hk4
          exact J36 v4.1 v4.2.1 r14.2.1 r14.2.2 hf _ _ hP hD hS _ (lv_sub hl [0, 1, 2] rfl)
        · replace hf := zi_n hf c17
          refine lv_bipush (v := 10) hx hb dX4_takeNumber_20 (by decide) ?_
          refine lv_iload_n hx hb dX4_takeNumber_22 rfl (lv_at hl 2 rfl) ?_
          refine lv_imul hx hb dX4_takeNumber_23 ?_
          refine lv_aload_n hx hb dX4_takeNumber_24 rfl (lv_at hl 0 rfl) ?_
          refine va_get (D := D) (ci := 5) (v := .int r14.2.2) (C := RX4) (T := TX4) (N := 8) hx hb hW inlX4 hown hK hP 0 rfl rfl 7 (by decide) (hW _ wd_102) (fun _ h9 => h9) rfl dX4_takeNumber_25 ?_
          refine lv_iadd hx hb dX4_takeNumber_28 ?_
          refine lv_istore_n (lv' := [(2, .int ((10 * v4.2.1) + r14.2.2)), (0, .ref (ad b)), (1, .int v4.1)]) hx hb dX4_takeNumber_29 rfl hl (by decide) rfl (fun ls hl => ?_)
          refine lv_iinc (v := (v4.1 + 1)) (lv' := [(1, .int (v4.1 + 1)), (2, .int ((10 * v4.2.1) + r14.2.2)), (0, .ref (ad b))]) hx hb dX4_takeNumber_30 hl (k := 2) rfl rfl (by decide) rfl (fun ls hl => ?_)
          refine lv_goto (tgt := 4) hx hb dX4_takeNumber_33 (by decide) ?_
          exact ih4 _ (zk_l hf hz4) _ _ hP hD hS _ (lv_sub hl [2, 0, 1] rfl)
  exact L4 _ _ hz4 _ _ hP hD hS _ (lv_sub hl [2, 1, 0] rfl)
theorem kX4_52 : zLkV RX4 52 yX4_takeWord cX4_takeWord 3 (some .boolean) 1 := ⟨⟨wd_950, wd_951, wd_952, wd_23, wd_953⟩, by decide +kernel⟩
noncomputable def q_X4_takeWay (u : tX4) : Option (Int32 × Int32 × Int32) :=
  zb (q_X4_sign u) fun r1 => (if r1 = 111 then zb (q_X4_takeWord (u.1, u.2.1, u.2.2.1, u.2.2.2.1, u.2.2.2.2.1, u.2.2.2.2.2.1, u.2.2.2.2.2.2.1, 0) 11) fun r48 => zq (r48.1 = 0 ∨ r48.1 = 1) (some (r48.1, r48.2, 0)) else if r1 = 114 then zb (q_X4_takeWord (u.1, u.2.1, u.2.2.1, u.2.2.2.1, u.2.2.2.2.1, u.2.2.2.2.2.1, u.2.2.2.2.2.2.1, 2) 13) fun r72 => zq (r72.1 = 0 ∨ r72.1 = 1) (some (r72.1, r72.2, 2)) else if r1 = 119 then zb (q_X4_takeWord (u.1, u.2.1, u.2.2.1, u.2.2.2.1, u.2.2.2.2.1, u.2.2.2.2.2.1, u.2.2.2.2.2.2.1, 1) 12) fun r60 => zq (r60.1 = 0 ∨ r60.1 = 1) (some (r60.1, r60.2, 1)) else some (0, u.2.2.1, u.2.2.2.2.2.2.2))
set_option maxRecDepth 100000 in
set_option maxHeartbeats 4000000 in
theorem c_X4_takeWay (l : Launch) (D : va_G) (G : zG) (ad : Nat → Nat) (b : Nat) (u : tX4) (res : Int32 × Int32 × Int32) (hf : q_X4_takeWay u = some res) : zMi l yX4_takeWay cX4_takeWay 1 (some .boolean) 5 107 D G (wX4 G ad b u) (wX4 G ad b (u.1, u.2.1, res.2.1, u.2.2.2.1, u.2.2.2.2.1, u.2.2.2.2.2.1, u.2.2.2.2.2.2.1, res.2.2)) [.ref (ad b)] res.1 := by
  refine zs_z (plainFor_of_name (by decide)) (Nat.le_of_ble_eq_true rfl) ?_
  intro p e s m args below meth c A Q H ls C0 hret hP hD hS hl
  obtain ⟨hx, hb, hml, hown, hW, hK, hlocks, hF, hr, hA⟩ := id C0
  replace hl : lv_has ls 1 [(0, .ref (ad b))] := hl
  unfold q_X4_takeWay at hf
  refine lv_aload_n hx hb dX4_takeWay_0 rfl (lv_at hl 0 rfl) ?_
  replace hf := zb_s hf
  obtain ⟨r1, hr1, hf⟩ := hf
  refine z_Vi (rest := []) C0 kX4_46 (c_X4_sign l D G ad (b) u r1 hr1) z_pall z_pall.symm (ci := 5) (T := TX4) (N := 8) rfl rfl rfl ⟨Nat.le_of_ble_eq_true rfl, Nat.le_of_ble_eq_true rfl⟩ (Nat.le_of_ble_eq_true rfl) rfl hl.1 hP hD hS dX4_takeWay_1 (fun H locs hP hD hS => ?_)
  refine z_by (c := r1 = 111) (fun c4_0 => ?_) (fun n4_0 => ?_)
  · replace hf := zi_p hf c4_0
    refine lv_lookup (tgt := 40) (off := 36) hx hb dX4_takeWay_4 (by decide) (by rw [c4_0]; decide) (by decide) ?_
    refine lv_aload_n hx hb dX4_takeWay_40 rfl (lv_at hl 0 rfl) ?_
    refine lv_iconst (v := 0) hx hb dX4_takeWay_41 (by decide) ?_
    refine z_put (ws' := wX4 G ad b (u.1, u.2.1, u.2.2.1, u.2.2.2.1, u.2.2.2.2.1, u.2.2.2.2.2.1, u.2.2.2.2.2.2.1, 0)) (ci := 5) (C := RX4) (T := TX4) (N := 8) hx hb hW inlX4 tyX4 tyX4_ok nmX4 hown hK hP hD hS 0 rfl rfl 7 (by decide) (hW _ wd_102) rfl rfl (Nat.le_of_ble_eq_true rfl) rfl dX4_takeWay_42 (fun H locs hP hD hS => ?_)
    refine lv_aload_n hx hb dX4_takeWay_45 rfl (lv_at hl 0 rfl) ?_
    refine va_ldcS (tx := "oldest") hx hb hown (zF_ref11 hF) dX4_takeWay_46 ?_
    replace hf := zb_s hf
    obtain ⟨r48, hr48, hf⟩ := hf
    refine z_Vi (rest := []) C0 kX4_52 (c_X4_takeWord l D G ad (b) (u.1, u.2.1, u.2.2.1, u.2.2.2.1, u.2.2.2.2.1, u.2.2.2.2.2.1, u.2.2.2.2.2.2.1, 0) 11 r48 hr48) z_pall z_pall.symm (ci := 5) (T := TX4) (N := 8) rfl rfl rfl ⟨Nat.le_of_ble_eq_true rfl, Nat.le_of_ble_eq_true rfl⟩ (Nat.le_of_ble_eq_true rfl) rfl hl.1 hP hD hS dX4_takeWay_48 (fun H locs hP hD hS => ?_)
    replace hP : va_P D vwCl (wX4 G ad b (u.1, u.2.1, r48.2, u.2.2.2.1, u.2.2.2.2.1, u.2.2.2.2.2.1, u.2.2.2.2.2.2.1, 0)) H := hP
    replace hD : va_D A (wX4 G ad b (u.1, u.2.1, r48.2, u.2.2.2.1, u.2.2.2.2.1, u.2.2.2.2.2.1, u.2.2.2.2.2.2.1, 0)) := hD
    replace hf := zq_s hf
    obtain ⟨hq, hf⟩ := hf
    obtain rfl := zo hf
    exact hret _ _ _ _ _ hP hD hS rfl (z_nb hq) dX4_takeWay_51
  · replace hf := zi_n hf n4_0
    refine z_by (c := r1 = 114) (fun c4_1 => ?_) (fun n4_1 => ?_)
    · replace hf := zi_p hf c4_1
      refine lv_lookup (tgt := 64) (off := 60) hx hb dX4_takeWay_4 (by decide) (by rw [c4_1]; decide) (by decide) ?_
      refine lv_aload_n hx hb dX4_takeWay_64 rfl (lv_at hl 0 rfl) ?_
      refine lv_iconst (v := 2) hx hb dX4_takeWay_65 (by decide) ?_
      refine z_put (ws' := wX4 G ad b (u.1, u.2.1, u.2.2.1, u.2.2.2.1, u.2.2.2.2.1, u.2.2.2.2.2.1, u.2.2.2.2.2.2.1, 2)) (ci := 5) (C := RX4) (T := TX4) (N := 8) hx hb hW inlX4 tyX4 tyX4_ok nmX4 hown hK hP hD hS 0 rfl rfl 7 (by decide) (hW _ wd_102) rfl rfl (Nat.le_of_ble_eq_true rfl) rfl dX4_takeWay_66 (fun H locs hP hD hS => ?_)
      refine lv_aload_n hx hb dX4_takeWay_69 rfl (lv_at hl 0 rfl) ?_
      refine va_ldcS (tx := "row") hx hb hown (zF_ref13 hF) dX4_takeWay_70 ?_
      replace hf := zb_s hf
      obtain ⟨r72, hr72, hf⟩ := hf
      refine z_Vi (rest := []) C0 kX4_52 (c_X4_takeWord l D G ad (b) (u.1, u.2.1, u.2.2.1, u.2.2.2.1, u.2.2.2.2.1, u.2.2.2.2.2.1, u.2.2.2.2.2.2.1, 2) 13 r72 hr72) z_pall z_pall.symm (ci := 5) (T := TX4) (N := 8) rfl rfl rfl ⟨Nat.le_of_ble_eq_true rfl, Nat.le_of_ble_eq_true rfl⟩ (Nat.le_of_ble_eq_true rfl) rfl hl.1 hP hD hS dX4_takeWay_72 (fun H locs hP hD hS => ?_)
      replace hP : va_P D vwCl (wX4 G ad b (u.1, u.2.1, r72.2, u.2.2.2.1, u.2.2.2.2.1, u.2.2.2.2.2.1, u.2.2.2.2.2.2.1, 2)) H := hP
      replace hD : va_D A (wX4 G ad b (u.1, u.2.1, r72.2, u.2.2.2.1, u.2.2.2.2.1, u.2.2.2.2.2.1, u.2.2.2.2.2.2.1, 2)) := hD
      replace hf := zq_s hf
      obtain ⟨hq, hf⟩ := hf
      obtain rfl := zo hf
      exact hret _ _ _ _ _ hP hD hS rfl (z_nb hq) dX4_takeWay_75
    · replace hf := zi_n hf n4_1
      refine z_by (c := r1 = 119) (fun c4_2 => ?_) (fun n4_2 => ?_)
      · replace hf := zi_p hf c4_2
        refine lv_lookup (tgt := 52) (off := 48) hx hb dX4_takeWay_4 (by decide) (by rw [c4_2]; decide) (by decide) ?_
        refine lv_aload_n hx hb dX4_takeWay_52 rfl (lv_at hl 0 rfl) ?_
        refine lv_iconst (v := 1) hx hb dX4_takeWay_53 (by decide) ?_
        refine z_put (ws' := wX4 G ad b (u.1, u.2.1, u.2.2.1, u.2.2.2.1, u.2.2.2.2.1, u.2.2.2.2.2.1, u.2.2.2.2.2.2.1, 1)) (ci := 5) (C := RX4) (T := TX4) (N := 8) hx hb hW inlX4 tyX4 tyX4_ok nmX4 hown hK hP hD hS 0 rfl rfl 7 (by decide) (hW _ wd_102) rfl rfl (Nat.le_of_ble_eq_true rfl) rfl dX4_takeWay_54 (fun H locs hP hD hS => ?_)
        refine lv_aload_n hx hb dX4_takeWay_57 rfl (lv_at hl 0 rfl) ?_
        refine va_ldcS (tx := "worst") hx hb hown (zF_ref12 hF) dX4_takeWay_58 ?_
        replace hf := zb_s hf
        obtain ⟨r60, hr60, hf⟩ := hf
        refine z_Vi (rest := []) C0 kX4_52 (c_X4_takeWord l D G ad (b) (u.1, u.2.1, u.2.2.1, u.2.2.2.1, u.2.2.2.2.1, u.2.2.2.2.2.1, u.2.2.2.2.2.2.1, 1) 12 r60 hr60) z_pall z_pall.symm (ci := 5) (T := TX4) (N := 8) rfl rfl rfl ⟨Nat.le_of_ble_eq_true rfl, Nat.le_of_ble_eq_true rfl⟩ (Nat.le_of_ble_eq_true rfl) rfl hl.1 hP hD hS dX4_takeWay_60 (fun H locs hP hD hS => ?_)
        replace hP : va_P D vwCl (wX4 G ad b (u.1, u.2.1, r60.2, u.2.2.2.1, u.2.2.2.2.1, u.2.2.2.2.2.1, u.2.2.2.2.2.2.1, 1)) H := hP
        replace hD : va_D A (wX4 G ad b (u.1, u.2.1, r60.2, u.2.2.2.1, u.2.2.2.2.1, u.2.2.2.2.2.1, u.2.2.2.2.2.2.1, 1)) := hD
        replace hf := zq_s hf
        obtain ⟨hq, hf⟩ := hf
        obtain rfl := zo hf
        exact hret _ _ _ _ _ hP hD hS rfl (z_nb hq) dX4_takeWay_63
      · replace hf := zi_n hf n4_2
        refine lv_lookup (tgt := 76) (off := 72) hx hb dX4_takeWay_4 (by decide) ((lv_osw n4_0 rfl).trans ((lv_osw n4_1 rfl).trans ((lv_osw n4_2 rfl).trans (rfl)))) (by decide) ?_
        refine lv_iconst (v := 0) hx hb dX4_takeWay_76 (by decide) ?_
        obtain rfl := zo hf
        exact hret _ _ _ _ _ hP hD hS rfl rfl dX4_takeWay_77
