def zad (h0 : Nat) (u : Nat → Nat) : Nat → Nat := fun k => match k with
  | 0 => h0
  | k + 1 => u k
theorem zP_arrq {D : va_G} {cl : List vw_C} {ws ws' : va_W} {H : Heap} {a n : Nat} {cA : ClassId} {f g : Nat → Option Nat} (hP : va_P D cl ws H) (h1 : ws[1]? = some (a, .inl (cA, n, .inr (.inr (.inr (.inr f)))))) (hfg : ∀ j, j < n → f j = g j) (hws : ws.set 1 (a, .inl (cA, n, .inr (.inr (.inr (.inr g))))) = ws') : va_P D cl ws' H := by
  subst hws
  intro k q hk
  by_cases h : k = 1
  · subst h
    rw [List.getElem?_set_self (List.getElem?_eq_some_iff.mp h1).1] at hk
    cases hk
    have h2 := hP 1 _ h1
    show H[a]? = some (vp_cell cA (n, .inr (.inr (.inr (.inr g)))))
    rw [← z_arrq hfg]
    exact h2
  · rw [List.getElem?_set_ne (Ne.symm h)] at hk
    exact hP k q hk
theorem zD_arrq {A : Nat → Prop} {ws ws' : va_W} {a : Nat} {e0 e : va_E} (hD : va_D A ws) (h1 : ws[1]? = some (a, e0)) (hws : ws.set 1 (a, e) = ws') : va_D A ws' := by
  subst hws
  exact hD.set h1
def iX6 (ar : Nat → Nat → Nat) : tX6 := (iX1, iX1, (ar, fun _ => iX1, 0), iX4, iJ4)
set_option maxRecDepth 100000 in
set_option maxHeartbeats 4000000 in
theorem c_X5_init (l : Launch) (D : va_G) (G : zG) (h0 : Nat) : zMc l yX5_init cX5_init 1 1 12 2 40 D G [(h0, .inr (6, [.null, .null, .int 0]))] (fun (u : Nat → Nat) => wX5 G (zad h0 u) 0 iX5) [.ref h0] := by
  refine zs_c (plainFor_of_name (by decide)) (Nat.le_of_ble_eq_true rfl) rfl ?_
  intro p e s m args below meth c A Q H ls C0 hin2 hret hP hD hS hl
  obtain ⟨hx, hb, hml, hown, hW, hK, hlocks, hF, hr, hA⟩ := id C0
  replace hl : lv_has ls 1 [(0, .ref h0)] := hl
  refine lv_aload_n hx hb dX5_init_0 rfl (lv_at hl 0 rfl) ?_
  refine W.objInit hx hb hown (hW _ wd_63) (hW _ wd_8) (hW _ wd_9) rfl (by rw [hml]; exact hl.1) rfl dX5_init_1 (Nat.le_of_ble_eq_true rfl) (Nat.le_of_ble_eq_true rfl) ?_
  refine W.eq (g2 := F0 m 4 ls []) rfl ?_
  refine lv_aload_n hx hb dX5_init_4 rfl (lv_at hl 0 rfl) ?_
  refine lv_bipush (v := 20) hx hb dX5_init_5 (by decide) ?_
  refine z_newa (atype := .int) (ty := .int) (a0 := (20, .inl (fun _ => 0))) (N' := 20) 0 hx hb hW wd_3 rfl rfl (fun _ h => h) hK hP hD hS hA (fun _ => rfl) (by decide) (by decide) (Nat.le_of_ble_eq_true rfl) (Nat.le_of_ble_eq_true rfl) (Nat.le_of_ble_eq_true rfl) dX5_init_7 (fun q1 H hP hD hS => ?_)
  refine z_putq (ws' := ([(h0, .inr (6, [.ref q1, .null, .int 0]))] ++ [(q1, .inl (G.1.1, 20, .inl (fun _ => 0)))])) (ci := 6) (C := RX5) (T := TX5) (N := 3) hx hb hW inlX5 tyX5 tyX5_ok nmX5 hown hK hP hD hS 0 rfl rfl 0 (by decide) (hW _ wd_64) rfl hin2 rfl (z_dI _) (Nat.le_of_ble_eq_true rfl) rfl dX5_init_9 (fun H locs hP hD hS => ?_)
  refine lv_aload_n hx hb dX5_init_12 rfl (lv_at hl 0 rfl) ?_
  refine lv_bipush (v := 20) hx hb dX5_init_13 (by decide) ?_
  refine z_newa (atype := .int) (ty := .int) (a0 := (20, .inl (fun _ => 0))) (N' := 20) 0 hx hb hW wd_3 rfl rfl (fun _ h => h) hK hP hD hS hA (fun _ => rfl) (by decide) (by decide) (Nat.le_of_ble_eq_true rfl) (Nat.le_of_ble_eq_true rfl) (Nat.le_of_ble_eq_true rfl) dX5_init_15 (fun q2 H hP hD hS => ?_)
  refine z_putq (ws' := (([(h0, .inr (6, [.ref q1, .ref q2, .int 0]))] ++ [(q1, .inl (G.1.1, 20, .inl (fun _ => 0)))]) ++ [(q2, .inl (G.1.1, 20, .inl (fun _ => 0)))])) (ci := 6) (C := RX5) (T := TX5) (N := 3) hx hb hW inlX5 tyX5 tyX5_ok nmX5 hown hK hP hD hS 0 rfl rfl 1 (by decide) (hW _ wd_65) rfl hin2 rfl (z_dI _) (Nat.le_of_ble_eq_true rfl) rfl dX5_init_17 (fun H locs hP hD hS => ?_)
  refine lv_aload_n hx hb dX5_init_20 rfl (lv_at hl 0 rfl) ?_
  refine lv_iconst (v := 0) hx hb dX5_init_21 (by decide) ?_
  refine z_put (v := 0) (ws' := (([(h0, .inr (6, [.ref q1, .ref q2, .int 0]))] ++ [(q1, .inl (G.1.1, 20, .inl (fun _ => 0)))]) ++ [(q2, .inl (G.1.1, 20, .inl (fun _ => 0)))])) (ci := 6) (C := RX5) (T := TX5) (N := 3) hx hb hW inlX5 tyX5 tyX5_ok nmX5 hown hK hP hD hS 0 rfl rfl 2 (by decide) (hW _ wd_66) rfl rfl (Nat.le_of_ble_eq_true rfl) rfl dX5_init_22 (fun H locs hP hD hS => ?_)
  exact hret _ _ _ _ (fun k => [q1, q2].getD k 0) hP hD hS dX5_init_25
set_option maxRecDepth 100000 in
set_option maxHeartbeats 4000000 in
theorem c_X0_init (l : Launch) (D : va_G) (G : zG) (h0 : Nat) : zMc l yX0_init cX0_init 1 1 12 1 6 D G [(h0, .inr (1, [.null, .int 0]))] (fun (u : Nat → Nat) => wX0 G (zad h0 u) 0 iX0) [.ref h0] := by
  refine zs_c (plainFor_of_name (by decide)) (Nat.le_of_ble_eq_true rfl) rfl ?_
  intro p e s m args below meth c A Q H ls C0 hin2 hret hP hD hS hl
  obtain ⟨hx, hb, hml, hown, hW, hK, hlocks, hF, hr, hA⟩ := id C0
  replace hl : lv_has ls 1 [(0, .ref h0)] := hl
  refine lv_aload_n hx hb dX0_init_0 rfl (lv_at hl 0 rfl) ?_
  refine W.objInit hx hb hown (hW _ wd_69) (hW _ wd_8) (hW _ wd_9) rfl (by rw [hml]; exact hl.1) rfl dX0_init_1 (Nat.le_of_ble_eq_true rfl) (Nat.le_of_ble_eq_true rfl) ?_
  refine W.eq (g2 := F0 m 4 ls []) rfl ?_
  refine lv_aload_n hx hb dX0_init_4 rfl (lv_at hl 0 rfl) ?_
  refine lv_bipush (v := 6) hx hb dX0_init_5 (by decide) ?_
  refine z_newa (atype := .int) (ty := .int) (a0 := (6, .inl (fun _ => 0))) (N' := 6) 0 hx hb hW wd_3 rfl rfl (fun _ h => h) hK hP hD hS hA (fun _ => rfl) (by decide) (by decide) (Nat.le_of_ble_eq_true rfl) (Nat.le_of_ble_eq_true rfl) (Nat.le_of_ble_eq_true rfl) dX0_init_7 (fun q1 H hP hD hS => ?_)
  refine z_putq (ws' := ([(h0, .inr (1, [.ref q1, .int 0]))] ++ [(q1, .inl (G.1.1, 6, .inl (fun _ => 0)))])) (ci := 1) (C := RX0) (T := TX0) (N := 2) hx hb hW inlX0 tyX0 tyX0_ok nmX0 hown hK hP hD hS 0 rfl rfl 0 (by decide) (hW _ wd_70) rfl hin2 rfl (z_dI _) (Nat.le_of_ble_eq_true rfl) rfl dX0_init_9 (fun H locs hP hD hS => ?_)
  refine lv_aload_n hx hb dX0_init_12 rfl (lv_at hl 0 rfl) ?_
  refine lv_iconst (v := 0) hx hb dX0_init_13 (by decide) ?_
  refine z_put (v := 0) (ws' := ([(h0, .inr (1, [.ref q1, .int 0]))] ++ [(q1, .inl (G.1.1, 6, .inl (fun _ => 0)))])) (ci := 1) (C := RX0) (T := TX0) (N := 2) hx hb hW inlX0 tyX0 tyX0_ok nmX0 hown hK hP hD hS 0 rfl rfl 1 (by decide) (hW _ wd_71) rfl rfl (Nat.le_of_ble_eq_true rfl) rfl dX0_init_14 (fun H locs hP hD hS => ?_)
  exact hret _ _ _ _ (fun k => [q1].getD k 0) hP hD hS dX0_init_17
set_option maxRecDepth 100000 in
set_option maxHeartbeats 4000000 in
theorem c_X3_init (l : Launch) (D : va_G) (G : zG) (h0 : Nat) : zMc l yX3_init cX3_init 1 1 12 3 30 D G [(h0, .inr (4, [.null, .null, .null, .int 0, .int 0]))] (fun (u : Nat → Nat) => wX3 G (zad h0 u) 0 iX3) [.ref h0] := by
  refine zs_c (plainFor_of_name (by decide)) (Nat.le_of_ble_eq_true rfl) rfl ?_
  intro p e s m args below meth c A Q H ls C0 hin2 hret hP hD hS hl
  obtain ⟨hx, hb, hml, hown, hW, hK, hlocks, hF, hr, hA⟩ := id C0
  replace hl : lv_has ls 1 [(0, .ref h0)] := hl
  refine lv_aload_n hx hb dX3_init_0 rfl (lv_at hl 0 rfl) ?_
  refine W.objInit hx hb hown (hW _ wd_74) (hW _ wd_8) (hW _ wd_9) rfl (by rw [hml]; exact hl.1) rfl dX3_init_1 (Nat.le_of_ble_eq_true rfl) (Nat.le_of_ble_eq_true rfl) ?_
  refine W.eq (g2 := F0 m 4 ls []) rfl ?_
  refine lv_aload_n hx hb dX3_init_4 rfl (lv_at hl 0 rfl) ?_
  refine lv_bipush (v := 10) hx hb dX3_init_5 (by decide) ?_
  refine z_newa (atype := .int) (ty := .int) (a0 := (10, .inl (fun _ => 0))) (N' := 10) 0 hx hb hW wd_3 rfl rfl (fun _ h => h) hK hP hD hS hA (fun _ => rfl) (by decide) (by decide) (Nat.le_of_ble_eq_true rfl) (Nat.le_of_ble_eq_true rfl) (Nat.le_of_ble_eq_true rfl) dX3_init_7 (fun q1 H hP hD hS => ?_)
  refine z_putq (ws' := ([(h0, .inr (4, [.ref q1, .null, .null, .int 0, .int 0]))] ++ [(q1, .inl (G.1.1, 10, .inl (fun _ => 0)))])) (ci := 4) (C := RX3) (T := TX3) (N := 5) hx hb hW inlX3 tyX3 tyX3_ok nmX3 hown hK hP hD hS 0 rfl rfl 0 (by decide) (hW _ wd_75) rfl hin2 rfl (z_dI _) (Nat.le_of_ble_eq_true rfl) rfl dX3_init_9 (fun H locs hP hD hS => ?_)
  refine lv_aload_n hx hb dX3_init_12 rfl (lv_at hl 0 rfl) ?_
  refine lv_bipush (v := 10) hx hb dX3_init_13 (by decide) ?_
  refine z_newa (atype := .int) (ty := .int) (a0 := (10, .inl (fun _ => 0))) (N' := 10) 0 hx hb hW wd_3 rfl rfl (fun _ h => h) hK hP hD hS hA (fun _ => rfl) (by decide) (by decide) (Nat.le_of_ble_eq_true rfl) (Nat.le_of_ble_eq_true rfl) (Nat.le_of_ble_eq_true rfl) dX3_init_15 (fun q2 H hP hD hS => ?_)
  refine z_putq (ws' := (([(h0, .inr (4, [.ref q1, .ref q2, .null, .int 0, .int 0]))] ++ [(q1, .inl (G.1.1, 10, .inl (fun _ => 0)))]) ++ [(q2, .inl (G.1.1, 10, .inl (fun _ => 0)))])) (ci := 4) (C := RX3) (T := TX3) (N := 5) hx hb hW inlX3 tyX3 tyX3_ok nmX3 hown hK hP hD hS 0 rfl rfl 1 (by decide) (hW _ wd_76) rfl hin2 rfl (z_dI _) (Nat.le_of_ble_eq_true rfl) rfl dX3_init_17 (fun H locs hP hD hS => ?_)
  refine lv_aload_n hx hb dX3_init_20 rfl (lv_at hl 0 rfl) ?_
  refine lv_bipush (v := 10) hx hb dX3_init_21 (by decide) ?_
  refine z_newa (atype := .int) (ty := .int) (a0 := (10, .inl (fun _ => 0))) (N' := 10) 0 hx hb hW wd_3 rfl rfl (fun _ h => h) hK hP hD hS hA (fun _ => rfl) (by decide) (by decide) (Nat.le_of_ble_eq_true rfl) (Nat.le_of_ble_eq_true rfl) (Nat.le_of_ble_eq_true rfl) dX3_init_23 (fun q3 H hP hD hS => ?_)
  refine z_putq (ws' := ((([(h0, .inr (4, [.ref q1, .ref q2, .ref q3, .int 0, .int 0]))] ++ [(q1, .inl (G.1.1, 10, .inl (fun _ => 0)))]) ++ [(q2, .inl (G.1.1, 10, .inl (fun _ => 0)))]) ++ [(q3, .inl (G.1.1, 10, .inl (fun _ => 0)))])) (ci := 4) (C := RX3) (T := TX3) (N := 5) hx hb hW inlX3 tyX3 tyX3_ok nmX3 hown hK hP hD hS 0 rfl rfl 2 (by decide) (hW _ wd_77) rfl hin2 rfl (z_dI _) (Nat.le_of_ble_eq_true rfl) rfl dX3_init_25 (fun H locs hP hD hS => ?_)
  refine lv_aload_n hx hb dX3_init_28 rfl (lv_at hl 0 rfl) ?_
  refine lv_iconst (v := 0) hx hb dX3_init_29 (by decide) ?_
  refine z_put (v := 0) (ws' := ((([(h0, .inr (4, [.ref q1, .ref q2, .ref q3, .int 0, .int 0]))] ++ [(q1, .inl (G.1.1, 10, .inl (fun _ => 0)))]) ++ [(q2, .inl (G.1.1, 10, .inl (fun _ => 0)))]) ++ [(q3, .inl (G.1.1, 10, .inl (fun _ => 0)))])) (ci := 4) (C := RX3) (T := TX3) (N := 5) hx hb hW inlX3 tyX3 tyX3_ok nmX3 hown hK hP hD hS 0 rfl rfl 3 (by decide) (hW _ wd_78) rfl rfl (Nat.le_of_ble_eq_true rfl) rfl dX3_init_30 (fun H locs hP hD hS => ?_)
  refine lv_aload_n hx hb dX3_init_33 rfl (lv_at hl 0 rfl) ?_
  refine lv_iconst (v := 0) hx hb dX3_init_34 (by decide) ?_
  refine z_put (v := 0) (ws' := ((([(h0, .inr (4, [.ref q1, .ref q2, .ref q3, .int 0, .int 0]))] ++ [(q1, .inl (G.1.1, 10, .inl (fun _ => 0)))]) ++ [(q2, .inl (G.1.1, 10, .inl (fun _ => 0)))]) ++ [(q3, .inl (G.1.1, 10, .inl (fun _ => 0)))])) (ci := 4) (C := RX3) (T := TX3) (N := 5) hx hb hW inlX3 tyX3 tyX3_ok nmX3 hown hK hP hD hS 0 rfl rfl 4 (by decide) (hW _ wd_79) rfl rfl (Nat.le_of_ble_eq_true rfl) rfl dX3_init_35 (fun H locs hP hD hS => ?_)
  exact hret _ _ _ _ (fun k => [q1, q2, q3].getD k 0) hP hD hS dX3_init_38
set_option maxRecDepth 100000 in
set_option maxHeartbeats 4000000 in
theorem c_X1_init (l : Launch) (D : va_G) (G : zG) (h0 : Nat) : zMc l yX1_init cX1_init 1 2 32 11 99 D G [(h0, .inr (2, [.null, .null, .null, .null, .null, .int 0, .int 0, .int 0, .int 0, .int 0, .int 0, .int 0, .int 0, .int 0, .int 0, .int 0, .int 0]))] (fun (u : Nat → Nat) => wX1 G (zad h0 u) 0 iX1) [.ref h0] := by
  refine zs_c (plainFor_of_name (by decide)) (Nat.le_of_ble_eq_true rfl) rfl ?_
  intro p e s m args below meth c A Q H ls C0 hin2 hret hP hD hS hl
  obtain ⟨hx, hb, hml, hown, hW, hK, hlocks, hF, hr, hA⟩ := id C0
  replace hl : lv_has ls 1 [(0, .ref h0)] := hl
  refine lv_aload_n hx hb dX1_init_0 rfl (lv_at hl 0 rfl) ?_
  refine W.objInit hx hb hown (hW _ wd_30) (hW _ wd_8) (hW _ wd_9) rfl (by rw [hml]; exact hl.1) rfl dX1_init_1 (Nat.le_of_ble_eq_true rfl) (Nat.le_of_ble_eq_true rfl) ?_
  refine W.eq (g2 := F0 m 4 ls []) rfl ?_
  refine lv_aload_n hx hb dX1_init_4 rfl (lv_at hl 0 rfl) ?_
  refine lv_iconst (v := 5) hx hb dX1_init_5 (by decide) ?_
  refine z_newa (atype := .int) (ty := .int) (a0 := (5, .inl (fun _ => 0))) (N' := 5) 0 hx hb hW wd_3 rfl rfl (fun _ h => h) hK hP hD hS hA (fun _ => rfl) (by decide) (by decide) (Nat.le_of_ble_eq_true rfl) (Nat.le_of_ble_eq_true rfl) (Nat.le_of_ble_eq_true rfl) dX1_init_6 (fun q1 H hP hD hS => ?_)
  refine z_putq (ws' := ([(h0, .inr (2, [.ref q1, .null, .null, .null, .null, .int 0, .int 0, .int 0, .int 0, .int 0, .int 0, .int 0, .int 0, .int 0, .int 0, .int 0, .int 0]))] ++ [(q1, .inl (G.1.1, 5, .inl (fun _ => 0)))])) (ci := 2) (C := RX1) (T := TX1) (N := 17) hx hb hW inlX1 tyX1 tyX1_ok nmX1 hown hK hP hD hS 0 rfl rfl 0 (by decide) (hW _ wd_31) rfl hin2 rfl (z_dI _) (Nat.le_of_ble_eq_true rfl) rfl dX1_init_8 (fun H locs hP hD hS => ?_)
  refine lv_aload_n hx hb dX1_init_11 rfl (lv_at hl 0 rfl) ?_
  refine lv_bipush (v := 8) hx hb dX1_init_12 (by decide) ?_
  refine z_newa (atype := .int) (ty := .int) (a0 := (8, .inl (fun _ => 0))) (N' := 8) 0 hx hb hW wd_3 rfl rfl (fun _ h => h) hK hP hD hS hA (fun _ => rfl) (by decide) (by decide) (Nat.le_of_ble_eq_true rfl) (Nat.le_of_ble_eq_true rfl) (Nat.le_of_ble_eq_true rfl) dX1_init_14 (fun q2 H hP hD hS => ?_)
  refine z_putq (ws' := (([(h0, .inr (2, [.ref q1, .ref q2, .null, .null, .null, .int 0, .int 0, .int 0, .int 0, .int 0, .int 0, .int 0, .int 0, .int 0, .int 0, .int 0, .int 0]))] ++ [(q1, .inl (G.1.1, 5, .inl (fun _ => 0)))]) ++ [(q2, .inl (G.1.1, 8, .inl (fun _ => 0)))])) (ci := 2) (C := RX1) (T := TX1) (N := 17) hx hb hW inlX1 tyX1 tyX1_ok nmX1 hown hK hP hD hS 0 rfl rfl 1 (by decide) (hW _ wd_32) rfl hin2 rfl (z_dI _) (Nat.le_of_ble_eq_true rfl) rfl dX1_init_16 (fun H locs hP hD hS => ?_)
  refine lv_aload_n hx hb dX1_init_19 rfl (lv_at hl 0 rfl) ?_
  refine va_new (ci := 6) (fs := [.null, .null, .int 0]) (C := RX5) (T := TX5) (N := 3) hx hb hW inlX5 tyX5 tyX5_ok hown (hW _ wd_33) (hW _ wd_34) (hW _ wd_35) hK hP hD hS hA rfl (fun j hj => by rcases (show j = 0 ∨ j = 1 ∨ j = 2 by omega) with rfl | rfl | rfl <;> rfl) (Nat.le_of_ble_eq_true rfl) (Nat.le_of_ble_eq_true rfl) dX1_init_20 (fun q3 H hP hD hS => ?_)
  refine lv_dup hx hb dX1_init_23 rfl ?_
  refine z_cn (rest := [.ref q3, .ref h0]) C0 (by decide +kernel) wd_61 wd_35 wd_62 rfl (by decide +kernel) (c_X5_init l D G q3) z_pap (fun _ => z_pap) rfl ⟨Nat.le_of_ble_eq_true rfl, Nat.le_of_ble_eq_true rfl⟩ (Nat.le_of_ble_eq_true rfl) rfl hl.1 ⟨Nat.le_of_ble_eq_true rfl, Nat.le_of_ble_eq_true rfl⟩ hP hD hS dX1_init_24 (fun a24 H locs hP hD hS => ?_)
  refine z_putq (ws' := ((([(h0, .inr (2, [.ref q1, .ref q2, .ref q3, .null, .null, .int 0, .int 0, .int 0, .int 0, .int 0, .int 0, .int 0, .int 0, .int 0, .int 0, .int 0, .int 0]))] ++ [(q1, .inl (G.1.1, 5, .inl (fun _ => 0)))]) ++ [(q2, .inl (G.1.1, 8, .inl (fun _ => 0)))]) ++ wX5 G (zad q3 a24) 0 iX5)) (ci := 2) (C := RX1) (T := TX1) (N := 17) hx hb hW inlX1 tyX1 tyX1_ok nmX1 hown hK hP hD hS 0 rfl rfl 2 (by decide) (hW _ wd_36) rfl hin2 rfl (z_dX5 _) (Nat.le_of_ble_eq_true rfl) rfl dX1_init_27 (fun H locs hP hD hS => ?_)
  refine lv_aload_n hx hb dX1_init_30 rfl (lv_at hl 0 rfl) ?_
  refine va_new (ci := 1) (fs := [.null, .int 0]) (C := RX0) (T := TX0) (N := 2) hx hb hW inlX0 tyX0 tyX0_ok hown (hW _ wd_37) (hW _ wd_38) (hW _ wd_39) hK hP hD hS hA rfl (fun j hj => by rcases (show j = 0 ∨ j = 1 by omega) with rfl | rfl <;> rfl) (Nat.le_of_ble_eq_true rfl) (Nat.le_of_ble_eq_true rfl) dX1_init_31 (fun q4 H hP hD hS => ?_)
  refine lv_dup hx hb dX1_init_34 rfl ?_
  refine z_cn (rest := [.ref q4, .ref h0]) C0 (by decide +kernel) wd_67 wd_39 wd_68 rfl (by decide +kernel) (c_X0_init l D G q4) z_pap (fun _ => z_pap) rfl ⟨Nat.le_of_ble_eq_true rfl, Nat.le_of_ble_eq_true rfl⟩ (Nat.le_of_ble_eq_true rfl) rfl hl.1 ⟨Nat.le_of_ble_eq_true rfl, Nat.le_of_ble_eq_true rfl⟩ hP hD hS dX1_init_35 (fun a35 H locs hP hD hS => ?_)
  refine z_putq (ws' := (((([(h0, .inr (2, [.ref q1, .ref q2, .ref q3, .ref q4, .null, .int 0, .int 0, .int 0, .int 0, .int 0, .int 0, .int 0, .int 0, .int 0, .int 0, .int 0, .int 0]))] ++ [(q1, .inl (G.1.1, 5, .inl (fun _ => 0)))]) ++ [(q2, .inl (G.1.1, 8, .inl (fun _ => 0)))]) ++ wX5 G (zad q3 a24) 0 iX5) ++ wX0 G (zad q4 a35) 0 iX0)) (ci := 2) (C := RX1) (T := TX1) (N := 17) hx hb hW inlX1 tyX1 tyX1_ok nmX1 hown hK hP hD hS 0 rfl rfl 3 (by decide) (hW _ wd_40) rfl hin2 rfl (z_dX0 _) (Nat.le_of_ble_eq_true rfl) rfl dX1_init_38 (fun H locs hP hD hS => ?_)
  refine lv_aload_n hx hb dX1_init_41 rfl (lv_at hl 0 rfl) ?_
  refine va_new (ci := 4) (fs := [.null, .null, .null, .int 0, .int 0]) (C := RX3) (T := TX3) (N := 5) hx hb hW inlX3 tyX3 tyX3_ok hown (hW _ wd_41) (hW _ wd_42) (hW _ wd_43) hK hP hD hS hA rfl (fun j hj => by rcases (show j = 0 ∨ j = 1 ∨ j = 2 ∨ j = 3 ∨ j = 4 by omega) with rfl | rfl | rfl | rfl | rfl <;> rfl) (Nat.le_of_ble_eq_true rfl) (Nat.le_of_ble_eq_true rfl) dX1_init_42 (fun q5 H hP hD hS => ?_)
  refine lv_dup hx hb dX1_init_45 rfl ?_
  refine z_cn (rest := [.ref q5, .ref h0]) C0 (by decide +kernel) wd_72 wd_43 wd_73 rfl (by decide +kernel) (c_X3_init l D G q5) z_pap (fun _ => z_pap) rfl ⟨Nat.le_of_ble_eq_true rfl, Nat.le_of_ble_eq_true rfl⟩ (Nat.le_of_ble_eq_true rfl) rfl hl.1 ⟨Nat.le_of_ble_eq_true rfl, Nat.le_of_ble_eq_true rfl⟩ hP hD hS dX1_init_46 (fun a46 H locs hP hD hS => ?_)
  refine z_putq (ws' := ((((([(h0, .inr (2, [.ref q1, .ref q2, .ref q3, .ref q4, .ref q5, .int 0, .int 0, .int 0, .int 0, .int 0, .int 0, .int 0, .int 0, .int 0, .int 0, .int 0, .int 0]))] ++ [(q1, .inl (G.1.1, 5, .inl (fun _ => 0)))]) ++ [(q2, .inl (G.1.1, 8, .inl (fun _ => 0)))]) ++ wX5 G (zad q3 a24) 0 iX5) ++ wX0 G (zad q4 a35) 0 iX0) ++ wX3 G (zad q5 a46) 0 iX3)) (ci := 2) (C := RX1) (T := TX1) (N := 17) hx hb hW inlX1 tyX1 tyX1_ok nmX1 hown hK hP hD hS 0 rfl rfl 4 (by decide) (hW _ wd_44) rfl hin2 rfl (z_dX3 _) (Nat.le_of_ble_eq_true rfl) rfl dX1_init_49 (fun H locs hP hD hS => ?_)
  refine lv_aload_n hx hb dX1_init_52 rfl (lv_at hl 0 rfl) ?_
  refine lv_iconst (v := 0) hx hb dX1_init_53 (by decide) ?_
  refine z_put (v := 0) (ws' := ((((([(h0, .inr (2, [.ref q1, .ref q2, .ref q3, .ref q4, .ref q5, .int 0, .int 0, .int 0, .int 0, .int 0, .int 0, .int 0, .int 0, .int 0, .int 0, .int 0, .int 0]))] ++ [(q1, .inl (G.1.1, 5, .inl (fun _ => 0)))]) ++ [(q2, .inl (G.1.1, 8, .inl (fun _ => 0)))]) ++ wX5 G (zad q3 a24) 0 iX5) ++ wX0 G (zad q4 a35) 0 iX0) ++ wX3 G (zad q5 a46) 0 iX3)) (ci := 2) (C := RX1) (T := TX1) (N := 17) hx hb hW inlX1 tyX1 tyX1_ok nmX1 hown hK hP hD hS 0 rfl rfl 5 (by decide) (hW _ wd_45) rfl rfl (Nat.le_of_ble_eq_true rfl) rfl dX1_init_54 (fun H locs hP hD hS => ?_)
  refine lv_aload_n hx hb dX1_init_57 rfl (lv_at hl 0 rfl) ?_
  refine lv_bipush (v := 6) hx hb dX1_init_58 (by decide) ?_
  refine z_put (v := 6) (ws' := ((((([(h0, .inr (2, [.ref q1, .ref q2, .ref q3, .ref q4, .ref q5, .int 0, .int 6, .int 0, .int 0, .int 0, .int 0, .int 0, .int 0, .int 0, .int 0, .int 0, .int 0]))] ++ [(q1, .inl (G.1.1, 5, .inl (fun _ => 0)))]) ++ [(q2, .inl (G.1.1, 8, .inl (fun _ => 0)))]) ++ wX5 G (zad q3 a24) 0 iX5) ++ wX0 G (zad q4 a35) 0 iX0) ++ wX3 G (zad q5 a46) 0 iX3)) (ci := 2) (C := RX1) (T := TX1) (N := 17) hx hb hW inlX1 tyX1 tyX1_ok nmX1 hown hK hP hD hS 0 rfl rfl 6 (by decide) (hW _ wd_46) rfl rfl (Nat.le_of_ble_eq_true rfl) rfl dX1_init_60 (fun H locs hP hD hS => ?_)
  refine lv_aload_n hx hb dX1_init_63 rfl (lv_at hl 0 rfl) ?_
  refine lv_iconst (v := 0) hx hb dX1_init_64 (by decide) ?_
  refine z_put (v := 0) (ws' := ((((([(h0, .inr (2, [.ref q1, .ref q2, .ref q3, .ref q4, .ref q5, .int 0, .int 6, .int 0, .int 0, .int 0, .int 0, .int 0, .int 0, .int 0, .int 0, .int 0, .int 0]))] ++ [(q1, .inl (G.1.1, 5, .inl (fun _ => 0)))]) ++ [(q2, .inl (G.1.1, 8, .inl (fun _ => 0)))]) ++ wX5 G (zad q3 a24) 0 iX5) ++ wX0 G (zad q4 a35) 0 iX0) ++ wX3 G (zad q5 a46) 0 iX3)) (ci := 2) (C := RX1) (T := TX1) (N := 17) hx hb hW inlX1 tyX1 tyX1_ok nmX1 hown hK hP hD hS 0 rfl rfl 7 (by decide) (hW _ wd_47) rfl rfl (Nat.le_of_ble_eq_true rfl) rfl dX1_init_65 (fun H locs hP hD hS => ?_)
  refine lv_aload_n hx hb dX1_init_68 rfl (lv_at hl 0 rfl) ?_
  refine lv_iconst (v := 0) hx hb dX1_init_69 (by decide) ?_
  refine z_put (v := 0) (ws' := ((((([(h0, .inr (2, [.ref q1, .ref q2, .ref q3, .ref q4, .ref q5, .int 0, .int 6, .int 0, .int 0, .int 0, .int 0, .int 0, .int 0, .int 0, .int 0, .int 0, .int 0]))] ++ [(q1, .inl (G.1.1, 5, .inl (fun _ => 0)))]) ++ [(q2, .inl (G.1.1, 8, .inl (fun _ => 0)))]) ++ wX5 G (zad q3 a24) 0 iX5) ++ wX0 G (zad q4 a35) 0 iX0) ++ wX3 G (zad q5 a46) 0 iX3)) (ci := 2) (C := RX1) (T := TX1) (N := 17) hx hb hW inlX1 tyX1 tyX1_ok nmX1 hown hK hP hD hS 0 rfl rfl 8 (by decide) (hW _ wd_48) rfl rfl (Nat.le_of_ble_eq_true rfl) rfl dX1_init_70 (fun H locs hP hD hS => ?_)
  refine lv_aload_n hx hb dX1_init_73 rfl (lv_at hl 0 rfl) ?_
  refine lv_bipush (v := (-6)) hx hb dX1_init_74 (by decide) ?_
  refine z_put (v := (-6)) (ws' := ((((([(h0, .inr (2, [.ref q1, .ref q2, .ref q3, .ref q4, .ref q5, .int 0, .int 6, .int 0, .int 0, .int (-6), .int 0, .int 0, .int 0, .int 0, .int 0, .int 0, .int 0]))] ++ [(q1, .inl (G.1.1, 5, .inl (fun _ => 0)))]) ++ [(q2, .inl (G.1.1, 8, .inl (fun _ => 0)))]) ++ wX5 G (zad q3 a24) 0 iX5) ++ wX0 G (zad q4 a35) 0 iX0) ++ wX3 G (zad q5 a46) 0 iX3)) (ci := 2) (C := RX1) (T := TX1) (N := 17) hx hb hW inlX1 tyX1 tyX1_ok nmX1 hown hK hP hD hS 0 rfl rfl 9 (by decide) (hW _ wd_49) rfl rfl (Nat.le_of_ble_eq_true rfl) rfl dX1_init_76 (fun H locs hP hD hS => ?_)
  refine lv_aload_n hx hb dX1_init_79 rfl (lv_at hl 0 rfl) ?_
  refine lv_iconst (v := 0) hx hb dX1_init_80 (by decide) ?_
  refine z_put (v := 0) (ws' := ((((([(h0, .inr (2, [.ref q1, .ref q2, .ref q3, .ref q4, .ref q5, .int 0, .int 6, .int 0, .int 0, .int (-6), .int 0, .int 0, .int 0, .int 0, .int 0, .int 0, .int 0]))] ++ [(q1, .inl (G.1.1, 5, .inl (fun _ => 0)))]) ++ [(q2, .inl (G.1.1, 8, .inl (fun _ => 0)))]) ++ wX5 G (zad q3 a24) 0 iX5) ++ wX0 G (zad q4 a35) 0 iX0) ++ wX3 G (zad q5 a46) 0 iX3)) (ci := 2) (C := RX1) (T := TX1) (N := 17) hx hb hW inlX1 tyX1 tyX1_ok nmX1 hown hK hP hD hS 0 rfl rfl 10 (by decide) (hW _ wd_50) rfl rfl (Nat.le_of_ble_eq_true rfl) rfl dX1_init_81 (fun H locs hP hD hS => ?_)
  refine lv_aload_n hx hb dX1_init_84 rfl (lv_at hl 0 rfl) ?_
  refine lv_iconst (v := 0) hx hb dX1_init_85 (by decide) ?_
  refine z_put (v := 0) (ws' := ((((([(h0, .inr (2, [.ref q1, .ref q2, .ref q3, .ref q4, .ref q5, .int 0, .int 6, .int 0, .int 0, .int (-6), .int 0, .int 0, .int 0, .int 0, .int 0, .int 0, .int 0]))] ++ [(q1, .inl (G.1.1, 5, .inl (fun _ => 0)))]) ++ [(q2, .inl (G.1.1, 8, .inl (fun _ => 0)))]) ++ wX5 G (zad q3 a24) 0 iX5) ++ wX0 G (zad q4 a35) 0 iX0) ++ wX3 G (zad q5 a46) 0 iX3)) (ci := 2) (C := RX1) (T := TX1) (N := 17) hx hb hW inlX1 tyX1 tyX1_ok nmX1 hown hK hP hD hS 0 rfl rfl 11 (by decide) (hW _ wd_51) rfl rfl (Nat.le_of_ble_eq_true rfl) rfl dX1_init_86 (fun H locs hP hD hS => ?_)
  refine lv_aload_n hx hb dX1_init_89 rfl (lv_at hl 0 rfl) ?_
  refine lv_iconst (v := 0) hx hb dX1_init_90 (by decide) ?_
  refine z_put (v := 0) (ws' := ((((([(h0, .inr (2, [.ref q1, .ref q2, .ref q3, .ref q4, .ref q5, .int 0, .int 6, .int 0, .int 0, .int (-6), .int 0, .int 0, .int 0, .int 0, .int 0, .int 0, .int 0]))] ++ [(q1, .inl (G.1.1, 5, .inl (fun _ => 0)))]) ++ [(q2, .inl (G.1.1, 8, .inl (fun _ => 0)))]) ++ wX5 G (zad q3 a24) 0 iX5) ++ wX0 G (zad q4 a35) 0 iX0) ++ wX3 G (zad q5 a46) 0 iX3)) (ci := 2) (C := RX1) (T := TX1) (N := 17) hx hb hW inlX1 tyX1 tyX1_ok nmX1 hown hK hP hD hS 0 rfl rfl 12 (by decide) (hW _ wd_52) rfl rfl (Nat.le_of_ble_eq_true rfl) rfl dX1_init_91 (fun H locs hP hD hS => ?_)
  refine lv_aload_n hx hb dX1_init_94 rfl (lv_at hl 0 rfl) ?_
  refine lv_iconst (v := 0) hx hb dX1_init_95 (by decide) ?_
  refine z_put (v := 0) (ws' := ((((([(h0, .inr (2, [.ref q1, .ref q2, .ref q3, .ref q4, .ref q5, .int 0, .int 6, .int 0, .int 0, .int (-6), .int 0, .int 0, .int 0, .int 0, .int 0, .int 0, .int 0]))] ++ [(q1, .inl (G.1.1, 5, .inl (fun _ => 0)))]) ++ [(q2, .inl (G.1.1, 8, .inl (fun _ => 0)))]) ++ wX5 G (zad q3 a24) 0 iX5) ++ wX0 G (zad q4 a35) 0 iX0) ++ wX3 G (zad q5 a46) 0 iX3)) (ci := 2) (C := RX1) (T := TX1) (N := 17) hx hb hW inlX1 tyX1 tyX1_ok nmX1 hown hK hP hD hS 0 rfl rfl 13 (by decide) (hW _ wd_53) rfl rfl (Nat.le_of_ble_eq_true rfl) rfl dX1_init_96 (fun H locs hP hD hS => ?_)
  refine lv_aload_n hx hb dX1_init_99 rfl (lv_at hl 0 rfl) ?_
  refine lv_iconst (v := 0) hx hb dX1_init_100 (by decide) ?_
  refine z_put (v := 0) (ws' := ((((([(h0, .inr (2, [.ref q1, .ref q2, .ref q3, .ref q4, .ref q5, .int 0, .int 6, .int 0, .int 0, .int (-6), .int 0, .int 0, .int 0, .int 0, .int 0, .int 0, .int 0]))] ++ [(q1, .inl (G.1.1, 5, .inl (fun _ => 0)))]) ++ [(q2, .inl (G.1.1, 8, .inl (fun _ => 0)))]) ++ wX5 G (zad q3 a24) 0 iX5) ++ wX0 G (zad q4 a35) 0 iX0) ++ wX3 G (zad q5 a46) 0 iX3)) (ci := 2) (C := RX1) (T := TX1) (N := 17) hx hb hW inlX1 tyX1 tyX1_ok nmX1 hown hK hP hD hS 0 rfl rfl 14 (by decide) (hW _ wd_54) rfl rfl (Nat.le_of_ble_eq_true rfl) rfl dX1_init_101 (fun H locs hP hD hS => ?_)
  refine lv_aload_n hx hb dX1_init_104 rfl (lv_at hl 0 rfl) ?_
  refine lv_iconst (v := 0) hx hb dX1_init_105 (by decide) ?_
  refine z_put (v := 0) (ws' := ((((([(h0, .inr (2, [.ref q1, .ref q2, .ref q3, .ref q4, .ref q5, .int 0, .int 6, .int 0, .int 0, .int (-6), .int 0, .int 0, .int 0, .int 0, .int 0, .int 0, .int 0]))] ++ [(q1, .inl (G.1.1, 5, .inl (fun _ => 0)))]) ++ [(q2, .inl (G.1.1, 8, .inl (fun _ => 0)))]) ++ wX5 G (zad q3 a24) 0 iX5) ++ wX0 G (zad q4 a35) 0 iX0) ++ wX3 G (zad q5 a46) 0 iX3)) (ci := 2) (C := RX1) (T := TX1) (N := 17) hx hb hW inlX1 tyX1 tyX1_ok nmX1 hown hK hP hD hS 0 rfl rfl 15 (by decide) (hW _ wd_55) rfl rfl (Nat.le_of_ble_eq_true rfl) rfl dX1_init_106 (fun H locs hP hD hS => ?_)
  refine lv_aload_n hx hb dX1_init_109 rfl (lv_at hl 0 rfl) ?_
  refine lv_iconst (v := 0) hx hb dX1_init_110 (by decide) ?_
  refine z_put (v := 0) (ws' := ((((([(h0, .inr (2, [.ref q1, .ref q2, .ref q3, .ref q4, .ref q5, .int 0, .int 6, .int 0, .int 0, .int (-6), .int 0, .int 0, .int 0, .int 0, .int 0, .int 0, .int 0]))] ++ [(q1, .inl (G.1.1, 5, .inl (fun _ => 0)))]) ++ [(q2, .inl (G.1.1, 8, .inl (fun _ => 0)))]) ++ wX5 G (zad q3 a24) 0 iX5) ++ wX0 G (zad q4 a35) 0 iX0) ++ wX3 G (zad q5 a46) 0 iX3)) (ci := 2) (C := RX1) (T := TX1) (N := 17) hx hb hW inlX1 tyX1 tyX1_ok nmX1 hown hK hP hD hS 0 rfl rfl 16 (by decide) (hW _ wd_56) rfl rfl (Nat.le_of_ble_eq_true rfl) rfl dX1_init_111 (fun H locs hP hD hS => ?_)
  refine va_getsN (ref := "QuietChecks") (host := "QuietChecks") hx hb hF.2.2.2.1.1 hS hown (va_Nw.use rfl (hF.1 _ (by decide +kernel : Cond.fieldLinkNest "QuietChecks$Disk" 76 "QuietChecks" "FIRST_SETTING" "[I" "QuietChecks" ∈ zNest))) (fun _ h9 => h9) dX1_init_114 ?_
  refine lv_iconst (v := 0) hx hb dX1_init_117 (by decide) ?_
  refine lv_aload_n hx hb dX1_init_118 rfl (lv_at hl 0 rfl) ?_
  refine va_get (D := D) (ci := 2) (v := .ref q1) (C := RX1) (T := TX1) (N := 17) hx hb hW inlX1 hown hK hP 0 rfl rfl 0 (by decide) (hW _ wd_31) (fun _ h9 => h9) rfl dX1_init_119 ?_
  refine lv_iconst (v := 0) hx hb dX1_init_122 (by decide) ?_
  refine lv_iconst (v := 5) hx hb dX1_init_123 (by decide) ?_
  refine z_copyT (ws' := ((((([(h0, .inr (2, [.ref q1, .ref q2, .ref q3, .ref q4, .ref q5, .int 0, .int 6, .int 0, .int 0, .int (-6), .int 0, .int 0, .int 0, .int 0, .int 0, .int 0, .int 0]))] ++ [(q1, .inl (G.1.1, 5, .inl (va_cpy zFirstI (fun _ => 0) 0 0 5)))]) ++ [(q2, .inl (G.1.1, 8, .inl (fun _ => 0)))]) ++ wX5 G (zad q3 a24) 0 iX5) ++ wX0 G (zad q4 a35) 0 iX0) ++ wX3 G (zad q5 a46) 0 iX3)) (f := zFirstI) hx hb (hml.trans hl.1.symm) hown (hW _ wd_57) (hW _ wd_58) (hW _ wd_59) (hW _ wd_60) hK hP hD hS hF.2.2.2.1.2 1 0 rfl rfl (by decide) (k := 5) (by decide) (by decide) (by decide) rfl rfl (Nat.le_of_ble_eq_true rfl) (Nat.le_of_ble_eq_true rfl) dX1_init_124 (fun H locs hP hD hS => ?_)
  exact hret _ _ _ _ (fun k => [q1, q2, q3, a24 0, a24 1, q4, a35 0, q5, a46 0, a46 1, a46 2].getD k 0) hP hD hS dX1_init_127
set_option maxRecDepth 100000 in
set_option maxHeartbeats 4000000 in
theorem c_X4_init (l : Launch) (D : va_G) (G : zG) (h0 : Nat) : zMc l yX4_init cX4_init 1 1 12 4 128 D G [(h0, .inr (5, [.null, .int 0, .int 0, .null, .null, .null, .int 0, .int 0]))] (fun (u : Nat → Nat) => wX4 G (zad h0 u) 0 iX4) [.ref h0] := by
  refine zs_c (plainFor_of_name (by decide)) (Nat.le_of_ble_eq_true rfl) rfl ?_
  intro p e s m args below meth c A Q H ls C0 hin2 hret hP hD hS hl
  obtain ⟨hx, hb, hml, hown, hW, hK, hlocks, hF, hr, hA⟩ := id C0
  replace hl : lv_has ls 1 [(0, .ref h0)] := hl
  refine lv_aload_n hx hb dX4_init_0 rfl (lv_at hl 0 rfl) ?_
  refine W.objInit hx hb hown (hW _ wd_90) (hW _ wd_8) (hW _ wd_9) rfl (by rw [hml]; exact hl.1) rfl dX4_init_1 (Nat.le_of_ble_eq_true rfl) (Nat.le_of_ble_eq_true rfl) ?_
  refine W.eq (g2 := F0 m 4 ls []) rfl ?_
  refine lv_aload_n hx hb dX4_init_4 rfl (lv_at hl 0 rfl) ?_
  refine lv_bipush (v := 80) hx hb dX4_init_5 (by decide) ?_
  refine z_newa (atype := .char) (ty := .char) (a0 := (80, .inl (fun _ => 0))) (N' := 80) 1 hx hb hW wd_91 rfl rfl (fun _ h => h) hK hP hD hS hA (fun _ => rfl) (by decide) (by decide) (Nat.le_of_ble_eq_true rfl) (Nat.le_of_ble_eq_true rfl) (Nat.le_of_ble_eq_true rfl) dX4_init_7 (fun q1 H hP hD hS => ?_)
  refine z_putq (ws' := ([(h0, .inr (5, [.ref q1, .int 0, .int 0, .null, .null, .null, .int 0, .int 0]))] ++ [(q1, .inl (G.1.2.1, 80, .inl (fun _ => 0)))])) (ci := 5) (C := RX4) (T := TX4) (N := 8) hx hb hW inlX4 tyX4 tyX4_ok nmX4 hown hK hP hD hS 0 rfl rfl 0 (by decide) (hW _ wd_92) rfl hin2 rfl (z_dC _) (Nat.le_of_ble_eq_true rfl) rfl dX4_init_9 (fun H locs hP hD hS => ?_)
  refine lv_aload_n hx hb dX4_init_12 rfl (lv_at hl 0 rfl) ?_
  refine lv_iconst (v := 0) hx hb dX4_init_13 (by decide) ?_
  refine z_put (v := 0) (ws' := ([(h0, .inr (5, [.ref q1, .int 0, .int 0, .null, .null, .null, .int 0, .int 0]))] ++ [(q1, .inl (G.1.2.1, 80, .inl (fun _ => 0)))])) (ci := 5) (C := RX4) (T := TX4) (N := 8) hx hb hW inlX4 tyX4 tyX4_ok nmX4 hown hK hP hD hS 0 rfl rfl 1 (by decide) (hW _ wd_93) rfl rfl (Nat.le_of_ble_eq_true rfl) rfl dX4_init_14 (fun H locs hP hD hS => ?_)
  refine lv_aload_n hx hb dX4_init_17 rfl (lv_at hl 0 rfl) ?_
  refine lv_iconst (v := 0) hx hb dX4_init_18 (by decide) ?_
  refine z_put (v := 0) (ws' := ([(h0, .inr (5, [.ref q1, .int 0, .int 0, .null, .null, .null, .int 0, .int 0]))] ++ [(q1, .inl (G.1.2.1, 80, .inl (fun _ => 0)))])) (ci := 5) (C := RX4) (T := TX4) (N := 8) hx hb hW inlX4 tyX4 tyX4_ok nmX4 hown hK hP hD hS 0 rfl rfl 2 (by decide) (hW _ wd_94) rfl rfl (Nat.le_of_ble_eq_true rfl) rfl dX4_init_19 (fun H locs hP hD hS => ?_)
  refine lv_aload_n hx hb dX4_init_22 rfl (lv_at hl 0 rfl) ?_
  refine lv_bipush (v := 16) hx hb dX4_init_23 (by decide) ?_
  refine z_newa (atype := .int) (ty := .int) (a0 := (16, .inl (fun _ => 0))) (N' := 16) 0 hx hb hW wd_3 rfl rfl (fun _ h => h) hK hP hD hS hA (fun _ => rfl) (by decide) (by decide) (Nat.le_of_ble_eq_true rfl) (Nat.le_of_ble_eq_true rfl) (Nat.le_of_ble_eq_true rfl) dX4_init_25 (fun q2 H hP hD hS => ?_)
  refine z_putq (ws' := (([(h0, .inr (5, [.ref q1, .int 0, .int 0, .ref q2, .null, .null, .int 0, .int 0]))] ++ [(q1, .inl (G.1.2.1, 80, .inl (fun _ => 0)))]) ++ [(q2, .inl (G.1.1, 16, .inl (fun _ => 0)))])) (ci := 5) (C := RX4) (T := TX4) (N := 8) hx hb hW inlX4 tyX4 tyX4_ok nmX4 hown hK hP hD hS 0 rfl rfl 3 (by decide) (hW _ wd_95) rfl hin2 rfl (z_dI _) (Nat.le_of_ble_eq_true rfl) rfl dX4_init_27 (fun H locs hP hD hS => ?_)
  refine lv_aload_n hx hb dX4_init_30 rfl (lv_at hl 0 rfl) ?_
  refine lv_bipush (v := 16) hx hb dX4_init_31 (by decide) ?_
  refine z_newa (atype := .int) (ty := .int) (a0 := (16, .inl (fun _ => 0))) (N' := 16) 0 hx hb hW wd_3 rfl rfl (fun _ h => h) hK hP hD hS hA (fun _ => rfl) (by decide) (by decide) (Nat.le_of_ble_eq_true rfl) (Nat.le_of_ble_eq_true rfl) (Nat.le_of_ble_eq_true rfl) dX4_init_33 (fun q3 H hP hD hS => ?_)
  refine z_putq (ws' := ((([(h0, .inr (5, [.ref q1, .int 0, .int 0, .ref q2, .ref q3, .null, .int 0, .int 0]))] ++ [(q1, .inl (G.1.2.1, 80, .inl (fun _ => 0)))]) ++ [(q2, .inl (G.1.1, 16, .inl (fun _ => 0)))]) ++ [(q3, .inl (G.1.1, 16, .inl (fun _ => 0)))])) (ci := 5) (C := RX4) (T := TX4) (N := 8) hx hb hW inlX4 tyX4 tyX4_ok nmX4 hown hK hP hD hS 0 rfl rfl 4 (by decide) (hW _ wd_96) rfl hin2 rfl (z_dI _) (Nat.le_of_ble_eq_true rfl) rfl dX4_init_35 (fun H locs hP hD hS => ?_)
  refine lv_aload_n hx hb dX4_init_38 rfl (lv_at hl 0 rfl) ?_
  refine lv_bipush (v := 16) hx hb dX4_init_39 (by decide) ?_
  refine z_newa (atype := .int) (ty := .int) (a0 := (16, .inl (fun _ => 0))) (N' := 16) 0 hx hb hW wd_3 rfl rfl (fun _ h => h) hK hP hD hS hA (fun _ => rfl) (by decide) (by decide) (Nat.le_of_ble_eq_true rfl) (Nat.le_of_ble_eq_true rfl) (Nat.le_of_ble_eq_true rfl) dX4_init_41 (fun q4 H hP hD hS => ?_)
  refine z_putq (ws' := (((([(h0, .inr (5, [.ref q1, .int 0, .int 0, .ref q2, .ref q3, .ref q4, .int 0, .int 0]))] ++ [(q1, .inl (G.1.2.1, 80, .inl (fun _ => 0)))]) ++ [(q2, .inl (G.1.1, 16, .inl (fun _ => 0)))]) ++ [(q3, .inl (G.1.1, 16, .inl (fun _ => 0)))]) ++ [(q4, .inl (G.1.1, 16, .inl (fun _ => 0)))])) (ci := 5) (C := RX4) (T := TX4) (N := 8) hx hb hW inlX4 tyX4 tyX4_ok nmX4 hown hK hP hD hS 0 rfl rfl 5 (by decide) (hW _ wd_97) rfl hin2 rfl (z_dI _) (Nat.le_of_ble_eq_true rfl) rfl dX4_init_43 (fun H locs hP hD hS => ?_)
  refine lv_aload_n hx hb dX4_init_46 rfl (lv_at hl 0 rfl) ?_
  refine lv_iconst (v := 0) hx hb dX4_init_47 (by decide) ?_
  refine z_put (v := 0) (ws' := (((([(h0, .inr (5, [.ref q1, .int 0, .int 0, .ref q2, .ref q3, .ref q4, .int 0, .int 0]))] ++ [(q1, .inl (G.1.2.1, 80, .inl (fun _ => 0)))]) ++ [(q2, .inl (G.1.1, 16, .inl (fun _ => 0)))]) ++ [(q3, .inl (G.1.1, 16, .inl (fun _ => 0)))]) ++ [(q4, .inl (G.1.1, 16, .inl (fun _ => 0)))])) (ci := 5) (C := RX4) (T := TX4) (N := 8) hx hb hW inlX4 tyX4 tyX4_ok nmX4 hown hK hP hD hS 0 rfl rfl 6 (by decide) (hW _ wd_98) rfl rfl (Nat.le_of_ble_eq_true rfl) rfl dX4_init_48 (fun H locs hP hD hS => ?_)
  refine lv_aload_n hx hb dX4_init_51 rfl (lv_at hl 0 rfl) ?_
  refine lv_iconst (v := 0) hx hb dX4_init_52 (by decide) ?_
  refine z_put (v := 0) (ws' := (((([(h0, .inr (5, [.ref q1, .int 0, .int 0, .ref q2, .ref q3, .ref q4, .int 0, .int 0]))] ++ [(q1, .inl (G.1.2.1, 80, .inl (fun _ => 0)))]) ++ [(q2, .inl (G.1.1, 16, .inl (fun _ => 0)))]) ++ [(q3, .inl (G.1.1, 16, .inl (fun _ => 0)))]) ++ [(q4, .inl (G.1.1, 16, .inl (fun _ => 0)))])) (ci := 5) (C := RX4) (T := TX4) (N := 8) hx hb hW inlX4 tyX4 tyX4_ok nmX4 hown hK hP hD hS 0 rfl rfl 7 (by decide) (hW _ wd_99) rfl rfl (Nat.le_of_ble_eq_true rfl) rfl dX4_init_53 (fun H locs hP hD hS => ?_)
  exact hret _ _ _ _ (fun k => [q1, q2, q3, q4].getD k 0) hP hD hS dX4_init_56
set_option maxRecDepth 100000 in
set_option maxHeartbeats 4000000 in
theorem c_J5_init_d00df (l : Launch) (D : va_G) (G : zG) (h0 : Nat) : zMc l yJ5_init_d00df cJ5_init_d00df 2 1 12 1 16 D G [(h0, .inr (0, [.null, .int 0, .int 0, .int 0]))] (fun (u : Nat → Nat) => wJ4 G (zad h0 u) 0 iJ4) [.ref h0, .int 16] := by
  refine zs_c (by decide +kernel) (Nat.le_of_ble_eq_true rfl) rfl ?_
  intro p e s m args below meth c A Q H ls C0 hin2 hret hP hD hS hl
  obtain ⟨hx, hb, hml, hown, hW, hK, hlocks, hF, hr, hA⟩ := id C0
  replace hl : lv_has ls 2 [(0, .ref h0), (1, .int 16)] := hl
  refine lv_aload_n hx hb dJ5_init_d00df_0 rfl (lv_at hl 0 rfl) ?_
  refine W.objInit hx hb hown (hW _ wd_107) (hW _ wd_8) (hW _ wd_9) rfl (by rw [hml]; exact hl.1) rfl dJ5_init_d00df_1 (Nat.le_of_ble_eq_true rfl) (Nat.le_of_ble_eq_true rfl) ?_
  refine W.eq (g2 := F0 m 4 ls []) rfl ?_
  refine va_gets (ref := "java/lang/String") hx hb hF.2.2.2.2.2.2.1 hS hown (hW _ wd_108) (fun _ h9 => h9) dJ5_init_d00df_4 ?_
  refine lv_if_eq (tgt := 25) hx hb dJ5_init_d00df_7 (by decide) (fun c => absurd c (by decide)) (fun _ => ?_)
  refine lv_aload_n hx hb dJ5_init_d00df_10 rfl (lv_at hl 0 rfl) ?_
  refine lv_iload_n hx hb dJ5_init_d00df_11 rfl (lv_at hl 1 rfl) ?_
  refine z_newa (atype := .byte) (ty := .byte) (a0 := (16, .inl (fun _ => 0))) (N' := 16) 2 hx hb hW wd_109 rfl rfl (fun _ h => h) hK hP hD hS hA (fun _ => rfl) (by decide) (by decide) (Nat.le_of_ble_eq_true rfl) (Nat.le_of_ble_eq_true rfl) (Nat.le_of_ble_eq_true rfl) dJ5_init_d00df_12 (fun q1 H hP hD hS => ?_)
  refine z_putr (v := .ref q1) (ws' := ([(h0, .inr (0, [.ref q1, .int 0, .int 0, .int 0]))] ++ [(q1, .inl (G.1.2.2.1, 16, .inl (fun _ => 0)))])) (ci := 0) (C := RJ4) (T := TJ4) (N := 4) hx hb hW inlJ4 tyJ4 tyJ4_ok nmJ4 hown hK hP hD hS 0 rfl rfl 0 (by decide) (hW _ wd_110) rfl (z_dB _) (Nat.le_of_ble_eq_true rfl) rfl dJ5_init_d00df_14 (fun H locs hP hD hS => ?_)
  refine lv_aload_n hx hb dJ5_init_d00df_17 rfl (lv_at hl 0 rfl) ?_
  refine lv_iconst (v := 0) hx hb dJ5_init_d00df_18 (by decide) ?_
  refine z_putr (v := .int 0) (ws' := ([(h0, .inr (0, [.ref q1, .int 0, .int 0, .int 0]))] ++ [(q1, .inl (G.1.2.2.1, 16, .inl (fun _ => 0)))])) (ci := 0) (C := RJ4) (T := TJ4) (N := 4) hx hb hW inlJ4 tyJ4 tyJ4_ok nmJ4 hown hK hP hD hS 0 rfl rfl 1 (by decide) (hW _ wd_111) rfl z_dB0 (Nat.le_of_ble_eq_true rfl) rfl dJ5_init_d00df_19 (fun H locs hP hD hS => ?_)
  refine lv_goto (tgt := 38) hx hb dJ5_init_d00df_22 (by decide) ?_
  exact hret _ _ _ _ (fun k => [q1].getD k 0) hP hD hS dJ5_init_d00df_38
set_option maxRecDepth 100000 in
set_option maxHeartbeats 4000000 in
theorem c_J4_init_da8c8 (l : Launch) (D : va_G) (G : zG) (h0 : Nat) : zMc l yJ4_init_da8c8 cJ4_init_da8c8 1 2 33 1 16 D G [(h0, .inr (0, [.null, .int 0, .int 0, .int 0]))] (fun (u : Nat → Nat) => wJ4 G (zad h0 u) 0 iJ4) [.ref h0] := by
  refine zs_c (by decide +kernel) (Nat.le_of_ble_eq_true rfl) rfl ?_
  intro p e s m args below meth c A Q H ls C0 hin2 hret hP hD hS hl
  obtain ⟨hx, hb, hml, hown, hW, hK, hlocks, hF, hr, hA⟩ := id C0
  replace hl : lv_has ls 1 [(0, .ref h0)] := hl
  refine lv_aload_n hx hb dJ4_init_da8c8_0 rfl (lv_at hl 0 rfl) ?_
  refine lv_bipush (v := 16) hx hb dJ4_init_da8c8_1 (by decide) ?_
  refine z_ci (rest := []) C0 wd_103 wd_104 wd_105 wd_106 rfl (by decide +kernel) (c_J5_init_d00df l D G h0) z_pall (fun _ => z_pall.symm) rfl ⟨Nat.le_of_ble_eq_true rfl, Nat.le_of_ble_eq_true rfl⟩ (Nat.le_of_ble_eq_true rfl) rfl hl.1 ⟨Nat.le_of_ble_eq_true rfl, Nat.le_of_ble_eq_true rfl⟩ hP hD hS dJ4_init_da8c8_3 (fun a3 H locs hP hD hS => ?_)
  exact hret _ _ _ _ a3 hP hD hS dJ4_init_da8c8_6
set_option maxRecDepth 100000 in
set_option maxHeartbeats 4000000 in
theorem c_X2_init (l : Launch) (D : va_G) (G : zG) (h0 : Nat) : zMc l yX2_init cX2_init 2 3 52 85 819 D G [(h0, .inr (3, [.null, .int 0]))] (fun (u : (Nat → Nat) × (Nat → Nat → Nat)) => wX2 G (zad h0 u.1) 0 (u.2, fun _ => iX1, 0)) [.ref h0] := by
  refine zs_c (plainFor_of_name (by decide)) (Nat.le_of_ble_eq_true rfl) rfl ?_
  intro p e s m args below meth c A Q H ls C0 hin2 hret hP hD hS hl
  obtain ⟨hx, hb, hml, hown, hW, hK, hlocks, hF, hr, hA⟩ := id C0
  replace hl : lv_has ls 2 [(0, .ref h0)] := hl
  refine lv_aload_n hx hb dX2_init_0 rfl (lv_at hl 0 rfl) ?_
  refine W.objInit hx hb hown (hW _ wd_83) (hW _ wd_8) (hW _ wd_9) rfl (by rw [hml]; exact hl.1) rfl dX2_init_1 (Nat.le_of_ble_eq_true rfl) (Nat.le_of_ble_eq_true rfl) ?_
  refine W.eq (g2 := F0 m 4 ls []) rfl ?_
  refine lv_aload_n hx hb dX2_init_4 rfl (lv_at hl 0 rfl) ?_
  refine lv_bipush (v := 7) hx hb dX2_init_5 (by decide) ?_
  refine z_newq (N' := 7) hx hb hown (hW _ wd_84) hF.2.2.2.2.2.2.2.2.2.2 hK hP hD hS hA (by decide) (by decide) (Nat.le_of_ble_eq_true rfl) (Nat.le_of_ble_eq_true rfl) (Nat.le_of_ble_eq_true rfl) dX2_init_7 (fun q1 H hP hD hS => ?_)
  refine z_putq (ws' := ([(h0, .inr (3, [.ref q1, .int 0]))] ++ [(q1, .inl (G.1.2.2.2, 7, .inr (.inr (.inr (.inr (fun _ => none))))))])) (ci := 3) (C := RX2) (T := TX2) (N := 2) hx hb hW inlX2 tyX2 tyX2_ok nmX2 hown hK hP hD hS 0 rfl rfl 0 (by decide) (hW _ wd_85) rfl hin2 rfl (z_dDs _) (Nat.le_of_ble_eq_true rfl) rfl dX2_init_10 (fun H locs hP hD hS => ?_)
  refine lv_aload_n hx hb dX2_init_13 rfl (lv_at hl 0 rfl) ?_
  refine lv_iconst (v := 0) hx hb dX2_init_14 (by decide) ?_
  refine z_put (v := 0) (ws' := ([(h0, .inr (3, [.ref q1, .int 0]))] ++ [(q1, .inl (G.1.2.2.2, 7, .inr (.inr (.inr (.inr (fun _ => none))))))])) (ci := 3) (C := RX2) (T := TX2) (N := 2) hx hb hW inlX2 tyX2 tyX2_ok nmX2 hown hK hP hD hS 0 rfl rfl 1 (by decide) (hW _ wd_86) rfl rfl (Nat.le_of_ble_eq_true rfl) rfl dX2_init_15 (fun H locs hP hD hS => ?_)
  refine lv_iconst (v := 0) hx hb dX2_init_18 (by decide) ?_
  refine lv_istore_n (lv' := [(1, .int 0), (0, .ref h0)]) hx hb dX2_init_19 rfl hl (by decide) rfl (fun ls hl => ?_)
  refine lv_iload_n hx hb dX2_init_20 rfl (lv_at hl 0 rfl) ?_
  refine lv_aload_n hx hb dX2_init_21 rfl (lv_at hl 1 rfl) ?_
  refine va_get (D := D) (ci := 3) (v := .ref q1) (C := RX2) (T := TX2) (N := 2) hx hb hW inlX2 hown hK hP 0 rfl rfl 0 (by decide) (hW _ wd_85) (fun _ h9 => h9) rfl dX2_init_22 ?_
  refine va_alen (v := 7) hx hb hK hP 1 3 rfl rfl rfl dX2_init_25 ?_
  refine lv_icmp_ge (tgt := 48) hx hb dX2_init_26 (by decide) (fun c => absurd c (by decide)) (fun _ => ?_)
  refine lv_aload_n hx hb dX2_init_29 rfl (lv_at hl 1 rfl) ?_
  refine va_get (D := D) (ci := 3) (v := .ref q1) (C := RX2) (T := TX2) (N := 2) hx hb hW inlX2 hown hK hP 0 rfl rfl 0 (by decide) (hW _ wd_85) (fun _ h9 => h9) rfl dX2_init_30 ?_
  refine lv_iload_n hx hb dX2_init_33 rfl (lv_at hl 0 rfl) ?_
  refine va_new (ci := 2) (fs := [.null, .null, .null, .null, .null, .int 0, .int 0, .int 0, .int 0, .int 0, .int 0, .int 0, .int 0, .int 0, .int 0, .int 0, .int 0]) (C := RX1) (T := TX1) (N := 17) hx hb hW inlX1 tyX1 tyX1_ok hown (hW _ wd_84) (hW _ wd_11) (hW _ wd_12) hK hP hD hS hA rfl (fun j hj => by rcases (show j = 0 ∨ j = 1 ∨ j = 2 ∨ j = 3 ∨ j = 4 ∨ j = 5 ∨ j = 6 ∨ j = 7 ∨ j = 8 ∨ j = 9 ∨ j = 10 ∨ j = 11 ∨ j = 12 ∨ j = 13 ∨ j = 14 ∨ j = 15 ∨ j = 16 by omega) with rfl | rfl | rfl | rfl | rfl | rfl | rfl | rfl | rfl | rfl | rfl | rfl | rfl | rfl | rfl | rfl | rfl <;> rfl) (Nat.le_of_ble_eq_true rfl) (Nat.le_of_ble_eq_true rfl) dX2_init_34 (fun q2 H hP hD hS => ?_)
  refine lv_dup hx hb dX2_init_37 rfl ?_
  refine z_ci (rest := [.ref q2, .int 0, .ref q1]) C0 wd_87 wd_28 wd_12 wd_29 rfl (by decide +kernel) (c_X1_init l D G q2) z_pap (fun _ => z_pap) rfl ⟨Nat.le_of_ble_eq_true rfl, Nat.le_of_ble_eq_true rfl⟩ (Nat.le_of_ble_eq_true rfl) rfl hl.1 ⟨Nat.le_of_ble_eq_true rfl, Nat.le_of_ble_eq_true rfl⟩ hP hD hS dX2_init_38 (fun a38_0 H locs hP hD hS => ?_)
  refine z_astq (ws' := (([(h0, .inr (3, [.ref q1, .int 0]))] ++ [(q1, .inl (G.1.2.2.2, 7, .inr (.inr (.inr (.inr (va_up (fun _ => none) 0 (some (q2))))))))]) ++ wX1 G (zad q2 a38_0) 0 iX1)) (k := 0) hx hb hK hP hD hS 1 3 2 2 rfl rfl rfl rfl (z_in rfl) (by decide) rfl dX2_init_41 (fun H locs hP hD hS => ?_)
  refine lv_iinc (v := 1) (lv' := [(1, .int 1), (0, .ref h0)]) hx hb dX2_init_42 hl (k := 0) rfl (by decide) (by decide) rfl (fun ls hl => ?_)
  refine lv_goto (tgt := 20) hx hb dX2_init_45 (by decide) ?_
  refine lv_iload_n hx hb dX2_init_20 rfl (lv_at hl 0 rfl) ?_
  refine lv_aload_n hx hb dX2_init_21 rfl (lv_at hl 1 rfl) ?_
  refine va_get (D := D) (ci := 3) (v := .ref q1) (C := RX2) (T := TX2) (N := 2) hx hb hW inlX2 hown hK hP 0 rfl rfl 0 (by decide) (hW _ wd_85) (fun _ h9 => h9) rfl dX2_init_22 ?_
  refine va_alen (v := 7) hx hb hK hP 1 3 rfl rfl rfl dX2_init_25 ?_
  refine lv_icmp_ge (tgt := 48) hx hb dX2_init_26 (by decide) (fun c => absurd c (by decide)) (fun _ => ?_)
  refine lv_aload_n hx hb dX2_init_29 rfl (lv_at hl 1 rfl) ?_
  refine va_get (D := D) (ci := 3) (v := .ref q1) (C := RX2) (T := TX2) (N := 2) hx hb hW inlX2 hown hK hP 0 rfl rfl 0 (by decide) (hW _ wd_85) (fun _ h9 => h9) rfl dX2_init_30 ?_
  refine lv_iload_n hx hb dX2_init_33 rfl (lv_at hl 0 rfl) ?_
  refine va_new (ci := 2) (fs := [.null, .null, .null, .null, .null, .int 0, .int 0, .int 0, .int 0, .int 0, .int 0, .int 0, .int 0, .int 0, .int 0, .int 0, .int 0]) (C := RX1) (T := TX1) (N := 17) hx hb hW inlX1 tyX1 tyX1_ok hown (hW _ wd_84) (hW _ wd_11) (hW _ wd_12) hK hP hD hS hA rfl (fun j hj => by rcases (show j = 0 ∨ j = 1 ∨ j = 2 ∨ j = 3 ∨ j = 4 ∨ j = 5 ∨ j = 6 ∨ j = 7 ∨ j = 8 ∨ j = 9 ∨ j = 10 ∨ j = 11 ∨ j = 12 ∨ j = 13 ∨ j = 14 ∨ j = 15 ∨ j = 16 by omega) with rfl | rfl | rfl | rfl | rfl | rfl | rfl | rfl | rfl | rfl | rfl | rfl | rfl | rfl | rfl | rfl | rfl <;> rfl) (Nat.le_of_ble_eq_true rfl) (Nat.le_of_ble_eq_true rfl) dX2_init_34 (fun q3 H hP hD hS => ?_)
  refine lv_dup hx hb dX2_init_37 rfl ?_
  refine z_ci (rest := [.ref q3, .int 1, .ref q1]) C0 wd_87 wd_28 wd_12 wd_29 rfl (by decide +kernel) (c_X1_init l D G q3) z_pap (fun _ => z_pap) rfl ⟨Nat.le_of_ble_eq_true rfl, Nat.le_of_ble_eq_true rfl⟩ (Nat.le_of_ble_eq_true rfl) rfl hl.1 ⟨Nat.le_of_ble_eq_true rfl, Nat.le_of_ble_eq_true rfl⟩ hP hD hS dX2_init_38 (fun a38_1 H locs hP hD hS => ?_)
  refine z_astq (ws' := ((([(h0, .inr (3, [.ref q1, .int 0]))] ++ [(q1, .inl (G.1.2.2.2, 7, .inr (.inr (.inr (.inr (va_up (va_up (fun _ => none) 0 (some (q2))) 1 (some (q3))))))))]) ++ wX1 G (zad q2 a38_0) 0 iX1) ++ wX1 G (zad q3 a38_1) 0 iX1)) (k := 1) hx hb hK hP hD hS 1 3 14 2 rfl rfl rfl rfl (z_in rfl) (by decide) rfl dX2_init_41 (fun H locs hP hD hS => ?_)
  refine lv_iinc (v := 2) (lv' := [(1, .int 2), (0, .ref h0)]) hx hb dX2_init_42 hl (k := 0) rfl (by decide) (by decide) rfl (fun ls hl => ?_)
  refine lv_goto (tgt := 20) hx hb dX2_init_45 (by decide) ?_
  refine lv_iload_n hx hb dX2_init_20 rfl (lv_at hl 0 rfl) ?_
  refine lv_aload_n hx hb dX2_init_21 rfl (lv_at hl 1 rfl) ?_
  refine va_get (D := D) (ci := 3) (v := .ref q1) (C := RX2) (T := TX2) (N := 2) hx hb hW inlX2 hown hK hP 0 rfl rfl 0 (by decide) (hW _ wd_85) (fun _ h9 => h9) rfl dX2_init_22 ?_
  refine va_alen (v := 7) hx hb hK hP 1 3 rfl rfl rfl dX2_init_25 ?_
  refine lv_icmp_ge (tgt := 48) hx hb dX2_init_26 (by decide) (fun c => absurd c (by decide)) (fun _ => ?_)
  refine lv_aload_n hx hb dX2_init_29 rfl (lv_at hl 1 rfl) ?_
  refine va_get (D := D) (ci := 3) (v := .ref q1) (C := RX2) (T := TX2) (N := 2) hx hb hW inlX2 hown hK hP 0 rfl rfl 0 (by decide) (hW _ wd_85) (fun _ h9 => h9) rfl dX2_init_30 ?_
  refine lv_iload_n hx hb dX2_init_33 rfl (lv_at hl 0 rfl) ?_
  refine va_new (ci := 2) (fs := [.null, .null, .null, .null, .null, .int 0, .int 0, .int 0, .int 0, .int 0, .int 0, .int 0, .int 0, .int 0, .int 0, .int 0, .int 0]) (C := RX1) (T := TX1) (N := 17) hx hb hW inlX1 tyX1 tyX1_ok hown (hW _ wd_84) (hW _ wd_11) (hW _ wd_12) hK hP hD hS hA rfl (fun j hj => by rcases (show j = 0 ∨ j = 1 ∨ j = 2 ∨ j = 3 ∨ j = 4 ∨ j = 5 ∨ j = 6 ∨ j = 7 ∨ j = 8 ∨ j = 9 ∨ j = 10 ∨ j = 11 ∨ j = 12 ∨ j = 13 ∨ j = 14 ∨ j = 15 ∨ j = 16 by omega) with rfl | rfl | rfl | rfl | rfl | rfl | rfl | rfl | rfl | rfl | rfl | rfl | rfl | rfl | rfl | rfl | rfl <;> rfl) (Nat.le_of_ble_eq_true rfl) (Nat.le_of_ble_eq_true rfl) dX2_init_34 (fun q4 H hP hD hS => ?_)
  refine lv_dup hx hb dX2_init_37 rfl ?_
  refine z_ci (rest := [.ref q4, .int 2, .ref q1]) C0 wd_87 wd_28 wd_12 wd_29 rfl (by decide +kernel) (c_X1_init l D G q4) z_pap (fun _ => z_pap) rfl ⟨Nat.le_of_ble_eq_true rfl, Nat.le_of_ble_eq_true rfl⟩ (Nat.le_of_ble_eq_true rfl) rfl hl.1 ⟨Nat.le_of_ble_eq_true rfl, Nat.le_of_ble_eq_true rfl⟩ hP hD hS dX2_init_38 (fun a38_2 H locs hP hD hS => ?_)
  refine z_astq (ws' := (((([(h0, .inr (3, [.ref q1, .int 0]))] ++ [(q1, .inl (G.1.2.2.2, 7, .inr (.inr (.inr (.inr (va_up (va_up (va_up (fun _ => none) 0 (some (q2))) 1 (some (q3))) 2 (some (q4))))))))]) ++ wX1 G (zad q2 a38_0) 0 iX1) ++ wX1 G (zad q3 a38_1) 0 iX1) ++ wX1 G (zad q4 a38_2) 0 iX1)) (k := 2) hx hb hK hP hD hS 1 3 26 2 rfl rfl rfl rfl (z_in rfl) (by decide) rfl dX2_init_41 (fun H locs hP hD hS => ?_)
  refine lv_iinc (v := 3) (lv' := [(1, .int 3), (0, .ref h0)]) hx hb dX2_init_42 hl (k := 0) rfl (by decide) (by decide) rfl (fun ls hl => ?_)
  refine lv_goto (tgt := 20) hx hb dX2_init_45 (by decide) ?_
  refine lv_iload_n hx hb dX2_init_20 rfl (lv_at hl 0 rfl) ?_
  refine lv_aload_n hx hb dX2_init_21 rfl (lv_at hl 1 rfl) ?_
  refine va_get (D := D) (ci := 3) (v := .ref q1) (C := RX2) (T := TX2) (N := 2) hx hb hW inlX2 hown hK hP 0 rfl rfl 0 (by decide) (hW _ wd_85) (fun _ h9 => h9) rfl dX2_init_22 ?_
  refine va_alen (v := 7) hx hb hK hP 1 3 rfl rfl rfl dX2_init_25 ?_
  refine lv_icmp_ge (tgt := 48) hx hb dX2_init_26 (by decide) (fun c => absurd c (by decide)) (fun _ => ?_)
  refine lv_aload_n hx hb dX2_init_29 rfl (lv_at hl 1 rfl) ?_
  refine va_get (D := D) (ci := 3) (v := .ref q1) (C := RX2) (T := TX2) (N := 2) hx hb hW inlX2 hown hK hP 0 rfl rfl 0 (by decide) (hW _ wd_85) (fun _ h9 => h9) rfl dX2_init_30 ?_
  refine lv_iload_n hx hb dX2_init_33 rfl (lv_at hl 0 rfl) ?_
  refine va_new (ci := 2) (fs := [.null, .null, .null, .null, .null, .int 0, .int 0, .int 0, .int 0, .int 0, .int 0, .int 0, .int 0, .int 0, .int 0, .int 0, .int 0]) (C := RX1) (T := TX1) (N := 17) hx hb hW inlX1 tyX1 tyX1_ok hown (hW _ wd_84) (hW _ wd_11) (hW _ wd_12) hK hP hD hS hA rfl (fun j hj => by rcases (show j = 0 ∨ j = 1 ∨ j = 2 ∨ j = 3 ∨ j = 4 ∨ j = 5 ∨ j = 6 ∨ j = 7 ∨ j = 8 ∨ j = 9 ∨ j = 10 ∨ j = 11 ∨ j = 12 ∨ j = 13 ∨ j = 14 ∨ j = 15 ∨ j = 16 by omega) with rfl | rfl | rfl | rfl | rfl | rfl | rfl | rfl | rfl | rfl | rfl | rfl | rfl | rfl | rfl | rfl | rfl <;> rfl) (Nat.le_of_ble_eq_true rfl) (Nat.le_of_ble_eq_true rfl) dX2_init_34 (fun q5 H hP hD hS => ?_)
  refine lv_dup hx hb dX2_init_37 rfl ?_
  refine z_ci (rest := [.ref q5, .int 3, .ref q1]) C0 wd_87 wd_28 wd_12 wd_29 rfl (by decide +kernel) (c_X1_init l D G q5) z_pap (fun _ => z_pap) rfl ⟨Nat.le_of_ble_eq_true rfl, Nat.le_of_ble_eq_true rfl⟩ (Nat.le_of_ble_eq_true rfl) rfl hl.1 ⟨Nat.le_of_ble_eq_true rfl, Nat.le_of_ble_eq_true rfl⟩ hP hD hS dX2_init_38 (fun a38_3 H locs hP hD hS => ?_)
  refine z_astq (ws' := ((((([(h0, .inr (3, [.ref q1, .int 0]))] ++ [(q1, .inl (G.1.2.2.2, 7, .inr (.inr (.inr (.inr (va_up (va_up (va_up (va_up (fun _ => none) 0 (some (q2))) 1 (some (q3))) 2 (some (q4))) 3 (some (q5))))))))]) ++ wX1 G (zad q2 a38_0) 0 iX1) ++ wX1 G (zad q3 a38_1) 0 iX1) ++ wX1 G (zad q4 a38_2) 0 iX1) ++ wX1 G (zad q5 a38_3) 0 iX1)) (k := 3) hx hb hK hP hD hS 1 3 38 2 rfl rfl rfl rfl (z_in rfl) (by decide) rfl dX2_init_41 (fun H locs hP hD hS => ?_)
  refine lv_iinc (v := 4) (lv' := [(1, .int 4), (0, .ref h0)]) hx hb dX2_init_42 hl (k := 0) rfl (by decide) (by decide) rfl (fun ls hl => ?_)
  refine lv_goto (tgt := 20) hx hb dX2_init_45 (by decide) ?_
  refine lv_iload_n hx hb dX2_init_20 rfl (lv_at hl 0 rfl) ?_
  refine lv_aload_n hx hb dX2_init_21 rfl (lv_at hl 1 rfl) ?_
  refine va_get (D := D) (ci := 3) (v := .ref q1) (C := RX2) (T := TX2) (N := 2) hx hb hW inlX2 hown hK hP 0 rfl rfl 0 (by decide) (hW _ wd_85) (fun _ h9 => h9) rfl dX2_init_22 ?_
  refine va_alen (v := 7) hx hb hK hP 1 3 rfl rfl rfl dX2_init_25 ?_
  refine lv_icmp_ge (tgt := 48) hx hb dX2_init_26 (by decide) (fun c => absurd c (by decide)) (fun _ => ?_)
  refine lv_aload_n hx hb dX2_init_29 rfl (lv_at hl 1 rfl) ?_
  refine va_get (D := D) (ci := 3) (v := .ref q1) (C := RX2) (T := TX2) (N := 2) hx hb hW inlX2 hown hK hP 0 rfl rfl 0 (by decide) (hW _ wd_85) (fun _ h9 => h9) rfl dX2_init_30 ?_
  refine lv_iload_n hx hb dX2_init_33 rfl (lv_at hl 0 rfl) ?_
  refine va_new (ci := 2) (fs := [.null, .null, .null, .null, .null, .int 0, .int 0, .int 0, .int 0, .int 0, .int 0, .int 0, .int 0, .int 0, .int 0, .int 0, .int 0]) (C := RX1) (T := TX1) (N := 17) hx hb hW inlX1 tyX1 tyX1_ok hown (hW _ wd_84) (hW _ wd_11) (hW _ wd_12) hK hP hD hS hA rfl (fun j hj => by rcases (show j = 0 ∨ j = 1 ∨ j = 2 ∨ j = 3 ∨ j = 4 ∨ j = 5 ∨ j = 6 ∨ j = 7 ∨ j = 8 ∨ j = 9 ∨ j = 10 ∨ j = 11 ∨ j = 12 ∨ j = 13 ∨ j = 14 ∨ j = 15 ∨ j = 16 by omega) with rfl | rfl | rfl | rfl | rfl | rfl | rfl | rfl | rfl | rfl | rfl | rfl | rfl | rfl | rfl | rfl | rfl <;> rfl) (Nat.le_of_ble_eq_true rfl) (Nat.le_of_ble_eq_true rfl) dX2_init_34 (fun q6 H hP hD hS => ?_)
  refine lv_dup hx hb dX2_init_37 rfl ?_
  refine z_ci (rest := [.ref q6, .int 4, .ref q1]) C0 wd_87 wd_28 wd_12 wd_29 rfl (by decide +kernel) (c_X1_init l D G q6) z_pap (fun _ => z_pap) rfl ⟨Nat.le_of_ble_eq_true rfl, Nat.le_of_ble_eq_true rfl⟩ (Nat.le_of_ble_eq_true rfl) rfl hl.1 ⟨Nat.le_of_ble_eq_true rfl, Nat.le_of_ble_eq_true rfl⟩ hP hD hS dX2_init_38 (fun a38_4 H locs hP hD hS => ?_)
  refine z_astq (ws' := (((((([(h0, .inr (3, [.ref q1, .int 0]))] ++ [(q1, .inl (G.1.2.2.2, 7, .inr (.inr (.inr (.inr (va_up (va_up (va_up (va_up (va_up (fun _ => none) 0 (some (q2))) 1 (some (q3))) 2 (some (q4))) 3 (some (q5))) 4 (some (q6))))))))]) ++ wX1 G (zad q2 a38_0) 0 iX1) ++ wX1 G (zad q3 a38_1) 0 iX1) ++ wX1 G (zad q4 a38_2) 0 iX1) ++ wX1 G (zad q5 a38_3) 0 iX1) ++ wX1 G (zad q6 a38_4) 0 iX1)) (k := 4) hx hb hK hP hD hS 1 3 50 2 rfl rfl rfl rfl (z_in rfl) (by decide) rfl dX2_init_41 (fun H locs hP hD hS => ?_)
  refine lv_iinc (v := 5) (lv' := [(1, .int 5), (0, .ref h0)]) hx hb dX2_init_42 hl (k := 0) rfl (by decide) (by decide) rfl (fun ls hl => ?_)
  refine lv_goto (tgt := 20) hx hb dX2_init_45 (by decide) ?_
  refine lv_iload_n hx hb dX2_init_20 rfl (lv_at hl 0 rfl) ?_
  refine lv_aload_n hx hb dX2_init_21 rfl (lv_at hl 1 rfl) ?_
  refine va_get (D := D) (ci := 3) (v := .ref q1) (C := RX2) (T := TX2) (N := 2) hx hb hW inlX2 hown hK hP 0 rfl rfl 0 (by decide) (hW _ wd_85) (fun _ h9 => h9) rfl dX2_init_22 ?_
  refine va_alen (v := 7) hx hb hK hP 1 3 rfl rfl rfl dX2_init_25 ?_
  refine lv_icmp_ge (tgt := 48) hx hb dX2_init_26 (by decide) (fun c => absurd c (by decide)) (fun _ => ?_)
  refine lv_aload_n hx hb dX2_init_29 rfl (lv_at hl 1 rfl) ?_
  refine va_get (D := D) (ci := 3) (v := .ref q1) (C := RX2) (T := TX2) (N := 2) hx hb hW inlX2 hown hK hP 0 rfl rfl 0 (by decide) (hW _ wd_85) (fun _ h9 => h9) rfl dX2_init_30 ?_
  refine lv_iload_n hx hb dX2_init_33 rfl (lv_at hl 0 rfl) ?_
  refine va_new (ci := 2) (fs := [.null, .null, .null, .null, .null, .int 0, .int 0, .int 0, .int 0, .int 0, .int 0, .int 0, .int 0, .int 0, .int 0, .int 0, .int 0]) (C := RX1) (T := TX1) (N := 17) hx hb hW inlX1 tyX1 tyX1_ok hown (hW _ wd_84) (hW _ wd_11) (hW _ wd_12) hK hP hD hS hA rfl (fun j hj => by rcases (show j = 0 ∨ j = 1 ∨ j = 2 ∨ j = 3 ∨ j = 4 ∨ j = 5 ∨ j = 6 ∨ j = 7 ∨ j = 8 ∨ j = 9 ∨ j = 10 ∨ j = 11 ∨ j = 12 ∨ j = 13 ∨ j = 14 ∨ j = 15 ∨ j = 16 by omega) with rfl | rfl | rfl | rfl | rfl | rfl | rfl | rfl | rfl | rfl | rfl | rfl | rfl | rfl | rfl | rfl | rfl <;> rfl) (Nat.le_of_ble_eq_true rfl) (Nat.le_of_ble_eq_true rfl) dX2_init_34 (fun q7 H hP hD hS => ?_)
  refine lv_dup hx hb dX2_init_37 rfl ?_
  refine z_ci (rest := [.ref q7, .int 5, .ref q1]) C0 wd_87 wd_28 wd_12 wd_29 rfl (by decide +kernel) (c_X1_init l D G q7) z_pap (fun _ => z_pap) rfl ⟨Nat.le_of_ble_eq_true rfl, Nat.le_of_ble_eq_true rfl⟩ (Nat.le_of_ble_eq_true rfl) rfl hl.1 ⟨Nat.le_of_ble_eq_true rfl, Nat.le_of_ble_eq_true rfl⟩ hP hD hS dX2_init_38 (fun a38_5 H locs hP hD hS => ?_)
  refine z_astq (ws' := ((((((([(h0, .inr (3, [.ref q1, .int 0]))] ++ [(q1, .inl (G.1.2.2.2, 7, .inr (.inr (.inr (.inr (va_up (va_up (va_up (va_up (va_up (va_up (fun _ => none) 0 (some (q2))) 1 (some (q3))) 2 (some (q4))) 3 (some (q5))) 4 (some (q6))) 5 (some (q7))))))))]) ++ wX1 G (zad q2 a38_0) 0 iX1) ++ wX1 G (zad q3 a38_1) 0 iX1) ++ wX1 G (zad q4 a38_2) 0 iX1) ++ wX1 G (zad q5 a38_3) 0 iX1) ++ wX1 G (zad q6 a38_4) 0 iX1) ++ wX1 G (zad q7 a38_5) 0 iX1)) (k := 5) hx hb hK hP hD hS 1 3 62 2 rfl rfl rfl rfl (z_in rfl) (by decide) rfl dX2_init_41 (fun H locs hP hD hS => ?_)
  refine lv_iinc (v := 6) (lv' := [(1, .int 6), (0, .ref h0)]) hx hb dX2_init_42 hl (k := 0) rfl (by decide) (by decide) rfl (fun ls hl => ?_)
  refine lv_goto (tgt := 20) hx hb dX2_init_45 (by decide) ?_
  refine lv_iload_n hx hb dX2_init_20 rfl (lv_at hl 0 rfl) ?_
  refine lv_aload_n hx hb dX2_init_21 rfl (lv_at hl 1 rfl) ?_
  refine va_get (D := D) (ci := 3) (v := .ref q1) (C := RX2) (T := TX2) (N := 2) hx hb hW inlX2 hown hK hP 0 rfl rfl 0 (by decide) (hW _ wd_85) (fun _ h9 => h9) rfl dX2_init_22 ?_
  refine va_alen (v := 7) hx hb hK hP 1 3 rfl rfl rfl dX2_init_25 ?_
  refine lv_icmp_ge (tgt := 48) hx hb dX2_init_26 (by decide) (fun c => absurd c (by decide)) (fun _ => ?_)
  refine lv_aload_n hx hb dX2_init_29 rfl (lv_at hl 1 rfl) ?_
  refine va_get (D := D) (ci := 3) (v := .ref q1) (C := RX2) (T := TX2) (N := 2) hx hb hW inlX2 hown hK hP 0 rfl rfl 0 (by decide) (hW _ wd_85) (fun _ h9 => h9) rfl dX2_init_30 ?_
  refine lv_iload_n hx hb dX2_init_33 rfl (lv_at hl 0 rfl) ?_
  refine va_new (ci := 2) (fs := [.null, .null, .null, .null, .null, .int 0, .int 0, .int 0, .int 0, .int 0, .int 0, .int 0, .int 0, .int 0, .int 0, .int 0, .int 0]) (C := RX1) (T := TX1) (N := 17) hx hb hW inlX1 tyX1 tyX1_ok hown (hW _ wd_84) (hW _ wd_11) (hW _ wd_12) hK hP hD hS hA rfl (fun j hj => by rcases (show j = 0 ∨ j = 1 ∨ j = 2 ∨ j = 3 ∨ j = 4 ∨ j = 5 ∨ j = 6 ∨ j = 7 ∨ j = 8 ∨ j = 9 ∨ j = 10 ∨ j = 11 ∨ j = 12 ∨ j = 13 ∨ j = 14 ∨ j = 15 ∨ j = 16 by omega) with rfl | rfl | rfl | rfl | rfl | rfl | rfl | rfl | rfl | rfl | rfl | rfl | rfl | rfl | rfl | rfl | rfl <;> rfl) (Nat.le_of_ble_eq_true rfl) (Nat.le_of_ble_eq_true rfl) dX2_init_34 (fun q8 H hP hD hS => ?_)
  refine lv_dup hx hb dX2_init_37 rfl ?_
  refine z_ci (rest := [.ref q8, .int 6, .ref q1]) C0 wd_87 wd_28 wd_12 wd_29 rfl (by decide +kernel) (c_X1_init l D G q8) z_pap (fun _ => z_pap) rfl ⟨Nat.le_of_ble_eq_true rfl, Nat.le_of_ble_eq_true rfl⟩ (Nat.le_of_ble_eq_true rfl) rfl hl.1 ⟨Nat.le_of_ble_eq_true rfl, Nat.le_of_ble_eq_true rfl⟩ hP hD hS dX2_init_38 (fun a38_6 H locs hP hD hS => ?_)
  refine z_astq (ws' := (((((((([(h0, .inr (3, [.ref q1, .int 0]))] ++ [(q1, .inl (G.1.2.2.2, 7, .inr (.inr (.inr (.inr (va_up (va_up (va_up (va_up (va_up (va_up (va_up (fun _ => none) 0 (some (q2))) 1 (some (q3))) 2 (some (q4))) 3 (some (q5))) 4 (some (q6))) 5 (some (q7))) 6 (some (q8))))))))]) ++ wX1 G (zad q2 a38_0) 0 iX1) ++ wX1 G (zad q3 a38_1) 0 iX1) ++ wX1 G (zad q4 a38_2) 0 iX1) ++ wX1 G (zad q5 a38_3) 0 iX1) ++ wX1 G (zad q6 a38_4) 0 iX1) ++ wX1 G (zad q7 a38_5) 0 iX1) ++ wX1 G (zad q8 a38_6) 0 iX1)) (k := 6) hx hb hK hP hD hS 1 3 74 2 rfl rfl rfl rfl (z_in rfl) (by decide) rfl dX2_init_41 (fun H locs hP hD hS => ?_)
  refine lv_iinc (v := 7) (lv' := [(1, .int 7), (0, .ref h0)]) hx hb dX2_init_42 hl (k := 0) rfl (by decide) (by decide) rfl (fun ls hl => ?_)
  refine lv_goto (tgt := 20) hx hb dX2_init_45 (by decide) ?_
  refine lv_iload_n hx hb dX2_init_20 rfl (lv_at hl 0 rfl) ?_
  refine lv_aload_n hx hb dX2_init_21 rfl (lv_at hl 1 rfl) ?_
  refine va_get (D := D) (ci := 3) (v := .ref q1) (C := RX2) (T := TX2) (N := 2) hx hb hW inlX2 hown hK hP 0 rfl rfl 0 (by decide) (hW _ wd_85) (fun _ h9 => h9) rfl dX2_init_22 ?_
  refine va_alen (v := 7) hx hb hK hP 1 3 rfl rfl rfl dX2_init_25 ?_
  refine lv_icmp_ge (tgt := 48) hx hb dX2_init_26 (by decide) (fun _ => ?_) (fun c => absurd (by decide) c)
  refine hret _ _ _ _ ((fun k => [q1].getD k 0), (fun i => [zad q2 a38_0, zad q3 a38_1, zad q4 a38_2, zad q5 a38_3, zad q6 a38_4, zad q7 a38_5, zad q8 a38_6].getD i (fun _ => 0))) (zP_arrq hP rfl (fun j hj => ?_) rfl) (zD_arrq hD rfl rfl) hS dX2_init_48
  rcases (show j = 0 ∨ j = 1 ∨ j = 2 ∨ j = 3 ∨ j = 4 ∨ j = 5 ∨ j = 6 by omega) with rfl | rfl | rfl | rfl | rfl | rfl | rfl <;> rfl
set_option maxRecDepth 100000 in
set_option maxHeartbeats 4000000 in
theorem c_X6_init (l : Launch) (D : va_G) (G : zG) (h0 : Nat) : zMc l yX6_init cX6_init 1 4 73 117 1209 D G [(h0, .inr (7, [.null, .null, .null, .null, .null]))] (fun (u : (Nat → Nat) × (Nat → Nat → Nat)) => wX6 G (zad h0 u.1) 0 (iX6 u.2)) [.ref h0] := by
  refine zs_c (plainFor_of_name (by decide)) (Nat.le_of_ble_eq_true rfl) rfl ?_
  intro p e s m args below meth c A Q H ls C0 hin2 hret hP hD hS hl
  obtain ⟨hx, hb, hml, hown, hW, hK, hlocks, hF, hr, hA⟩ := id C0
  replace hl : lv_has ls 1 [(0, .ref h0)] := hl
  refine lv_aload_n hx hb dX6_init_0 rfl (lv_at hl 0 rfl) ?_
  refine W.objInit hx hb hown (hW _ wd_7) (hW _ wd_8) (hW _ wd_9) rfl (by rw [hml]; exact hl.1) rfl dX6_init_1 (Nat.le_of_ble_eq_true rfl) (Nat.le_of_ble_eq_true rfl) ?_
  refine W.eq (g2 := F0 m 4 ls []) rfl ?_
  refine lv_aload_n hx hb dX6_init_4 rfl (lv_at hl 0 rfl) ?_
  refine va_new (ci := 2) (fs := [.null, .null, .null, .null, .null, .int 0, .int 0, .int 0, .int 0, .int 0, .int 0, .int 0, .int 0, .int 0, .int 0, .int 0, .int 0]) (C := RX1) (T := TX1) (N := 17) hx hb hW inlX1 tyX1 tyX1_ok hown (hW _ wd_10) (hW _ wd_11) (hW _ wd_12) hK hP hD hS hA rfl (fun j hj => by rcases (show j = 0 ∨ j = 1 ∨ j = 2 ∨ j = 3 ∨ j = 4 ∨ j = 5 ∨ j = 6 ∨ j = 7 ∨ j = 8 ∨ j = 9 ∨ j = 10 ∨ j = 11 ∨ j = 12 ∨ j = 13 ∨ j = 14 ∨ j = 15 ∨ j = 16 by omega) with rfl | rfl | rfl | rfl | rfl | rfl | rfl | rfl | rfl | rfl | rfl | rfl | rfl | rfl | rfl | rfl | rfl <;> rfl) (Nat.le_of_ble_eq_true rfl) (Nat.le_of_ble_eq_true rfl) dX6_init_5 (fun q1 H hP hD hS => ?_)
  refine lv_dup hx hb dX6_init_8 rfl ?_
  refine z_ci (rest := [.ref q1, .ref h0]) C0 wd_27 wd_28 wd_12 wd_29 rfl (by decide +kernel) (c_X1_init l D G q1) z_pap (fun _ => z_pap) rfl ⟨Nat.le_of_ble_eq_true rfl, Nat.le_of_ble_eq_true rfl⟩ (Nat.le_of_ble_eq_true rfl) rfl hl.1 ⟨Nat.le_of_ble_eq_true rfl, Nat.le_of_ble_eq_true rfl⟩ hP hD hS dX6_init_9 (fun a9 H locs hP hD hS => ?_)
  refine z_putq (ws' := ([(h0, .inr (7, [.ref q1, .null, .null, .null, .null]))] ++ wX1 G (zad q1 a9) 0 iX1)) (ci := 7) (C := RX6) (T := TX6) (N := 5) hx hb hW inlX6 tyX6 tyX6_ok nmX6 hown hK hP hD hS 0 rfl rfl 0 (by decide) (hW _ wd_13) rfl hin2 rfl (z_dX1 _) (Nat.le_of_ble_eq_true rfl) rfl dX6_init_12 (fun H locs hP hD hS => ?_)
  refine lv_aload_n hx hb dX6_init_15 rfl (lv_at hl 0 rfl) ?_
  refine va_new (ci := 2) (fs := [.null, .null, .null, .null, .null, .int 0, .int 0, .int 0, .int 0, .int 0, .int 0, .int 0, .int 0, .int 0, .int 0, .int 0, .int 0]) (C := RX1) (T := TX1) (N := 17) hx hb hW inlX1 tyX1 tyX1_ok hown (hW _ wd_10) (hW _ wd_11) (hW _ wd_12) hK hP hD hS hA rfl (fun j hj => by rcases (show j = 0 ∨ j = 1 ∨ j = 2 ∨ j = 3 ∨ j = 4 ∨ j = 5 ∨ j = 6 ∨ j = 7 ∨ j = 8 ∨ j = 9 ∨ j = 10 ∨ j = 11 ∨ j = 12 ∨ j = 13 ∨ j = 14 ∨ j = 15 ∨ j = 16 by omega) with rfl | rfl | rfl | rfl | rfl | rfl | rfl | rfl | rfl | rfl | rfl | rfl | rfl | rfl | rfl | rfl | rfl <;> rfl) (Nat.le_of_ble_eq_true rfl) (Nat.le_of_ble_eq_true rfl) dX6_init_16 (fun q2 H hP hD hS => ?_)
  refine lv_dup hx hb dX6_init_19 rfl ?_
  refine z_ci (rest := [.ref q2, .ref h0]) C0 wd_27 wd_28 wd_12 wd_29 rfl (by decide +kernel) (c_X1_init l D G q2) z_pap (fun _ => z_pap) rfl ⟨Nat.le_of_ble_eq_true rfl, Nat.le_of_ble_eq_true rfl⟩ (Nat.le_of_ble_eq_true rfl) rfl hl.1 ⟨Nat.le_of_ble_eq_true rfl, Nat.le_of_ble_eq_true rfl⟩ hP hD hS dX6_init_20 (fun a20 H locs hP hD hS => ?_)
  refine z_putq (ws' := (([(h0, .inr (7, [.ref q1, .ref q2, .null, .null, .null]))] ++ wX1 G (zad q1 a9) 0 iX1) ++ wX1 G (zad q2 a20) 0 iX1)) (ci := 7) (C := RX6) (T := TX6) (N := 5) hx hb hW inlX6 tyX6 tyX6_ok nmX6 hown hK hP hD hS 0 rfl rfl 1 (by decide) (hW _ wd_14) rfl hin2 rfl (z_dX1 _) (Nat.le_of_ble_eq_true rfl) rfl dX6_init_23 (fun H locs hP hD hS => ?_)
  refine lv_aload_n hx hb dX6_init_26 rfl (lv_at hl 0 rfl) ?_
  refine va_new (ci := 3) (fs := [.null, .int 0]) (C := RX2) (T := TX2) (N := 2) hx hb hW inlX2 tyX2 tyX2_ok hown (hW _ wd_15) (hW _ wd_16) (hW _ wd_17) hK hP hD hS hA rfl (fun j hj => by rcases (show j = 0 ∨ j = 1 by omega) with rfl | rfl <;> rfl) (Nat.le_of_ble_eq_true rfl) (Nat.le_of_ble_eq_true rfl) dX6_init_27 (fun q3 H hP hD hS => ?_)
  refine lv_dup hx hb dX6_init_30 rfl ?_
  refine z_ci (rest := [.ref q3, .ref h0]) C0 wd_80 wd_81 wd_17 wd_82 rfl (by decide +kernel) (c_X2_init l D G q3) z_pap (fun _ => z_pap) rfl ⟨Nat.le_of_ble_eq_true rfl, Nat.le_of_ble_eq_true rfl⟩ (Nat.le_of_ble_eq_true rfl) rfl hl.1 ⟨Nat.le_of_ble_eq_true rfl, Nat.le_of_ble_eq_true rfl⟩ hP hD hS dX6_init_31 (fun a31 H locs hP hD hS => ?_)
  refine z_putq (ws' := ((([(h0, .inr (7, [.ref q1, .ref q2, .ref q3, .null, .null]))] ++ wX1 G (zad q1 a9) 0 iX1) ++ wX1 G (zad q2 a20) 0 iX1) ++ wX2 G (zad q3 a31.1) 0 (a31.2, fun _ => iX1, 0))) (ci := 7) (C := RX6) (T := TX6) (N := 5) hx hb hW inlX6 tyX6 tyX6_ok nmX6 hown hK hP hD hS 0 rfl rfl 2 (by decide) (hW _ wd_18) rfl hin2 rfl (z_dX2 _) (Nat.le_of_ble_eq_true rfl) rfl dX6_init_34 (fun H locs hP hD hS => ?_)
  refine lv_aload_n hx hb dX6_init_37 rfl (lv_at hl 0 rfl) ?_
  refine va_new (ci := 5) (fs := [.null, .int 0, .int 0, .null, .null, .null, .int 0, .int 0]) (C := RX4) (T := TX4) (N := 8) hx hb hW inlX4 tyX4 tyX4_ok hown (hW _ wd_19) (hW _ wd_20) (hW _ wd_21) hK hP hD hS hA rfl (fun j hj => by rcases (show j = 0 ∨ j = 1 ∨ j = 2 ∨ j = 3 ∨ j = 4 ∨ j = 5 ∨ j = 6 ∨ j = 7 by omega) with rfl | rfl | rfl | rfl | rfl | rfl | rfl | rfl <;> rfl) (Nat.le_of_ble_eq_true rfl) (Nat.le_of_ble_eq_true rfl) dX6_init_38 (fun q4 H hP hD hS => ?_)
  refine lv_dup hx hb dX6_init_41 rfl ?_
  refine z_cn (rest := [.ref q4, .ref h0]) C0 (by decide +kernel) wd_88 wd_21 wd_89 rfl (by decide +kernel) (c_X4_init l D G q4) z_pap (fun _ => z_pap) rfl ⟨Nat.le_of_ble_eq_true rfl, Nat.le_of_ble_eq_true rfl⟩ (Nat.le_of_ble_eq_true rfl) rfl hl.1 ⟨Nat.le_of_ble_eq_true rfl, Nat.le_of_ble_eq_true rfl⟩ hP hD hS dX6_init_42 (fun a42 H locs hP hD hS => ?_)
  refine z_putq (ws' := (((([(h0, .inr (7, [.ref q1, .ref q2, .ref q3, .ref q4, .null]))] ++ wX1 G (zad q1 a9) 0 iX1) ++ wX1 G (zad q2 a20) 0 iX1) ++ wX2 G (zad q3 a31.1) 0 (a31.2, fun _ => iX1, 0)) ++ wX4 G (zad q4 a42) 0 iX4)) (ci := 7) (C := RX6) (T := TX6) (N := 5) hx hb hW inlX6 tyX6 tyX6_ok nmX6 hown hK hP hD hS 0 rfl rfl 3 (by decide) (hW _ wd_22) rfl hin2 rfl (z_dX4 _) (Nat.le_of_ble_eq_true rfl) rfl dX6_init_45 (fun H locs hP hD hS => ?_)
  refine lv_aload_n hx hb dX6_init_48 rfl (lv_at hl 0 rfl) ?_
  refine va_new (ci := 0) (fs := [.null, .int 0, .int 0, .int 0]) (C := RJ4) (T := TJ4) (N := 4) hx hb hW inlJ4 tyJ4 tyJ4_ok hown (hW _ wd_23) (hW _ wd_24) (hW _ wd_25) hK hP hD hS hA rfl (fun j hj => by rcases (show j = 0 ∨ j = 1 ∨ j = 2 ∨ j = 3 by omega) with rfl | rfl | rfl | rfl <;> rfl) (Nat.le_of_ble_eq_true rfl) (Nat.le_of_ble_eq_true rfl) dX6_init_49 (fun q5 H hP hD hS => ?_)
  refine lv_dup hx hb dX6_init_52 rfl ?_
  refine z_ci (rest := [.ref q5, .ref h0]) C0 wd_100 wd_101 wd_25 wd_102 rfl (by decide +kernel) (c_J4_init_da8c8 l D G q5) z_pap (fun _ => z_pap) rfl ⟨Nat.le_of_ble_eq_true rfl, Nat.le_of_ble_eq_true rfl⟩ (Nat.le_of_ble_eq_true rfl) rfl hl.1 ⟨Nat.le_of_ble_eq_true rfl, Nat.le_of_ble_eq_true rfl⟩ hP hD hS dX6_init_53 (fun a53 H locs hP hD hS => ?_)
  refine z_putq (ws' := ((((([(h0, .inr (7, [.ref q1, .ref q2, .ref q3, .ref q4, .ref q5]))] ++ wX1 G (zad q1 a9) 0 iX1) ++ wX1 G (zad q2 a20) 0 iX1) ++ wX2 G (zad q3 a31.1) 0 (a31.2, fun _ => iX1, 0)) ++ wX4 G (zad q4 a42) 0 iX4) ++ wJ4 G (zad q5 a53) 0 iJ4)) (ci := 7) (C := RX6) (T := TX6) (N := 5) hx hb hW inlX6 tyX6 tyX6_ok nmX6 hown hK hP hD hS 0 rfl rfl 4 (by decide) (hW _ wd_26) rfl hin2 rfl (z_dJ4 _) (Nat.le_of_ble_eq_true rfl) rfl dX6_init_56 (fun H locs hP hD hS => ?_)
  exact hret _ _ _ _ ((fun k => [q1, a9 0, a9 1, a9 2, a9 3, a9 4, a9 5, a9 6, a9 7, a9 8, a9 9, a9 10, q2, a20 0, a20 1, a20 2, a20 3, a20 4, a20 5, a20 6, a20 7, a20 8, a20 9, a20 10, q3, a31.1 0, 0, 0, 0, 0, 0, 0, 0, 0, 0, 0, 0, 0, 0, 0, 0, 0, 0, 0, 0, 0, 0, 0, 0, 0, 0, 0, 0, 0, 0, 0, 0, 0, 0, 0, 0, 0, 0, 0, 0, 0, 0, 0, 0, 0, 0, 0, 0, 0, 0, 0, 0, 0, 0, 0, 0, 0, 0, 0, 0, 0, 0, 0, 0, 0, 0, 0, 0, 0, 0, 0, 0, 0, 0, 0, 0, 0, 0, 0, 0, 0, 0, 0, 0, 0, q4, a42 0, a42 1, a42 2, a42 3, q5, a53 0].getD k 0), a31.2) hP hD hS dX6_init_59
