noncomputable def q_X5_append (u : tX5) (p1 : Int32) (p2 : Int32) : Option (Int32 × tX5) :=
  (if u.2.2 < 20 then zs 20 u.1 u.2.2 p1 fun s20 => zs 20 u.2.1 u.2.2 p2 fun s30 => zn (u.2.2 + 1) fun k38 => some (1, (s20, s30, k38)) else some (0, u))
set_option maxRecDepth 100000 in
set_option maxHeartbeats 4000000 in
theorem c_X5_append (l : Launch) (D : va_G) (G : zG) (ad : Nat → Nat) (b : Nat) (u : tX5) (p1 : Int32) (p2 : Int32) (res : Int32 × tX5) (hf : q_X5_append u p1 p2 = some res) : zMi l yX5_append cX5_append 3 (some .boolean) 0 0 D G (wX5 G ad b u) (wX5 G ad b res.2) [.ref (ad b), .int p1, .int p2] res.1 := by
  refine zs_z (plainFor_of_name (by decide)) (Nat.le_of_ble_eq_true rfl) ?_
  intro p e s m args below meth c A Q H ls C0 hret hP hD hS hl
  obtain ⟨hx, hb, hml, hown, hW, hK, hlocks, hF, hr, hA⟩ := id C0
  replace hl : lv_has ls 3 [(0, .ref (ad b)), (1, .int p1), (2, .int p2)] := hl
  unfold q_X5_append at hf
  refine lv_aload_n hx hb dX5_append_0 rfl (lv_at hl 0 rfl) ?_
  refine va_get (D := D) (ci := 6) (v := .int u.2.2) (C := RX5) (T := TX5) (N := 3) hx hb hW inlX5 hown hK hP 0 rfl rfl 2 (by decide) (hW _ wd_66) (fun _ h9 => h9) rfl dX5_append_1 ?_
  refine lv_bipush (v := 20) hx hb dX5_append_4 (by decide) ?_
  refine lv_icmp_lt (tgt := 11) hx hb dX5_append_6 (by decide) (fun c6 => ?_) (fun c6 => ?_)
  · replace hf := zi_p hf c6
    refine lv_aload_n hx hb dX5_append_11 rfl (lv_at hl 0 rfl) ?_
    refine va_get (D := D) (ci := 6) (v := .ref (ad (b + 1))) (C := RX5) (T := TX5) (N := 3) hx hb hW inlX5 hown hK hP 0 rfl rfl 0 (by decide) (hW _ wd_64) (fun _ h9 => h9) rfl dX5_append_12 ?_
    refine lv_aload_n hx hb dX5_append_15 rfl (lv_at hl 0 rfl) ?_
    refine va_get (D := D) (ci := 6) (v := .int u.2.2) (C := RX5) (T := TX5) (N := 3) hx hb hW inlX5 hown hK hP 0 rfl rfl 2 (by decide) (hW _ wd_66) (fun _ h9 => h9) rfl dX5_append_16 ?_
    refine lv_iload_n hx hb dX5_append_19 rfl (lv_at hl 1 rfl) ?_
    replace hf := zs_s hf
    obtain ⟨hi20, s20, es20, hf⟩ := hf
    refine z_iast (ws' := wX5 G ad b (s20, u.2.1, u.2.2)) hx hb hK hP hD hS 1 0 rfl rfl hi20 es20 rfl dX5_append_20 (fun H locs hP hD hS => ?_)
    refine lv_aload_n hx hb dX5_append_21 rfl (lv_at hl 0 rfl) ?_
    refine va_get (D := D) (ci := 6) (v := .ref (ad (b + 2))) (C := RX5) (T := TX5) (N := 3) hx hb hW inlX5 hown hK hP 0 rfl rfl 1 (by decide) (hW _ wd_65) (fun _ h9 => h9) rfl dX5_append_22 ?_
    refine lv_aload_n hx hb dX5_append_25 rfl (lv_at hl 0 rfl) ?_
    refine va_get (D := D) (ci := 6) (v := .int u.2.2) (C := RX5) (T := TX5) (N := 3) hx hb hW inlX5 hown hK hP 0 rfl rfl 2 (by decide) (hW _ wd_66) (fun _ h9 => h9) rfl dX5_append_26 ?_
    refine lv_iload_n hx hb dX5_append_29 rfl (lv_at hl 2 rfl) ?_
    replace hf := zs_s hf
    obtain ⟨hi30, s30, es30, hf⟩ := hf
    refine z_iast (ws' := wX5 G ad b (s20, s30, u.2.2)) hx hb hK hP hD hS 2 0 rfl rfl hi30 es30 rfl dX5_append_30 (fun H locs hP hD hS => ?_)
    refine lv_aload_n hx hb dX5_append_31 rfl (lv_at hl 0 rfl) ?_
    refine lv_dup hx hb dX5_append_32 rfl ?_
    refine va_get (D := D) (ci := 6) (v := .int u.2.2) (C := RX5) (T := TX5) (N := 3) hx hb hW inlX5 hown hK hP 0 rfl rfl 2 (by decide) (hW _ wd_66) (fun _ h9 => h9) rfl dX5_append_33 ?_
    refine lv_iconst (v := 1) hx hb dX5_append_36 (by decide) ?_
    refine lv_iadd hx hb dX5_append_37 ?_
    replace hf := zn_s hf
    obtain ⟨k38, ek38, hf⟩ := hf
    refine z_top ek38 ?_
    refine z_put (ws' := wX5 G ad b (s20, s30, k38)) (ci := 6) (C := RX5) (T := TX5) (N := 3) hx hb hW inlX5 tyX5 tyX5_ok nmX5 hown hK hP hD hS 0 rfl rfl 2 (by decide) (hW _ wd_66) rfl rfl (Nat.le_of_ble_eq_true rfl) rfl dX5_append_38 (fun H locs hP hD hS => ?_)
    refine lv_iconst (v := 1) hx hb dX5_append_41 (by decide) ?_
    obtain rfl := zo hf
    exact hret _ _ _ _ _ hP hD hS rfl rfl dX5_append_42
  · replace hf := zi_n hf c6
    refine lv_iconst (v := 0) hx hb dX5_append_9 (by decide) ?_
    obtain rfl := zo hf
    exact hret _ _ _ _ _ hP hD hS rfl rfl dX5_append_10
noncomputable def q_X5_sizeOf_L4 (u : tX5) (p1 : Int32) (v4 : Int32 × Int32) : Option ((Int32 × Int32) ⊕ (Int32)) :=
  (if u.2.2 ≤ v4.2 then some (Sum.inr (v4.1)) else zg 20 u.1 v4.2 fun a17 => (if a17 = p1 then some (Sum.inl ((v4.1 + 1), (v4.2 + 1))) else some (Sum.inl (v4.1, (v4.2 + 1)))))
noncomputable def q_X5_sizeOf (u : tX5) (p1 : Int32) : Option (Int32) :=
  zb (zl 1000000 (q_X5_sizeOf_L4 u p1) (0, 0)) (fun b4 => some (b4))
set_option maxRecDepth 100000 in
set_option maxHeartbeats 4000000 in
theorem c_X5_sizeOf (l : Launch) (D : va_G) (G : zG) (ad : Nat → Nat) (b : Nat) (u : tX5) (p1 : Int32) (res : Int32) (hf : q_X5_sizeOf u p1 = some res) : zMi l yX5_sizeOf cX5_sizeOf 4 (some .int) 0 0 D G (wX5 G ad b u) (wX5 G ad b u) [.ref (ad b), .int p1] res := by
  refine zs_i (plainFor_of_name (by decide)) (Nat.le_of_ble_eq_true rfl) ?_
  intro p e s m args below meth c A Q H ls C0 hret hP hD hS hl
  obtain ⟨hx, hb, hml, hown, hW, hK, hlocks, hF, hr, hA⟩ := id C0
  replace hl : lv_has ls 4 [(0, .ref (ad b)), (1, .int p1)] := hl
  unfold q_X5_sizeOf at hf
  refine lv_iconst (v := 0) hx hb dX5_sizeOf_0 (by decide) ?_
  refine lv_istore_n (lv' := [(2, .int 0), (0, .ref (ad b)), (1, .int p1)]) hx hb dX5_sizeOf_1 rfl hl (by decide) rfl (fun ls hl => ?_)
  refine lv_iconst (v := 0) hx hb dX5_sizeOf_2 (by decide) ?_
  refine lv_istore_n (lv' := [(3, .int 0), (2, .int 0), (0, .ref (ad b)), (1, .int p1)]) hx hb dX5_sizeOf_3 rfl hl (by decide) rfl (fun ls hl => ?_)
  replace hf := zb_s hf
  obtain ⟨b4, hz4, hk4⟩ := hf
  have L4 : ∀ (n4 : Nat) (v4 : Int32 × Int32) (hz4 : zl n4 (q_X5_sizeOf_L4 u p1) v4 = some b4) (H : Heap) (locs : List Loc) (hP : va_P D vwCl (wX5 G ad b u) H) (hD : va_D A (wX5 G ad b u)) (hS : va_S A s.heap H locs) (ls : Array Slot) (hl : lv_has ls 4 [(0, .ref (ad b)), (1, .int p1), (2, .int v4.1), (3, .int v4.2)]), W p l e (zRm 0 0) s m args below meth c H locs 0 0 Q (F0 m 4 ls []) := by
    intro n4
    induction n4 with
    | zero => intro v4 hz4; exact (zl_0 hz4).elim
    | succ n4 ih4 =>
      intro v4 hz4 H locs hP hD hS ls hl
      obtain ⟨o4, hf, hz4⟩ := zl_s hz4
      unfold q_X5_sizeOf_L4 at hf
      refine lv_iload_n hx hb dX5_sizeOf_4 rfl (lv_at hl 3 rfl) ?_
      refine lv_aload_n hx hb dX5_sizeOf_5 rfl (lv_at hl 0 rfl) ?_
      refine va_get (D := D) (ci := 6) (v := .int u.2.2) (C := RX5) (T := TX5) (N := 3) hx hb hW inlX5 hown hK hP 0 rfl rfl 2 (by decide) (hW _ wd_66) (fun _ h9 => h9) rfl dX5_sizeOf_6 ?_
      refine lv_icmp_ge (tgt := 31) hx hb dX5_sizeOf_9 (by decide) (fun c9 => ?_) (fun c9 => ?_)
      · replace hf := zi_p hf c9
        have hb4 := zk_r hf hz4
        subst hb4
        replace hf := hk4
        refine lv_iload_n hx hb dX5_sizeOf_31 rfl (lv_at hl 2 rfl) ?_
        obtain rfl := zo hf
        exact hret _ _ _ _ _ hP hD hS rfl dX5_sizeOf_32
      · replace hf := zi_n hf c9
        refine lv_aload_n hx hb dX5_sizeOf_12 rfl (lv_at hl 0 rfl) ?_
        refine va_get (D := D) (ci := 6) (v := .ref (ad (b + 1))) (C := RX5) (T := TX5) (N := 3) hx hb hW inlX5 hown hK hP 0 rfl rfl 0 (by decide) (hW _ wd_64) (fun _ h9 => h9) rfl dX5_sizeOf_13 ?_
        refine lv_iload_n hx hb dX5_sizeOf_16 rfl (lv_at hl 3 rfl) ?_
        replace hf := zg_s hf
        obtain ⟨hi17, a17, ea17, hf⟩ := hf
        refine z_iald hx hb hK hP 1 0 rfl rfl hi17 ea17 dX5_sizeOf_17 ?_
        refine lv_iload_n hx hb dX5_sizeOf_18 rfl (lv_at hl 1 rfl) ?_
        refine lv_icmp_ne (tgt := 25) hx hb dX5_sizeOf_19 (by decide) (fun c19 => ?_) (fun c19 => ?_)
        · replace hf := zi_n hf c19
          refine lv_iinc (v := (v4.2 + 1)) (lv' := [(3, .int (v4.2 + 1)), (0, .ref (ad b)), (1, .int p1), (2, .int v4.1)]) hx hb dX5_sizeOf_25 hl (k := 3) rfl rfl (by decide) rfl (fun ls hl => ?_)
          refine lv_goto (tgt := 4) hx hb dX5_sizeOf_28 (by decide) ?_
          exact ih4 _ (zk_l hf hz4) _ _ hP hD hS _ (lv_sub hl [1, 2, 3, 0] rfl)
        · replace hf := zi_p hf c19
          refine lv_iinc (v := (v4.1 + 1)) (lv' := [(2, .int (v4.1 + 1)), (0, .ref (ad b)), (1, .int p1), (3, .int v4.2)]) hx hb dX5_sizeOf_22 hl (k := 2) rfl rfl (by decide) rfl (fun ls hl => ?_)
          refine lv_iinc (v := (v4.2 + 1)) (lv' := [(3, .int (v4.2 + 1)), (2, .int (v4.1 + 1)), (0, .ref (ad b)), (1, .int p1)]) hx hb dX5_sizeOf_25 hl (k := 3) rfl rfl (by decide) rfl (fun ls hl => ?_)
          refine lv_goto (tgt := 4) hx hb dX5_sizeOf_28 (by decide) ?_
          exact ih4 _ (zk_l hf hz4) _ _ hP hD hS _ (lv_sub hl [2, 3, 1, 0] rfl)
  exact L4 _ _ hz4 _ _ hP hD hS _ (lv_sub hl [2, 3, 1, 0] rfl)
noncomputable def q_X5_sumOf_L5 (u : tX5) (p1 : Int32) (p2 : Int32) (v5 : Int32 × Int32) : Option ((Int32 × Int32) ⊕ (Int32)) :=
  (if u.2.2 ≤ v5.2 then some (Sum.inr (v5.1)) else zg 20 u.1 v5.2 fun a20 => (if a20 = p1 then zg 20 u.2.1 v5.2 fun a32 => zn (if p2 < a32 then p2 else a32) fun k34 => some (Sum.inl ((v5.1 + k34), (v5.2 + 1))) else some (Sum.inl (v5.1, (v5.2 + 1)))))
noncomputable def q_X5_sumOf (u : tX5) (p1 : Int32) (p2 : Int32) : Option (Int32) :=
  zb (zl 1000000 (q_X5_sumOf_L5 u p1 p2) (0, 0)) (fun b5 => some (b5))
set_option maxRecDepth 100000 in
set_option maxHeartbeats 4000000 in
theorem c_X5_sumOf (l : Launch) (D : va_G) (G : zG) (ad : Nat → Nat) (b : Nat) (u : tX5) (p1 : Int32) (p2 : Int32) (res : Int32) (hf : q_X5_sumOf u p1 p2 = some res) : zMi l yX5_sumOf cX5_sumOf 5 (some .int) 1 32 D G (wX5 G ad b u) (wX5 G ad b u) [.ref (ad b), .int p1, .int p2] res := by
  refine zs_i (plainFor_of_name (by decide)) (Nat.le_of_ble_eq_true rfl) ?_
  intro p e s m args below meth c A Q H ls C0 hret hP hD hS hl
  obtain ⟨hx, hb, hml, hown, hW, hK, hlocks, hF, hr, hA⟩ := id C0
  replace hl : lv_has ls 5 [(0, .ref (ad b)), (1, .int p1), (2, .int p2)] := hl
  unfold q_X5_sumOf at hf
  refine lv_iconst (v := 0) hx hb dX5_sumOf_0 (by decide) ?_
  refine lv_istore_n (lv' := [(3, .int 0), (0, .ref (ad b)), (1, .int p1), (2, .int p2)]) hx hb dX5_sumOf_1 rfl hl (by decide) rfl (fun ls hl => ?_)
  refine lv_iconst (v := 0) hx hb dX5_sumOf_2 (by decide) ?_
  refine lv_istore (lv' := [(4, .int 0), (3, .int 0), (0, .ref (ad b)), (1, .int p1), (2, .int p2)]) hx hb dX5_sumOf_3 hl (by decide) rfl (fun ls hl => ?_)
  replace hf := zb_s hf
  obtain ⟨b5, hz5, hk5⟩ := hf
  have L5 : ∀ (n5 : Nat) (v5 : Int32 × Int32) (hz5 : zl n5 (q_X5_sumOf_L5 u p1 p2) v5 = some b5) (H : Heap) (locs : List Loc) (hP : va_P D vwCl (wX5 G ad b u) H) (hD : va_D A (wX5 G ad b u)) (hS : va_S A s.heap H locs) (ls : Array Slot) (hl : lv_has ls 5 [(0, .ref (ad b)), (1, .int p1), (2, .int p2), (3, .int v5.1), (4, .int v5.2)]), W p l e (zRm 1 32) s m args below meth c H locs 0 0 Q (F0 m 5 ls []) := by
    intro n5
    induction n5 with
    | zero => intro v5 hz5; exact (zl_0 hz5).elim
    | succ n5 ih5 =>
      intro v5 hz5 H locs hP hD hS ls hl
      obtain ⟨o5, hf, hz5⟩ := zl_s hz5
      unfold q_X5_sumOf_L5 at hf
      refine lv_iload hx hb dX5_sumOf_5 (lv_at hl 4 rfl) ?_
      refine lv_aload_n hx hb dX5_sumOf_7 rfl (lv_at hl 0 rfl) ?_
      refine va_get (D := D) (ci := 6) (v := .int u.2.2) (C := RX5) (T := TX5) (N := 3) hx hb hW inlX5 hown hK hP 0 rfl rfl 2 (by decide) (hW _ wd_66) (fun _ h9 => h9) rfl dX5_sumOf_8 ?_
      refine lv_icmp_ge (tgt := 45) hx hb dX5_sumOf_11 (by decide) (fun c11 => ?_) (fun c11 => ?_)
      · replace hf := zi_p hf c11
        have hb5 := zk_r hf hz5
        subst hb5
        replace hf := hk5
        refine lv_iload_n hx hb dX5_sumOf_45 rfl (lv_at hl 3 rfl) ?_
        obtain rfl := zo hf
        exact hret _ _ _ _ _ hP hD hS rfl dX5_sumOf_46
      · replace hf := zi_n hf c11
        refine lv_aload_n hx hb dX5_sumOf_14 rfl (lv_at hl 0 rfl) ?_
        refine va_get (D := D) (ci := 6) (v := .ref (ad (b + 1))) (C := RX5) (T := TX5) (N := 3) hx hb hW inlX5 hown hK hP 0 rfl rfl 0 (by decide) (hW _ wd_64) (fun _ h9 => h9) rfl dX5_sumOf_15 ?_
        refine lv_iload hx hb dX5_sumOf_18 (lv_at hl 4 rfl) ?_
        replace hf := zg_s hf
        obtain ⟨hi20, a20, ea20, hf⟩ := hf
        refine z_iald hx hb hK hP 1 0 rfl rfl hi20 ea20 dX5_sumOf_20 ?_
        refine lv_iload_n hx hb dX5_sumOf_21 rfl (lv_at hl 1 rfl) ?_
        refine lv_icmp_ne (tgt := 39) hx hb dX5_sumOf_22 (by decide) (fun c22 => ?_) (fun c22 => ?_)
        · replace hf := zi_n hf c22
          refine lv_iinc (v := (v5.2 + 1)) (lv' := [(4, .int (v5.2 + 1)), (0, .ref (ad b)), (1, .int p1), (2, .int p2), (3, .int v5.1)]) hx hb dX5_sumOf_39 hl (k := 4) rfl rfl (by decide) rfl (fun ls hl => ?_)
          refine lv_goto (tgt := 5) hx hb dX5_sumOf_42 (by decide) ?_
          exact ih5 _ (zk_l hf hz5) _ _ hP hD hS _ (lv_sub hl [1, 2, 3, 4, 0] rfl)
        · replace hf := zi_p hf c22
          refine lv_iload_n hx hb dX5_sumOf_25 rfl (lv_at hl 3 rfl) ?_
          refine lv_aload_n hx hb dX5_sumOf_26 rfl (lv_at hl 0 rfl) ?_
          refine va_get (D := D) (ci := 6) (v := .ref (ad (b + 2))) (C := RX5) (T := TX5) (N := 3) hx hb hW inlX5 hown hK hP 0 rfl rfl 1 (by decide) (hW _ wd_65) (fun _ h9 => h9) rfl dX5_sumOf_27 ?_
          refine lv_iload hx hb dX5_sumOf_30 (lv_at hl 4 rfl) ?_
          replace hf := zg_s hf
          obtain ⟨hi32, a32, ea32, hf⟩ := hf
          refine z_iald hx hb hK hP 2 0 rfl rfl hi32 ea32 dX5_sumOf_32 ?_
          refine lv_iload_n hx hb dX5_sumOf_33 rfl (lv_at hl 2 rfl) ?_
          refine va_mmin hx hb (hml.trans hl.1.symm) hown (hW _ wd_288) (hW _ wd_289) (hW _ wd_236) (hW _ wd_290) (Nat.le_of_ble_eq_true rfl) (Nat.le_of_ble_eq_true rfl) (Nat.zero_le _) (Nat.zero_le _) dX5_sumOf_34 ?_
          replace hf := zn_s hf
          obtain ⟨k34, ek34, hf⟩ := hf
          refine z_top ek34 ?_
          refine lv_iadd hx hb dX5_sumOf_37 ?_
          refine lv_istore_n (lv' := [(3, .int (v5.1 + k34)), (0, .ref (ad b)), (1, .int p1), (2, .int p2), (4, .int v5.2)]) hx hb dX5_sumOf_38 rfl hl (by decide) rfl (fun ls hl => ?_)
          refine lv_iinc (v := (v5.2 + 1)) (lv' := [(4, .int (v5.2 + 1)), (3, .int (v5.1 + k34)), (0, .ref (ad b)), (1, .int p1), (2, .int p2)]) hx hb dX5_sumOf_39 hl (k := 4) rfl rfl (by decide) rfl (fun ls hl => ?_)
          refine lv_goto (tgt := 5) hx hb dX5_sumOf_42 (by decide) ?_
          exact ih5 _ (zk_l hf hz5) _ _ hP hD hS _ (lv_sub hl [2, 3, 4, 1, 0] rfl)
  exact L5 _ _ hz5 _ _ hP hD hS _ (lv_sub hl [2, 3, 4, 1, 0] rfl)
noncomputable def q_X5_triesAt_J30 (u : tX5) (x30_4 : Int32) : Option (Int32) :=
  zg 20 u.2.1 x30_4 fun a36 => some (a36)
noncomputable def q_X5_triesAt_L5 (u : tX5) (p1 : Int32) (p2 : Int32) (v5 : Int32 × Int32) : Option ((Int32 × Int32) ⊕ (((Unit) ⊕ (Int32)))) :=
  (if u.2.2 ≤ v5.2 then some (Sum.inr (Sum.inl ())) else zg 20 u.1 v5.2 fun a20 => (if a20 = p1 then (if v5.1 = p2 then some (Sum.inr (Sum.inr (v5.2))) else some (Sum.inl ((v5.1 + 1), (v5.2 + 1)))) else some (Sum.inl (v5.1, (v5.2 + 1)))))
noncomputable def q_X5_triesAt (u : tX5) (p1 : Int32) (p2 : Int32) : Option (Int32) :=
  zb (zl 1000000 (q_X5_triesAt_L5 u p1 p2) (0, 0)) (zm (fun e5_0 => some ((-1))) (fun e5_1 => q_X5_triesAt_J30 u e5_1))
set_option maxRecDepth 100000 in
set_option maxHeartbeats 4000000 in
theorem c_X5_triesAt (l : Launch) (D : va_G) (G : zG) (ad : Nat → Nat) (b : Nat) (u : tX5) (p1 : Int32) (p2 : Int32) (res : Int32) (hf : q_X5_triesAt u p1 p2 = some res) : zMi l yX5_triesAt cX5_triesAt 5 (some .int) 0 0 D G (wX5 G ad b u) (wX5 G ad b u) [.ref (ad b), .int p1, .int p2] res := by
  refine zs_i (plainFor_of_name (by decide)) (Nat.le_of_ble_eq_true rfl) ?_
  intro p e s m args below meth c A Q H ls C0 hret hP hD hS hl
  obtain ⟨hx, hb, hml, hown, hW, hK, hlocks, hF, hr, hA⟩ := id C0
  replace hl : lv_has ls 5 [(0, .ref (ad b)), (1, .int p1), (2, .int p2)] := hl
  unfold q_X5_triesAt at hf
  refine lv_iconst (v := 0) hx hb dX5_triesAt_0 (by decide) ?_
  refine lv_istore_n (lv' := [(3, .int 0), (0, .ref (ad b)), (1, .int p1), (2, .int p2)]) hx hb dX5_triesAt_1 rfl hl (by decide) rfl (fun ls hl => ?_)
  refine lv_iconst (v := 0) hx hb dX5_triesAt_2 (by decide) ?_
  refine lv_istore (lv' := [(4, .int 0), (3, .int 0), (0, .ref (ad b)), (1, .int p1), (2, .int p2)]) hx hb dX5_triesAt_3 hl (by decide) rfl (fun ls hl => ?_)
  have J30 : ∀ (x30_4 : Int32) (hf : q_X5_triesAt_J30 u x30_4 = some res) (H : Heap) (locs : List Loc) (hP : va_P D vwCl (wX5 G ad b u) H) (hD : va_D A (wX5 G ad b u)) (hS : va_S A s.heap H locs) (ls : Array Slot) (hl : lv_has ls 5 [(0, .ref (ad b)), (4, .int x30_4)]), W p l e (zRm 0 0) s m args below meth c H locs 0 0 Q (F0 m 30 ls []) := by
    intro x30_4 hf H locs hP hD hS ls hl
    unfold q_X5_triesAt_J30 at hf
    refine lv_aload_n hx hb dX5_triesAt_30 rfl (lv_at hl 0 rfl) ?_
    refine va_get (D := D) (ci := 6) (v := .ref (ad (b + 2))) (C := RX5) (T := TX5) (N := 3) hx hb hW inlX5 hown hK hP 0 rfl rfl 1 (by decide) (hW _ wd_65) (fun _ h9 => h9) rfl dX5_triesAt_31 ?_
    refine lv_iload hx hb dX5_triesAt_34 (lv_at hl 1 rfl) ?_
    replace hf := zg_s hf
    obtain ⟨hi36, a36, ea36, hf⟩ := hf
    refine z_iald hx hb hK hP 2 0 rfl rfl hi36 ea36 dX5_triesAt_36 ?_
    obtain rfl := zo hf
    exact hret _ _ _ _ _ hP hD hS rfl dX5_triesAt_37
  replace hf := zb_s hf
  obtain ⟨b5, hz5, hk5⟩ := hf
  have L5 : ∀ (n5 : Nat) (v5 : Int32 × Int32) (hz5 : zl n5 (q_X5_triesAt_L5 u p1 p2) v5 = some b5) (H : Heap) (locs : List Loc) (hP : va_P D vwCl (wX5 G ad b u) H) (hD : va_D A (wX5 G ad b u)) (hS : va_S A s.heap H locs) (ls : Array Slot) (hl : lv_has ls 5 [(0, .ref (ad b)), (1, .int p1), (2, .int p2), (3, .int v5.1), (4, .int v5.2)]), W p l e (zRm 0 0) s m args below meth c H locs 0 0 Q (F0 m 5 ls []) := by
    intro n5
    induction n5 with
    | zero => intro v5 hz5; exact (zl_0 hz5).elim
    | succ n5 ih5 =>
      intro v5 hz5 H locs hP hD hS ls hl
      obtain ⟨o5, hf, hz5⟩ := zl_s hz5
      unfold q_X5_triesAt_L5 at hf
      refine lv_iload hx hb dX5_triesAt_5 (lv_at hl 4 rfl) ?_
      refine lv_aload_n hx hb dX5_triesAt_7 rfl (lv_at hl 0 rfl) ?_
      refine va_get (D := D) (ci := 6) (v := .int u.2.2) (C := RX5) (T := TX5) (N := 3) hx hb hW inlX5 hown hK hP 0 rfl rfl 2 (by decide) (hW _ wd_66) (fun _ h9 => h9) rfl dX5_triesAt_8 ?_
      refine lv_icmp_ge (tgt := 47) hx hb dX5_triesAt_11 (by decide) (fun c11 => ?_) (fun c11 => ?_)
      · replace hf := zi_p hf c11
        have hb5 := zk_r hf hz5
        subst hb5
        replace hf := (zm_l hk5)
        refine lv_iconst (v := (-1)) hx hb dX5_triesAt_47 (by decide) ?_
        obtain rfl := zo hf
        exact hret _ _ _ _ _ hP hD hS rfl dX5_triesAt_48
      · replace hf := zi_n hf c11
        refine lv_aload_n hx hb dX5_triesAt_14 rfl (lv_at hl 0 rfl) ?_
        refine va_get (D := D) (ci := 6) (v := .ref (ad (b + 1))) (C := RX5) (T := TX5) (N := 3) hx hb hW inlX5 hown hK hP 0 rfl rfl 0 (by decide) (hW _ wd_64) (fun _ h9 => h9) rfl dX5_triesAt_15 ?_
        refine lv_iload hx hb dX5_triesAt_18 (lv_at hl 4 rfl) ?_
        replace hf := zg_s hf
        obtain ⟨hi20, a20, ea20, hf⟩ := hf
        refine z_iald hx hb hK hP 1 0 rfl rfl hi20 ea20 dX5_triesAt_20 ?_
        refine lv_iload_n hx hb dX5_triesAt_21 rfl (lv_at hl 1 rfl) ?_
        refine lv_icmp_ne (tgt := 41) hx hb dX5_triesAt_22 (by decide) (fun c22 => ?_) (fun c22 => ?_)
        · replace hf := zi_n hf c22
          refine lv_iinc (v := (v5.2 + 1)) (lv' := [(4, .int (v5.2 + 1)), (0, .ref (ad b)), (1, .int p1), (2, .int p2), (3, .int v5.1)]) hx hb dX5_triesAt_41 hl (k := 4) rfl rfl (by decide) rfl (fun ls hl => ?_)
          refine lv_goto (tgt := 5) hx hb dX5_triesAt_44 (by decide) ?_
          exact ih5 _ (zk_l hf hz5) _ _ hP hD hS _ (lv_sub hl [1, 2, 3, 4, 0] rfl)
        · replace hf := zi_p hf c22
          refine lv_iload_n hx hb dX5_triesAt_25 rfl (lv_at hl 3 rfl) ?_
          refine lv_iload_n hx hb dX5_triesAt_26 rfl (lv_at hl 2 rfl) ?_
          refine lv_icmp_ne (tgt := 38) hx hb dX5_triesAt_27 (by decide) (fun c27 => ?_) (fun c27 => ?_)
          · replace hf := zi_n hf c27
            refine lv_iinc (v := (v5.1 + 1)) (lv' := [(3, .int (v5.1 + 1)), (0, .ref (ad b)), (1, .int p1), (2, .int p2), (4, .int v5.2)]) hx hb dX5_triesAt_38 hl (k := 3) rfl rfl (by decide) rfl (fun ls hl => ?_)
            refine lv_iinc (v := (v5.2 + 1)) (lv' := [(4, .int (v5.2 + 1)), (3, .int (v5.1 + 1)), (0, .ref (ad b)), (1, .int p1), (2, .int p2)]) hx hb dX5_triesAt_41 hl (k := 4) rfl rfl (by decide) rfl (fun ls hl => ?_)
            refine lv_goto (tgt := 5) hx hb dX5_triesAt_44 (by decide) ?_
            exact ih5 _ (zk_l hf hz5) _ _ hP hD hS _ (lv_sub hl [2, 3, 4, 1, 0] rfl)
          · replace hf := zi_p hf c27
            have hb5 := zk_r hf hz5
            subst hb5
            replace hf := (zm_r hk5)
            exact J30 v5.2 hf _ _ hP hD hS _ (lv_sub hl [0, 4] rfl)
  exact L5 _ _ hz5 _ _ hP hD hS _ (lv_sub hl [2, 3, 4, 1, 0] rfl)
noncomputable def q_X5_hasWeak_L2 (u : tX5) (p1 : Int32) (p2 : Int32) (v2 : Int32) : Option ((Int32) ⊕ (((Unit) ⊕ (Unit)))) :=
  (if u.2.2 ≤ v2 then some (Sum.inr (Sum.inl ())) else zg 20 u.1 v2 fun a15 => (if a15 = p1 then zg 20 u.2.1 v2 fun a25 => (if a25 < p2 then some (Sum.inl ((v2 + 1))) else some (Sum.inr (Sum.inr ()))) else some (Sum.inl ((v2 + 1)))))
noncomputable def q_X5_hasWeak (u : tX5) (p1 : Int32) (p2 : Int32) : Option (Int32) :=
  zb (zl 1000000 (q_X5_hasWeak_L2 u p1 p2) (0)) (zm (fun e2_0 => some (0)) (fun e2_1 => some (1)))
set_option maxRecDepth 100000 in
set_option maxHeartbeats 4000000 in
theorem c_X5_hasWeak (l : Launch) (D : va_G) (G : zG) (ad : Nat → Nat) (b : Nat) (u : tX5) (p1 : Int32) (p2 : Int32) (res : Int32) (hf : q_X5_hasWeak u p1 p2 = some res) : zMi l yX5_hasWeak cX5_hasWeak 4 (some .boolean) 0 0 D G (wX5 G ad b u) (wX5 G ad b u) [.ref (ad b), .int p1, .int p2] res := by
  refine zs_z (plainFor_of_name (by decide)) (Nat.le_of_ble_eq_true rfl) ?_
  intro p e s m args below meth c A Q H ls C0 hret hP hD hS hl
  obtain ⟨hx, hb, hml, hown, hW, hK, hlocks, hF, hr, hA⟩ := id C0
  replace hl : lv_has ls 4 [(0, .ref (ad b)), (1, .int p1), (2, .int p2)] := hl
  unfold q_X5_hasWeak at hf
  refine lv_iconst (v := 0) hx hb dX5_hasWeak_0 (by decide) ?_
  refine lv_istore_n (lv' := [(3, .int 0), (0, .ref (ad b)), (1, .int p1), (2, .int p2)]) hx hb dX5_hasWeak_1 rfl hl (by decide) rfl (fun ls hl => ?_)
  replace hf := zb_s hf
  obtain ⟨b2, hz2, hk2⟩ := hf
  have L2 : ∀ (n2 : Nat) (v2 : Int32) (hz2 : zl n2 (q_X5_hasWeak_L2 u p1 p2) v2 = some b2) (H : Heap) (locs : List Loc) (hP : va_P D vwCl (wX5 G ad b u) H) (hD : va_D A (wX5 G ad b u)) (hS : va_S A s.heap H locs) (ls : Array Slot) (hl : lv_has ls 4 [(0, .ref (ad b)), (1, .int p1), (2, .int p2), (3, .int v2)]), W p l e (zRm 0 0) s m args below meth c H locs 0 0 Q (F0 m 2 ls []) := by
    intro n2
    induction n2 with
    | zero => intro v2 hz2; exact (zl_0 hz2).elim
    | succ n2 ih2 =>
      intro v2 hz2 H locs hP hD hS ls hl
      obtain ⟨o2, hf, hz2⟩ := zl_s hz2
      unfold q_X5_hasWeak_L2 at hf
      refine lv_iload_n hx hb dX5_hasWeak_2 rfl (lv_at hl 3 rfl) ?_
      refine lv_aload_n hx hb dX5_hasWeak_3 rfl (lv_at hl 0 rfl) ?_
      refine va_get (D := D) (ci := 6) (v := .int u.2.2) (C := RX5) (T := TX5) (N := 3) hx hb hW inlX5 hown hK hP 0 rfl rfl 2 (by decide) (hW _ wd_66) (fun _ h9 => h9) rfl dX5_hasWeak_4 ?_
      refine lv_icmp_ge (tgt := 38) hx hb dX5_hasWeak_7 (by decide) (fun c7 => ?_) (fun c7 => ?_)
      · replace hf := zi_p hf c7
        have hb2 := zk_r hf hz2
        subst hb2
        replace hf := (zm_l hk2)
        refine lv_iconst (v := 0) hx hb dX5_hasWeak_38 (by decide) ?_
        obtain rfl := zo hf
        exact hret _ _ _ _ _ hP hD hS rfl rfl dX5_hasWeak_39
      · replace hf := zi_n hf c7
        refine lv_aload_n hx hb dX5_hasWeak_10 rfl (lv_at hl 0 rfl) ?_
        refine va_get (D := D) (ci := 6) (v := .ref (ad (b + 1))) (C := RX5) (T := TX5) (N := 3) hx hb hW inlX5 hown hK hP 0 rfl rfl 0 (by decide) (hW _ wd_64) (fun _ h9 => h9) rfl dX5_hasWeak_11 ?_
        refine lv_iload_n hx hb dX5_hasWeak_14 rfl (lv_at hl 3 rfl) ?_
        replace hf := zg_s hf
        obtain ⟨hi15, a15, ea15, hf⟩ := hf
        refine z_iald hx hb hK hP 1 0 rfl rfl hi15 ea15 dX5_hasWeak_15 ?_
        refine lv_iload_n hx hb dX5_hasWeak_16 rfl (lv_at hl 1 rfl) ?_
        refine lv_icmp_ne (tgt := 32) hx hb dX5_hasWeak_17 (by decide) (fun c17 => ?_) (fun c17 => ?_)
        · replace hf := zi_n hf c17
          refine lv_iinc (v := (v2 + 1)) (lv' := [(3, .int (v2 + 1)), (0, .ref (ad b)), (1, .int p1), (2, .int p2)]) hx hb dX5_hasWeak_32 hl (k := 3) rfl rfl (by decide) rfl (fun ls hl => ?_)
          refine lv_goto (tgt := 2) hx hb dX5_hasWeak_35 (by decide) ?_
          exact ih2 _ (zk_l hf hz2) _ _ hP hD hS _ (lv_sub hl [1, 2, 3, 0] rfl)
        · replace hf := zi_p hf c17
          refine lv_aload_n hx hb dX5_hasWeak_20 rfl (lv_at hl 0 rfl) ?_
          refine va_get (D := D) (ci := 6) (v := .ref (ad (b + 2))) (C := RX5) (T := TX5) (N := 3) hx hb hW inlX5 hown hK hP 0 rfl rfl 1 (by decide) (hW _ wd_65) (fun _ h9 => h9) rfl dX5_hasWeak_21 ?_
          refine lv_iload_n hx hb dX5_hasWeak_24 rfl (lv_at hl 3 rfl) ?_
          replace hf := zg_s hf
          obtain ⟨hi25, a25, ea25, hf⟩ := hf
          refine z_iald hx hb hK hP 2 0 rfl rfl hi25 ea25 dX5_hasWeak_25 ?_
          refine lv_iload_n hx hb dX5_hasWeak_26 rfl (lv_at hl 2 rfl) ?_
          refine lv_icmp_lt (tgt := 32) hx hb dX5_hasWeak_27 (by decide) (fun c27 => ?_) (fun c27 => ?_)
          · replace hf := zi_p hf c27
            refine lv_iinc (v := (v2 + 1)) (lv' := [(3, .int (v2 + 1)), (0, .ref (ad b)), (1, .int p1), (2, .int p2)]) hx hb dX5_hasWeak_32 hl (k := 3) rfl rfl (by decide) rfl (fun ls hl => ?_)
            refine lv_goto (tgt := 2) hx hb dX5_hasWeak_35 (by decide) ?_
            exact ih2 _ (zk_l hf hz2) _ _ hP hD hS _ (lv_sub hl [1, 2, 3, 0] rfl)
          · replace hf := zi_n hf c27
            have hb2 := zk_r hf hz2
            subst hb2
            replace hf := (zm_r hk2)
            refine lv_iconst (v := 1) hx hb dX5_hasWeak_30 (by decide) ?_
            obtain rfl := zo hf
            exact hret _ _ _ _ _ hP hD hS rfl rfl dX5_hasWeak_31
  exact L2 _ _ hz2 _ _ hP hD hS _ (lv_sub hl [1, 2, 3, 0] rfl)
