noncomputable def q_X7_copies_L3 (n : Nat) (n1 : Nat) (u : Nat → Int32) (p1 : Int32) (p3 : Int32) (v3 : Int32 × (Nat → Int32)) : Option ((Int32 × (Nat → Int32)) ⊕ ((Nat → Int32))) :=
  (if 104 ≤ v3.1 then some (Sum.inr (v3.2)) else zg n u (p1 + v3.1) fun a20 => zs n1 v3.2 (p3 + v3.1) a20 fun s21 => some (Sum.inl ((v3.1 + 1), s21)))
noncomputable def q_X7_copies (n : Nat) (n1 : Nat) (u : Nat → Int32) (u1 : Nat → Int32) (p1 : Int32) (p3 : Int32) : Option ((Nat → Int32)) :=
  zb (zl 1000000 (q_X7_copies_L3 n n1 u p1 p3) (0, u1)) (fun b3 => some (b3))
set_option maxRecDepth 100000 in
set_option maxHeartbeats 4000000 in
theorem c_X7_copies (l : Launch) (D : va_G) (G : zG) (ad : Nat → Nat) (b : Nat) (ad1 : Nat → Nat) (b1 : Nat) (n : Nat) (n1 : Nat) (u : Nat → Int32) (u1 : Nat → Int32) (p1 : Int32) (p3 : Int32) (res : (Nat → Int32)) (hf : q_X7_copies n n1 u u1 p1 p3 = some res) : zMv l yX7_copies cX7_copies 5 none 0 0 D G (wAR G ad b n u ++ wAR G ad1 b1 n1 u1) (wAR G ad b n u ++ wAR G ad1 b1 n1 res) [.ref (ad b), .int p1, .ref (ad1 b1), .int p3] := by
  refine zs_v (plainFor_of_name (by decide)) (Nat.le_of_ble_eq_true rfl) ?_
  intro p e s m args below meth c A Q H ls C0 hret hP hD hS hl
  obtain ⟨hx, hb, hml, hown, hW, hK, hlocks, hF, hr, hA⟩ := id C0
  replace hl : lv_has ls 5 [(0, .ref (ad b)), (1, .int p1), (2, .ref (ad1 b1)), (3, .int p3)] := hl
  unfold q_X7_copies at hf
  refine lv_iconst (v := 0) hx hb dX7_copies_0 (by decide) ?_
  refine lv_istore (lv' := [(4, .int 0), (0, .ref (ad b)), (1, .int p1), (2, .ref (ad1 b1)), (3, .int p3)]) hx hb dX7_copies_1 hl (by decide) rfl (fun ls hl => ?_)
  replace hf := zb_s hf
  obtain ⟨b3, hz3, hk3⟩ := hf
  have L3 : ∀ (n3 : Nat) (v3 : Int32 × (Nat → Int32)) (hz3 : zl n3 (q_X7_copies_L3 n n1 u p1 p3) v3 = some b3) (H : Heap) (locs : List Loc) (hP : va_P D vwCl (wAR G ad b n u ++ wAR G ad1 b1 n1 v3.2) H) (hD : va_D A (wAR G ad b n u ++ wAR G ad1 b1 n1 v3.2)) (hS : va_S A s.heap H locs) (ls : Array Slot) (hl : lv_has ls 5 [(0, .ref (ad b)), (1, .int p1), (2, .ref (ad1 b1)), (3, .int p3), (4, .int v3.1)]), W p l e (zRm 0 0) s m args below meth c H locs 0 0 Q (F0 m 3 ls []) := by
    intro n3
    induction n3 with
    | zero => intro v3 hz3; exact (zl_0 hz3).elim
    | succ n3 ih3 =>
      intro v3 hz3 H locs hP hD hS ls hl
      obtain ⟨o3, hf, hz3⟩ := zl_s hz3
      unfold q_X7_copies_L3 at hf
      refine lv_iload hx hb dX7_copies_3 (lv_at hl 4 rfl) ?_
      refine lv_bipush (v := 104) hx hb dX7_copies_5 (by decide) ?_
      refine lv_icmp_ge (tgt := 28) hx hb dX7_copies_7 (by decide) (fun c7 => ?_) (fun c7 => ?_)
      · replace hf := zi_p hf c7
        have hb3 := zk_r hf hz3
        subst hb3
        replace hf := hk3
        obtain rfl := zo hf
        exact hret _ _ _ _ hP hD hS dX7_copies_28
      · replace hf := zi_n hf c7
        refine lv_aload_n hx hb dX7_copies_10 rfl (lv_at hl 2 rfl) ?_
        refine lv_iload_n hx hb dX7_copies_11 rfl (lv_at hl 3 rfl) ?_
        refine lv_iload hx hb dX7_copies_12 (lv_at hl 4 rfl) ?_
        refine lv_iadd hx hb dX7_copies_14 ?_
        refine lv_aload_n hx hb dX7_copies_15 rfl (lv_at hl 0 rfl) ?_
        refine lv_iload_n hx hb dX7_copies_16 rfl (lv_at hl 1 rfl) ?_
        refine lv_iload hx hb dX7_copies_17 (lv_at hl 4 rfl) ?_
        refine lv_iadd hx hb dX7_copies_19 ?_
        replace hf := zg_s hf
        obtain ⟨hi20, a20, ea20, hf⟩ := hf
        refine z_iald hx hb hK hP 0 0 rfl rfl hi20 ea20 dX7_copies_20 ?_
        replace hf := zs_s hf
        obtain ⟨hi21, s21, es21, hf⟩ := hf
        refine z_iast (ws' := wAR G ad b n u ++ wAR G ad1 b1 n1 s21) hx hb hK hP hD hS 1 0 rfl rfl hi21 es21 rfl dX7_copies_21 (fun H locs hP hD hS => ?_)
        refine lv_iinc (v := (v3.1 + 1)) (lv' := [(4, .int (v3.1 + 1)), (0, .ref (ad b)), (1, .int p1), (2, .ref (ad1 b1)), (3, .int p3)]) hx hb dX7_copies_22 hl (k := 4) rfl rfl (by decide) rfl (fun ls hl => ?_)
        refine lv_goto (tgt := 3) hx hb dX7_copies_25 (by decide) ?_
        exact ih3 _ (zk_l hf hz3) _ _ hP hD hS _ (lv_sub hl [1, 2, 3, 4, 0] rfl)
  exact L3 _ _ hz3 _ _ hP hD hS _ (lv_sub hl [1, 2, 3, 4, 0] rfl)
theorem kX7_26 : zLkS RX7 26 yX7_copies cX7_copies 5 none 4 := ⟨⟨wd_198, wd_199, wd_5, wd_200⟩, by decide +kernel⟩
noncomputable def q_X7_record_J49 (u : tX7) (w49_0 : Nat → Int32) (w49_1 : Int32) : Option ((Nat → Int32) × Int32) :=
  zb (q_X7_copies 104 624 u.1 w49_0 0 (w49_1 * 104)) fun r65 => zn (w49_1 + 1) fun k75 => some (r65, k75)
noncomputable def q_X7_record_J39 (u : tX7) (w39_0 : Nat → Int32) : Option ((Nat → Int32) × Int32) :=
  zn (u.2.2.2.1 - 1) fun k46 => q_X7_record_J49 u w39_0 k46
noncomputable def q_X7_record_L11  (v11 : Int32 × (Nat → Int32)) : Option ((Int32 × (Nat → Int32)) ⊕ ((Nat → Int32))) :=
  (if 520 ≤ v11.1 then some (Sum.inr (v11.2)) else zg 624 v11.2 (v11.1 + 104) fun a31 => zs 624 v11.2 v11.1 a31 fun s32 => some (Sum.inl ((v11.1 + 1), s32)))
noncomputable def q_X7_record (u : tX7) : Option ((Nat → Int32) × Int32) :=
  (if u.2.2.2.1 = 6 then zb (zl 1000000 q_X7_record_L11 (0, u.2.2.1)) (fun b11 => q_X7_record_J39 u b11) else q_X7_record_J49 u u.2.2.1 u.2.2.2.1)
set_option maxRecDepth 100000 in
set_option maxHeartbeats 4000000 in
theorem c_X7_record (l : Launch) (D : va_G) (G : zG) (ad : Nat → Nat) (b : Nat) (u : tX7) (res : (Nat → Int32) × Int32) (hf : q_X7_record u = some res) : zMv l yX7_record cX7_record 2 none 1 24 D G (wX7 G ad b u) (wX7 G ad b (u.1, u.2.1, res.1, res.2, u.2.2.2.2.1, u.2.2.2.2.2.1, u.2.2.2.2.2.2.1, u.2.2.2.2.2.2.2.1, u.2.2.2.2.2.2.2.2.1, u.2.2.2.2.2.2.2.2.2.1, u.2.2.2.2.2.2.2.2.2.2)) [.ref (ad b)] := by
  refine zs_v (plainFor_of_name (by decide)) (Nat.le_of_ble_eq_true rfl) ?_
  intro p e s m args below meth c A Q H ls C0 hret hP hD hS hl
  obtain ⟨hx, hb, hml, hown, hW, hK, hlocks, hF, hr, hA⟩ := id C0
  replace hl : lv_has ls 2 [(0, .ref (ad b))] := hl
  unfold q_X7_record at hf
  refine lv_aload_n hx hb dX7_record_0 rfl (lv_at hl 0 rfl) ?_
  refine va_get (D := D) (ci := 8) (v := .int u.2.2.2.1) (C := RX7) (T := TX7) (N := 11) hx hb hW inlX7 hown hK hP 0 rfl rfl 3 (by decide) (hW _ wd_197) (fun _ h9 => h9) rfl dX7_record_1 ?_
  refine lv_bipush (v := 6) hx hb dX7_record_4 (by decide) ?_
  have J49 : ∀ (w49_0 : Nat → Int32) (w49_1 : Int32) (hf : q_X7_record_J49 u w49_0 w49_1 = some res) (H : Heap) (locs : List Loc) (hP : va_P D vwCl (wX7 G ad b (u.1, u.2.1, w49_0, w49_1, u.2.2.2.2.1, u.2.2.2.2.2.1, u.2.2.2.2.2.2.1, u.2.2.2.2.2.2.2.1, u.2.2.2.2.2.2.2.2.1, u.2.2.2.2.2.2.2.2.2.1, u.2.2.2.2.2.2.2.2.2.2)) H) (hD : va_D A (wX7 G ad b (u.1, u.2.1, w49_0, w49_1, u.2.2.2.2.1, u.2.2.2.2.2.1, u.2.2.2.2.2.2.1, u.2.2.2.2.2.2.2.1, u.2.2.2.2.2.2.2.2.1, u.2.2.2.2.2.2.2.2.2.1, u.2.2.2.2.2.2.2.2.2.2))) (hS : va_S A s.heap H locs) (ls : Array Slot) (hl : lv_has ls 2 [(0, .ref (ad b))]), W p l e (zRm 1 24) s m args below meth c H locs 0 0 Q (F0 m 49 ls []) := by
    intro w49_0 w49_1 hf H locs hP hD hS ls hl
    unfold q_X7_record_J49 at hf
    refine lv_aload_n hx hb dX7_record_49 rfl (lv_at hl 0 rfl) ?_
    refine va_get (D := D) (ci := 8) (v := .ref (ad (b + 1))) (C := RX7) (T := TX7) (N := 11) hx hb hW inlX7 hown hK hP 0 rfl rfl 0 (by decide) (hW _ wd_127) (fun _ h9 => h9) rfl dX7_record_50 ?_
    refine lv_iconst (v := 0) hx hb dX7_record_53 (by decide) ?_
    refine lv_aload_n hx hb dX7_record_54 rfl (lv_at hl 0 rfl) ?_
    refine va_get (D := D) (ci := 8) (v := .ref (ad (b + 3))) (C := RX7) (T := TX7) (N := 11) hx hb hW inlX7 hown hK hP 0 rfl rfl 2 (by decide) (hW _ wd_129) (fun _ h9 => h9) rfl dX7_record_55 ?_
    refine lv_aload_n hx hb dX7_record_58 rfl (lv_at hl 0 rfl) ?_
    refine va_get (D := D) (ci := 8) (v := .int w49_1) (C := RX7) (T := TX7) (N := 11) hx hb hW inlX7 hown hK hP 0 rfl rfl 3 (by decide) (hW _ wd_197) (fun _ h9 => h9) rfl dX7_record_59 ?_
    refine lv_bipush (v := 104) hx hb dX7_record_62 (by decide) ?_
    refine lv_imul hx hb dX7_record_64 ?_
    replace hf := zb_s hf
    obtain ⟨r65, hr65, hf⟩ := hf
    refine z_Sv (rest := []) C0 kX7_26 (c_X7_copies l D G ad (b + 1) ad (b + 3) 104 624 u.1 w49_0 0 (w49_1 * 104) r65 hr65) (pmX7_state_history G ad b (u.1, u.2.1, w49_0, w49_1, u.2.2.2.2.1, u.2.2.2.2.2.1, u.2.2.2.2.2.2.1, u.2.2.2.2.2.2.2.1, u.2.2.2.2.2.2.2.2.1, u.2.2.2.2.2.2.2.2.2.1, u.2.2.2.2.2.2.2.2.2.2)) (pnX7_state_history G ad b (u.1, u.2.1, w49_0, w49_1, u.2.2.2.2.1, u.2.2.2.2.2.1, u.2.2.2.2.2.2.1, u.2.2.2.2.2.2.2.1, u.2.2.2.2.2.2.2.2.1, u.2.2.2.2.2.2.2.2.2.1, u.2.2.2.2.2.2.2.2.2.2) r65) rfl ⟨Nat.le_of_ble_eq_true rfl, Nat.le_of_ble_eq_true rfl⟩ (Nat.le_of_ble_eq_true rfl) rfl hl.1 hP hD hS dX7_record_65 (fun H locs hP hD hS => ?_)
    replace hP : va_P D vwCl (wX7 G ad b (u.1, u.2.1, r65, w49_1, u.2.2.2.2.1, u.2.2.2.2.2.1, u.2.2.2.2.2.2.1, u.2.2.2.2.2.2.2.1, u.2.2.2.2.2.2.2.2.1, u.2.2.2.2.2.2.2.2.2.1, u.2.2.2.2.2.2.2.2.2.2)) H := hP
    replace hD : va_D A (wX7 G ad b (u.1, u.2.1, r65, w49_1, u.2.2.2.2.1, u.2.2.2.2.2.1, u.2.2.2.2.2.2.1, u.2.2.2.2.2.2.2.1, u.2.2.2.2.2.2.2.2.1, u.2.2.2.2.2.2.2.2.2.1, u.2.2.2.2.2.2.2.2.2.2)) := hD
    refine lv_aload_n hx hb dX7_record_68 rfl (lv_at hl 0 rfl) ?_
    refine lv_dup hx hb dX7_record_69 rfl ?_
    refine va_get (D := D) (ci := 8) (v := .int w49_1) (C := RX7) (T := TX7) (N := 11) hx hb hW inlX7 hown hK hP 0 rfl rfl 3 (by decide) (hW _ wd_197) (fun _ h9 => h9) rfl dX7_record_70 ?_
    refine lv_iconst (v := 1) hx hb dX7_record_73 (by decide) ?_
    refine lv_iadd hx hb dX7_record_74 ?_
    replace hf := zn_s hf
    obtain ⟨k75, ek75, hf⟩ := hf
    refine z_top ek75 ?_
    refine z_put (ws' := wX7 G ad b (u.1, u.2.1, r65, k75, u.2.2.2.2.1, u.2.2.2.2.2.1, u.2.2.2.2.2.2.1, u.2.2.2.2.2.2.2.1, u.2.2.2.2.2.2.2.2.1, u.2.2.2.2.2.2.2.2.2.1, u.2.2.2.2.2.2.2.2.2.2)) (ci := 8) (C := RX7) (T := TX7) (N := 11) hx hb hW inlX7 tyX7 tyX7_ok nmX7 hown hK hP hD hS 0 rfl rfl 3 (by decide) (hW _ wd_197) rfl rfl (Nat.le_of_ble_eq_true rfl) rfl dX7_record_75 (fun H locs hP hD hS => ?_)
    obtain rfl := zo hf
    exact hret _ _ _ _ hP hD hS dX7_record_78
  refine lv_icmp_ne (tgt := 49) hx hb dX7_record_6 (by decide) (fun c6 => ?_) (fun c6 => ?_)
  · replace hf := zi_n hf c6
    exact J49 u.2.2.1 u.2.2.2.1 hf _ _ hP hD hS _ (lv_sub hl [0] rfl)
  · replace hf := zi_p hf c6
    refine lv_iconst (v := 0) hx hb dX7_record_9 (by decide) ?_
    refine lv_istore_n (lv' := [(1, .int 0), (0, .ref (ad b))]) hx hb dX7_record_10 rfl hl (by decide) rfl (fun ls hl => ?_)
    have J39 : ∀ (w39_0 : Nat → Int32) (hf : q_X7_record_J39 u w39_0 = some res) (H : Heap) (locs : List Loc) (hP : va_P D vwCl (wX7 G ad b (u.1, u.2.1, w39_0, u.2.2.2.1, u.2.2.2.2.1, u.2.2.2.2.2.1, u.2.2.2.2.2.2.1, u.2.2.2.2.2.2.2.1, u.2.2.2.2.2.2.2.2.1, u.2.2.2.2.2.2.2.2.2.1, u.2.2.2.2.2.2.2.2.2.2)) H) (hD : va_D A (wX7 G ad b (u.1, u.2.1, w39_0, u.2.2.2.1, u.2.2.2.2.1, u.2.2.2.2.2.1, u.2.2.2.2.2.2.1, u.2.2.2.2.2.2.2.1, u.2.2.2.2.2.2.2.2.1, u.2.2.2.2.2.2.2.2.2.1, u.2.2.2.2.2.2.2.2.2.2))) (hS : va_S A s.heap H locs) (ls : Array Slot) (hl : lv_has ls 2 [(0, .ref (ad b))]), W p l e (zRm 1 24) s m args below meth c H locs 0 0 Q (F0 m 39 ls []) := by
      intro w39_0 hf H locs hP hD hS ls hl
      unfold q_X7_record_J39 at hf
      refine lv_aload_n hx hb dX7_record_39 rfl (lv_at hl 0 rfl) ?_
      refine lv_dup hx hb dX7_record_40 rfl ?_
      refine va_get (D := D) (ci := 8) (v := .int u.2.2.2.1) (C := RX7) (T := TX7) (N := 11) hx hb hW inlX7 hown hK hP 0 rfl rfl 3 (by decide) (hW _ wd_197) (fun _ h9 => h9) rfl dX7_record_41 ?_
      refine lv_iconst (v := 1) hx hb dX7_record_44 (by decide) ?_
      refine lv_isub hx hb dX7_record_45 ?_
      replace hf := zn_s hf
      obtain ⟨k46, ek46, hf⟩ := hf
      refine z_top ek46 ?_
      refine z_put (ws' := wX7 G ad b (u.1, u.2.1, w39_0, k46, u.2.2.2.2.1, u.2.2.2.2.2.1, u.2.2.2.2.2.2.1, u.2.2.2.2.2.2.2.1, u.2.2.2.2.2.2.2.2.1, u.2.2.2.2.2.2.2.2.2.1, u.2.2.2.2.2.2.2.2.2.2)) (ci := 8) (C := RX7) (T := TX7) (N := 11) hx hb hW inlX7 tyX7 tyX7_ok nmX7 hown hK hP hD hS 0 rfl rfl 3 (by decide) (hW _ wd_197) rfl rfl (Nat.le_of_ble_eq_true rfl) rfl dX7_record_46 (fun H locs hP hD hS => ?_)
      exact J49 w39_0 k46 hf _ _ hP hD hS _ (lv_sub hl [0] rfl)
    replace hf := zb_s hf
    obtain ⟨b11, hz11, hk11⟩ := hf
    have L11 : ∀ (n11 : Nat) (v11 : Int32 × (Nat → Int32)) (hz11 : zl n11 q_X7_record_L11 v11 = some b11) (H : Heap) (locs : List Loc) (hP : va_P D vwCl (wX7 G ad b (u.1, u.2.1, v11.2, u.2.2.2.1, u.2.2.2.2.1, u.2.2.2.2.2.1, u.2.2.2.2.2.2.1, u.2.2.2.2.2.2.2.1, u.2.2.2.2.2.2.2.2.1, u.2.2.2.2.2.2.2.2.2.1, u.2.2.2.2.2.2.2.2.2.2)) H) (hD : va_D A (wX7 G ad b (u.1, u.2.1, v11.2, u.2.2.2.1, u.2.2.2.2.1, u.2.2.2.2.2.1, u.2.2.2.2.2.2.1, u.2.2.2.2.2.2.2.1, u.2.2.2.2.2.2.2.2.1, u.2.2.2.2.2.2.2.2.2.1, u.2.2.2.2.2.2.2.2.2.2))) (hS : va_S A s.heap H locs) (ls : Array Slot) (hl : lv_has ls 2 [(0, .ref (ad b)), (1, .int v11.1)]), W p l e (zRm 1 24) s m args below meth c H locs 0 0 Q (F0 m 11 ls []) := by
      intro n11
      induction n11 with
      | zero => intro v11 hz11; exact (zl_0 hz11).elim
      | succ n11 ih11 =>
        intro v11 hz11 H locs hP hD hS ls hl
        obtain ⟨o11, hf, hz11⟩ := zl_s hz11
        unfold q_X7_record_L11 at hf
        refine lv_iload_n hx hb dX7_record_11 rfl (lv_at hl 1 rfl) ?_
        refine lv_sipush (v := 520) hx hb dX7_record_12 (by decide) ?_
        refine lv_icmp_ge (tgt := 39) hx hb dX7_record_15 (by decide) (fun c15 => ?_) (fun c15 => ?_)
        · replace hf := zi_p hf c15
          have hb11 := zk_r hf hz11
          subst hb11
          replace hf := hk11
          exact J39 v11.2 hf _ _ hP hD hS _ (lv_sub hl [0] rfl)
        · replace hf := zi_n hf c15
          refine lv_aload_n hx hb dX7_record_18 rfl (lv_at hl 0 rfl) ?_
          refine va_get (D := D) (ci := 8) (v := .ref (ad (b + 3))) (C := RX7) (T := TX7) (N := 11) hx hb hW inlX7 hown hK hP 0 rfl rfl 2 (by decide) (hW _ wd_129) (fun _ h9 => h9) rfl dX7_record_19 ?_
          refine lv_iload_n hx hb dX7_record_22 rfl (lv_at hl 1 rfl) ?_
          refine lv_aload_n hx hb dX7_record_23 rfl (lv_at hl 0 rfl) ?_
          refine va_get (D := D) (ci := 8) (v := .ref (ad (b + 3))) (C := RX7) (T := TX7) (N := 11) hx hb hW inlX7 hown hK hP 0 rfl rfl 2 (by decide) (hW _ wd_129) (fun _ h9 => h9) rfl dX7_record_24 ?_
          refine lv_iload_n hx hb dX7_record_27 rfl (lv_at hl 1 rfl) ?_
          refine lv_bipush (v := 104) hx hb dX7_record_28 (by decide) ?_
          refine lv_iadd hx hb dX7_record_30 ?_
          replace hf := zg_s hf
          obtain ⟨hi31, a31, ea31, hf⟩ := hf
          refine z_iald hx hb hK hP 3 0 rfl rfl hi31 ea31 dX7_record_31 ?_
          replace hf := zs_s hf
          obtain ⟨hi32, s32, es32, hf⟩ := hf
          refine z_iast (ws' := wX7 G ad b (u.1, u.2.1, s32, u.2.2.2.1, u.2.2.2.2.1, u.2.2.2.2.2.1, u.2.2.2.2.2.2.1, u.2.2.2.2.2.2.2.1, u.2.2.2.2.2.2.2.2.1, u.2.2.2.2.2.2.2.2.2.1, u.2.2.2.2.2.2.2.2.2.2)) hx hb hK hP hD hS 3 0 rfl rfl hi32 es32 rfl dX7_record_32 (fun H locs hP hD hS => ?_)
          refine lv_iinc (v := (v11.1 + 1)) (lv' := [(1, .int (v11.1 + 1)), (0, .ref (ad b))]) hx hb dX7_record_33 hl (k := 1) rfl rfl (by decide) rfl (fun ls hl => ?_)
          refine lv_goto (tgt := 11) hx hb dX7_record_36 (by decide) ?_
          exact ih11 _ (zk_l hf hz11) _ _ hP hD hS _ (lv_sub hl [1, 0] rfl)
    exact L11 _ _ hz11 _ _ hP hD hS _ (lv_sub hl [1, 0] rfl)
theorem kX7_112 : zLkV RX7 112 yX7_record cX7_record 2 none 0 := ⟨⟨wd_193, wd_194, wd_195, wd_5, wd_196⟩, by decide +kernel⟩
noncomputable def q_X7_sets (u : tX7) (p1 : Int32) (p2 : Int32) : Option (Int32 × (Nat → Int32) × (Nat → Int32) × Int32) :=
  zb (q_X7_record u) fun r1 => zg 104 u.1 p1 fun a9 => zs 104 u.1 p1 p2 fun s17 => some (a9, s17, r1.1, r1.2)
set_option maxRecDepth 100000 in
set_option maxHeartbeats 4000000 in
theorem c_X7_sets (l : Launch) (D : va_G) (G : zG) (ad : Nat → Nat) (b : Nat) (u : tX7) (p1 : Int32) (p2 : Int32) (res : Int32 × (Nat → Int32) × (Nat → Int32) × Int32) (hf : q_X7_sets u p1 p2 = some res) : zMi l yX7_sets cX7_sets 4 (some .int) 2 45 D G (wX7 G ad b u) (wX7 G ad b (res.2.1, u.2.1, res.2.2.1, res.2.2.2, u.2.2.2.2.1, u.2.2.2.2.2.1, u.2.2.2.2.2.2.1, u.2.2.2.2.2.2.2.1, u.2.2.2.2.2.2.2.2.1, u.2.2.2.2.2.2.2.2.2.1, u.2.2.2.2.2.2.2.2.2.2)) [.ref (ad b), .int p1, .int p2] res.1 := by
  refine zs_i (plainFor_of_name (by decide)) (Nat.le_of_ble_eq_true rfl) ?_
  intro p e s m args below meth c A Q H ls C0 hret hP hD hS hl
  obtain ⟨hx, hb, hml, hown, hW, hK, hlocks, hF, hr, hA⟩ := id C0
  replace hl : lv_has ls 4 [(0, .ref (ad b)), (1, .int p1), (2, .int p2)] := hl
  unfold q_X7_sets at hf
  refine lv_aload_n hx hb dX7_sets_0 rfl (lv_at hl 0 rfl) ?_
  replace hf := zb_s hf
  obtain ⟨r1, hr1, hf⟩ := hf
  refine z_Vv (rest := []) C0 kX7_112 (c_X7_record l D G ad (b) u r1 hr1) z_pall z_pall.symm (ci := 8) (T := TX7) (N := 11) rfl rfl rfl ⟨Nat.le_of_ble_eq_true rfl, Nat.le_of_ble_eq_true rfl⟩ (Nat.le_of_ble_eq_true rfl) rfl hl.1 hP hD hS dX7_sets_1 (fun H locs hP hD hS => ?_)
  replace hP : va_P D vwCl (wX7 G ad b (u.1, u.2.1, r1.1, r1.2, u.2.2.2.2.1, u.2.2.2.2.2.1, u.2.2.2.2.2.2.1, u.2.2.2.2.2.2.2.1, u.2.2.2.2.2.2.2.2.1, u.2.2.2.2.2.2.2.2.2.1, u.2.2.2.2.2.2.2.2.2.2)) H := hP
  replace hD : va_D A (wX7 G ad b (u.1, u.2.1, r1.1, r1.2, u.2.2.2.2.1, u.2.2.2.2.2.1, u.2.2.2.2.2.2.1, u.2.2.2.2.2.2.2.1, u.2.2.2.2.2.2.2.2.1, u.2.2.2.2.2.2.2.2.2.1, u.2.2.2.2.2.2.2.2.2.2)) := hD
  refine lv_aload_n hx hb dX7_sets_4 rfl (lv_at hl 0 rfl) ?_
  refine va_get (D := D) (ci := 8) (v := .ref (ad (b + 1))) (C := RX7) (T := TX7) (N := 11) hx hb hW inlX7 hown hK hP 0 rfl rfl 0 (by decide) (hW _ wd_127) (fun _ h9 => h9) rfl dX7_sets_5 ?_
  refine lv_iload_n hx hb dX7_sets_8 rfl (lv_at hl 1 rfl) ?_
  replace hf := zg_s hf
  obtain ⟨hi9, a9, ea9, hf⟩ := hf
  refine z_iald hx hb hK hP 1 0 rfl rfl hi9 ea9 dX7_sets_9 ?_
  refine lv_istore_n (lv' := [(3, .int a9), (0, .ref (ad b)), (1, .int p1), (2, .int p2)]) hx hb dX7_sets_10 rfl hl (by decide) rfl (fun ls hl => ?_)
  refine lv_aload_n hx hb dX7_sets_11 rfl (lv_at hl 1 rfl) ?_
  refine va_get (D := D) (ci := 8) (v := .ref (ad (b + 1))) (C := RX7) (T := TX7) (N := 11) hx hb hW inlX7 hown hK hP 0 rfl rfl 0 (by decide) (hW _ wd_127) (fun _ h9 => h9) rfl dX7_sets_12 ?_
  refine lv_iload_n hx hb dX7_sets_15 rfl (lv_at hl 2 rfl) ?_
  refine lv_iload_n hx hb dX7_sets_16 rfl (lv_at hl 3 rfl) ?_
  replace hf := zs_s hf
  obtain ⟨hi17, s17, es17, hf⟩ := hf
  refine z_iast (ws' := wX7 G ad b (s17, u.2.1, r1.1, r1.2, u.2.2.2.2.1, u.2.2.2.2.2.1, u.2.2.2.2.2.2.1, u.2.2.2.2.2.2.2.1, u.2.2.2.2.2.2.2.2.1, u.2.2.2.2.2.2.2.2.2.1, u.2.2.2.2.2.2.2.2.2.2)) hx hb hK hP hD hS 1 0 rfl rfl hi17 es17 rfl dX7_sets_17 (fun H locs hP hD hS => ?_)
  refine lv_iload_n hx hb dX7_sets_18 rfl (lv_at hl 0 rfl) ?_
  obtain rfl := zo hf
  exact hret _ _ _ _ _ hP hD hS rfl dX7_sets_19
theorem kX7_115 : zLkS RX7 115 yX7_isSetting cX7_isSetting 1 (some .boolean) 1 := ⟨⟨wd_180, wd_181, wd_5, wd_182⟩, by decide +kernel⟩
theorem kX7_118 : zLkS RX7 118 yX7_fits cX7_fits 2 (some .boolean) 2 := ⟨⟨wd_186, wd_187, wd_5, wd_188⟩, by decide +kernel⟩
theorem kX7_122 : zLkV RX7 122 yX7_sets cX7_sets 4 (some .int) 2 := ⟨⟨wd_189, wd_190, wd_191, wd_5, wd_192⟩, by decide +kernel⟩
noncomputable def q_X7_set (u : tX7) (p1 : Int32) (p2 : Int32) : Option (Int32 × (Nat → Int32) × (Nat → Int32) × Int32) :=
  zb (q_X7_isSetting p1) fun r1 => (if r1 = 0 then some ((-1), u.1, u.2.2.1, u.2.2.2.1) else zb (q_X7_fits p1 p2) fun r11 => (if r11 = 0 then some ((-2), u.1, u.2.2.1, u.2.2.2.1) else zb (q_X7_sets u (15 + p1) p2) fun r23 => some (r23.1, r23.2.1, r23.2.2.1, r23.2.2.2)))
set_option maxRecDepth 100000 in
set_option maxHeartbeats 4000000 in
theorem c_X7_set (l : Launch) (D : va_G) (G : zG) (ad : Nat → Nat) (b : Nat) (u : tX7) (p1 : Int32) (p2 : Int32) (res : Int32 × (Nat → Int32) × (Nat → Int32) × Int32) (hf : q_X7_set u p1 p2 = some res) : zMi l yX7_set cX7_set 3 (some .int) 3 68 D G (wX7 G ad b u) (wX7 G ad b (res.2.1, u.2.1, res.2.2.1, res.2.2.2, u.2.2.2.2.1, u.2.2.2.2.2.1, u.2.2.2.2.2.2.1, u.2.2.2.2.2.2.2.1, u.2.2.2.2.2.2.2.2.1, u.2.2.2.2.2.2.2.2.2.1, u.2.2.2.2.2.2.2.2.2.2)) [.ref (ad b), .int p1, .int p2] res.1 := by
  refine zs_i (plainFor_of_name (by decide)) (Nat.le_of_ble_eq_true rfl) ?_
  intro p e s m args below meth c A Q H ls C0 hret hP hD hS hl
  obtain ⟨hx, hb, hml, hown, hW, hK, hlocks, hF, hr, hA⟩ := id C0
  replace hl : lv_has ls 3 [(0, .ref (ad b)), (1, .int p1), (2, .int p2)] := hl
  unfold q_X7_set at hf
  refine lv_iload_n hx hb dX7_set_0 rfl (lv_at hl 1 rfl) ?_
  replace hf := zb_s hf
  obtain ⟨r1, hr1, hf⟩ := hf
  refine z_Si (rest := []) C0 kX7_115 (c_X7_isSetting l D G p1 r1 hr1) (List.Perm.refl _) (List.Perm.refl _) rfl ⟨Nat.le_of_ble_eq_true rfl, Nat.le_of_ble_eq_true rfl⟩ (Nat.le_of_ble_eq_true rfl) rfl hl.1 hP hD hS dX7_set_1 (fun H locs hP hD hS => ?_)
  refine lv_if_ne (tgt := 9) hx hb dX7_set_4 (by decide) (fun c4 => ?_) (fun c4 => ?_)
  · replace hf := zi_n hf c4
    refine lv_iload_n hx hb dX7_set_9 rfl (lv_at hl 1 rfl) ?_
    refine lv_iload_n hx hb dX7_set_10 rfl (lv_at hl 2 rfl) ?_
    replace hf := zb_s hf
    obtain ⟨r11, hr11, hf⟩ := hf
    refine z_Si (rest := []) C0 kX7_118 (c_X7_fits l D G p1 p2 r11 hr11) (List.Perm.refl _) (List.Perm.refl _) rfl ⟨Nat.le_of_ble_eq_true rfl, Nat.le_of_ble_eq_true rfl⟩ (Nat.le_of_ble_eq_true rfl) rfl hl.1 hP hD hS dX7_set_11 (fun H locs hP hD hS => ?_)
    refine lv_if_eq (tgt := 29) hx hb dX7_set_14 (by decide) (fun c14 => ?_) (fun c14 => ?_)
    · replace hf := zi_p hf c14
      refine lv_bipush (v := (-2)) hx hb dX7_set_29 (by decide) ?_
      obtain rfl := zo hf
      exact hret _ _ _ _ _ hP hD hS rfl dX7_set_31
    · replace hf := zi_n hf c14
      refine lv_aload_n hx hb dX7_set_17 rfl (lv_at hl 0 rfl) ?_
      refine lv_bipush (v := 15) hx hb dX7_set_18 (by decide) ?_
      refine lv_iload_n hx hb dX7_set_20 rfl (lv_at hl 1 rfl) ?_
      refine lv_iadd hx hb dX7_set_21 ?_
      refine lv_iload_n hx hb dX7_set_22 rfl (lv_at hl 2 rfl) ?_
      replace hf := zb_s hf
      obtain ⟨r23, hr23, hf⟩ := hf
      refine z_Vi (rest := []) C0 kX7_122 (c_X7_sets l D G ad (b) u (15 + p1) p2 r23 hr23) z_pall z_pall.symm (ci := 8) (T := TX7) (N := 11) rfl rfl rfl ⟨Nat.le_of_ble_eq_true rfl, Nat.le_of_ble_eq_true rfl⟩ (Nat.le_of_ble_eq_true rfl) rfl hl.1 hP hD hS dX7_set_23 (fun H locs hP hD hS => ?_)
      replace hP : va_P D vwCl (wX7 G ad b (r23.2.1, u.2.1, r23.2.2.1, r23.2.2.2, u.2.2.2.2.1, u.2.2.2.2.2.1, u.2.2.2.2.2.2.1, u.2.2.2.2.2.2.2.1, u.2.2.2.2.2.2.2.2.1, u.2.2.2.2.2.2.2.2.2.1, u.2.2.2.2.2.2.2.2.2.2)) H := hP
      replace hD : va_D A (wX7 G ad b (r23.2.1, u.2.1, r23.2.2.1, r23.2.2.2, u.2.2.2.2.1, u.2.2.2.2.2.1, u.2.2.2.2.2.2.1, u.2.2.2.2.2.2.2.1, u.2.2.2.2.2.2.2.2.1, u.2.2.2.2.2.2.2.2.2.1, u.2.2.2.2.2.2.2.2.2.2)) := hD
      refine lv_goto (tgt := 31) hx hb dX7_set_26 (by decide) ?_
      obtain rfl := zo hf
      exact hret _ _ _ _ _ hP hD hS rfl dX7_set_31
  · replace hf := zi_p hf c4
    refine lv_iconst (v := (-1)) hx hb dX7_set_7 (by decide) ?_
    obtain rfl := zo hf
    exact hret _ _ _ _ _ hP hD hS rfl dX7_set_8
noncomputable def q_X7_setWay (u : tX7) (p1 : Int32) : Option (Int32 × (Nat → Int32) × (Nat → Int32) × Int32) :=
  zb (q_X7_within p1 0 2) fun r3 => (if r3 = 0 then some ((-2), u.1, u.2.2.1, u.2.2.2.1) else zb (q_X7_sets u 4 p1) fun r12 => some (r12.1, r12.2.1, r12.2.2.1, r12.2.2.2))
set_option maxRecDepth 100000 in
set_option maxHeartbeats 4000000 in
theorem c_X7_setWay (l : Launch) (D : va_G) (G : zG) (ad : Nat → Nat) (b : Nat) (u : tX7) (p1 : Int32) (res : Int32 × (Nat → Int32) × (Nat → Int32) × Int32) (hf : q_X7_setWay u p1 = some res) : zMi l yX7_setWay cX7_setWay 2 (some .int) 3 68 D G (wX7 G ad b u) (wX7 G ad b (res.2.1, u.2.1, res.2.2.1, res.2.2.2, u.2.2.2.2.1, u.2.2.2.2.2.1, u.2.2.2.2.2.2.1, u.2.2.2.2.2.2.2.1, u.2.2.2.2.2.2.2.2.1, u.2.2.2.2.2.2.2.2.2.1, u.2.2.2.2.2.2.2.2.2.2)) [.ref (ad b), .int p1] res.1 := by
  refine zs_i (plainFor_of_name (by decide)) (Nat.le_of_ble_eq_true rfl) ?_
  intro p e s m args below meth c A Q H ls C0 hret hP hD hS hl
  obtain ⟨hx, hb, hml, hown, hW, hK, hlocks, hF, hr, hA⟩ := id C0
  replace hl : lv_has ls 2 [(0, .ref (ad b)), (1, .int p1)] := hl
  unfold q_X7_setWay at hf
  refine lv_iload_n hx hb dX7_setWay_0 rfl (lv_at hl 1 rfl) ?_
  refine lv_iconst (v := 0) hx hb dX7_setWay_1 (by decide) ?_
  refine lv_iconst (v := 2) hx hb dX7_setWay_2 (by decide) ?_
  replace hf := zb_s hf
  obtain ⟨r3, hr3, hf⟩ := hf
  refine z_Si (rest := []) C0 kX7_30 (c_X7_within l D G p1 0 2 r3 hr3) (List.Perm.refl _) (List.Perm.refl _) rfl ⟨Nat.le_of_ble_eq_true rfl, Nat.le_of_ble_eq_true rfl⟩ (Nat.le_of_ble_eq_true rfl) rfl hl.1 hP hD hS dX7_setWay_3 (fun H locs hP hD hS => ?_)
  refine lv_if_eq (tgt := 18) hx hb dX7_setWay_6 (by decide) (fun c6 => ?_) (fun c6 => ?_)
  · replace hf := zi_p hf c6
    refine lv_bipush (v := (-2)) hx hb dX7_setWay_18 (by decide) ?_
    obtain rfl := zo hf
    exact hret _ _ _ _ _ hP hD hS rfl dX7_setWay_20
  · replace hf := zi_n hf c6
    refine lv_aload_n hx hb dX7_setWay_9 rfl (lv_at hl 0 rfl) ?_
    refine lv_iconst (v := 4) hx hb dX7_setWay_10 (by decide) ?_
    refine lv_iload_n hx hb dX7_setWay_11 rfl (lv_at hl 1 rfl) ?_
    replace hf := zb_s hf
    obtain ⟨r12, hr12, hf⟩ := hf
    refine z_Vi (rest := []) C0 kX7_122 (c_X7_sets l D G ad (b) u 4 p1 r12 hr12) z_pall z_pall.symm (ci := 8) (T := TX7) (N := 11) rfl rfl rfl ⟨Nat.le_of_ble_eq_true rfl, Nat.le_of_ble_eq_true rfl⟩ (Nat.le_of_ble_eq_true rfl) rfl hl.1 hP hD hS dX7_setWay_12 (fun H locs hP hD hS => ?_)
    replace hP : va_P D vwCl (wX7 G ad b (r12.2.1, u.2.1, r12.2.2.1, r12.2.2.2, u.2.2.2.2.1, u.2.2.2.2.2.1, u.2.2.2.2.2.2.1, u.2.2.2.2.2.2.2.1, u.2.2.2.2.2.2.2.2.1, u.2.2.2.2.2.2.2.2.2.1, u.2.2.2.2.2.2.2.2.2.2)) H := hP
    replace hD : va_D A (wX7 G ad b (r12.2.1, u.2.1, r12.2.2.1, r12.2.2.2, u.2.2.2.2.1, u.2.2.2.2.2.1, u.2.2.2.2.2.2.1, u.2.2.2.2.2.2.2.1, u.2.2.2.2.2.2.2.2.1, u.2.2.2.2.2.2.2.2.2.1, u.2.2.2.2.2.2.2.2.2.2)) := hD
    refine lv_goto (tgt := 20) hx hb dX7_setWay_15 (by decide) ?_
    obtain rfl := zo hf
    exact hret _ _ _ _ _ hP hD hS rfl dX7_setWay_20
noncomputable def q_X7_addSpares (u : tX7) (p1 : Int32) : Option (Int32 × (Nat → Int32) × (Nat → Int32) × Int32) :=
  zb (q_X7_within p1 1 9) fun r4 => (if r4 = 0 then some ((-2), u.1, u.2.2.1, u.2.2.2.1) else (if ((u.1 3) + p1) ≤ 50 then zb (q_X7_record u) fun r30 => zn (upd u.1 3 ((u.1 3) + p1)) fun s42 => some ((s42 3), s42, r30.1, r30.2) else some ((-4), u.1, u.2.2.1, u.2.2.2.1)))
set_option maxRecDepth 100000 in
set_option maxHeartbeats 4000000 in
theorem c_X7_addSpares (l : Launch) (D : va_G) (G : zG) (ad : Nat → Nat) (b : Nat) (u : tX7) (p1 : Int32) (res : Int32 × (Nat → Int32) × (Nat → Int32) × Int32) (hf : q_X7_addSpares u p1 = some res) : zMi l yX7_addSpares cX7_addSpares 2 (some .int) 2 45 D G (wX7 G ad b u) (wX7 G ad b (res.2.1, u.2.1, res.2.2.1, res.2.2.2, u.2.2.2.2.1, u.2.2.2.2.2.1, u.2.2.2.2.2.2.1, u.2.2.2.2.2.2.2.1, u.2.2.2.2.2.2.2.2.1, u.2.2.2.2.2.2.2.2.2.1, u.2.2.2.2.2.2.2.2.2.2)) [.ref (ad b), .int p1] res.1 := by
  refine zs_i (plainFor_of_name (by decide)) (Nat.le_of_ble_eq_true rfl) ?_
  intro p e s m args below meth c A Q H ls C0 hret hP hD hS hl
  obtain ⟨hx, hb, hml, hown, hW, hK, hlocks, hF, hr, hA⟩ := id C0
  replace hl : lv_has ls 2 [(0, .ref (ad b)), (1, .int p1)] := hl
  unfold q_X7_addSpares at hf
  refine lv_iload_n hx hb dX7_addSpares_0 rfl (lv_at hl 1 rfl) ?_
  refine lv_iconst (v := 1) hx hb dX7_addSpares_1 (by decide) ?_
  refine lv_bipush (v := 9) hx hb dX7_addSpares_2 (by decide) ?_
  replace hf := zb_s hf
  obtain ⟨r4, hr4, hf⟩ := hf
  refine z_Si (rest := []) C0 kX7_30 (c_X7_within l D G p1 1 9 r4 hr4) (List.Perm.refl _) (List.Perm.refl _) rfl ⟨Nat.le_of_ble_eq_true rfl, Nat.le_of_ble_eq_true rfl⟩ (Nat.le_of_ble_eq_true rfl) rfl hl.1 hP hD hS dX7_addSpares_4 (fun H locs hP hD hS => ?_)
  refine lv_if_ne (tgt := 13) hx hb dX7_addSpares_7 (by decide) (fun c7 => ?_) (fun c7 => ?_)
  · replace hf := zi_n hf c7
    refine lv_aload_n hx hb dX7_addSpares_13 rfl (lv_at hl 0 rfl) ?_
    refine va_get (D := D) (ci := 8) (v := .ref (ad (b + 1))) (C := RX7) (T := TX7) (N := 11) hx hb hW inlX7 hown hK hP 0 rfl rfl 0 (by decide) (hW _ wd_127) (fun _ h9 => h9) rfl dX7_addSpares_14 ?_
    refine lv_iconst (v := 3) hx hb dX7_addSpares_17 (by decide) ?_
    refine z_iald (v := (u.1 3)) hx hb hK hP 1 0 rfl rfl (z_in rfl) rfl dX7_addSpares_18 ?_
    refine lv_iload_n hx hb dX7_addSpares_19 rfl (lv_at hl 1 rfl) ?_
    refine lv_iadd hx hb dX7_addSpares_20 ?_
    refine lv_bipush (v := 50) hx hb dX7_addSpares_21 (by decide) ?_
    refine lv_icmp_le (tgt := 29) hx hb dX7_addSpares_23 (by decide) (fun c23 => ?_) (fun c23 => ?_)
    · replace hf := zi_p hf c23
      refine lv_aload_n hx hb dX7_addSpares_29 rfl (lv_at hl 0 rfl) ?_
      replace hf := zb_s hf
      obtain ⟨r30, hr30, hf⟩ := hf
      refine z_Vv (rest := []) C0 kX7_112 (c_X7_record l D G ad (b) u r30 hr30) z_pall z_pall.symm (ci := 8) (T := TX7) (N := 11) rfl rfl rfl ⟨Nat.le_of_ble_eq_true rfl, Nat.le_of_ble_eq_true rfl⟩ (Nat.le_of_ble_eq_true rfl) rfl hl.1 hP hD hS dX7_addSpares_30 (fun H locs hP hD hS => ?_)
      replace hP : va_P D vwCl (wX7 G ad b (u.1, u.2.1, r30.1, r30.2, u.2.2.2.2.1, u.2.2.2.2.2.1, u.2.2.2.2.2.2.1, u.2.2.2.2.2.2.2.1, u.2.2.2.2.2.2.2.2.1, u.2.2.2.2.2.2.2.2.2.1, u.2.2.2.2.2.2.2.2.2.2)) H := hP
      replace hD : va_D A (wX7 G ad b (u.1, u.2.1, r30.1, r30.2, u.2.2.2.2.1, u.2.2.2.2.2.1, u.2.2.2.2.2.2.1, u.2.2.2.2.2.2.2.1, u.2.2.2.2.2.2.2.2.1, u.2.2.2.2.2.2.2.2.2.1, u.2.2.2.2.2.2.2.2.2.2)) := hD
      refine lv_aload_n hx hb dX7_addSpares_33 rfl (lv_at hl 0 rfl) ?_
      refine va_get (D := D) (ci := 8) (v := .ref (ad (b + 1))) (C := RX7) (T := TX7) (N := 11) hx hb hW inlX7 hown hK hP 0 rfl rfl 0 (by decide) (hW _ wd_127) (fun _ h9 => h9) rfl dX7_addSpares_34 ?_
      refine lv_iconst (v := 3) hx hb dX7_addSpares_37 (by decide) ?_
      refine lv_dup2_11 hx hb dX7_addSpares_38 rfl rfl ?_
      refine z_iald (v := (u.1 3)) hx hb hK hP 1 0 rfl rfl (z_in rfl) rfl dX7_addSpares_39 ?_
      refine lv_iload_n hx hb dX7_addSpares_40 rfl (lv_at hl 1 rfl) ?_
      refine lv_iadd hx hb dX7_addSpares_41 ?_
      replace hf := zn_s hf
      obtain ⟨s42, es42, hf⟩ := hf
      refine z_iast (ws' := wX7 G ad b (s42, u.2.1, r30.1, r30.2, u.2.2.2.2.1, u.2.2.2.2.2.1, u.2.2.2.2.2.2.1, u.2.2.2.2.2.2.2.1, u.2.2.2.2.2.2.2.2.1, u.2.2.2.2.2.2.2.2.2.1, u.2.2.2.2.2.2.2.2.2.2)) hx hb hK hP hD hS 1 0 rfl rfl (z_in rfl) es42 rfl dX7_addSpares_42 (fun H locs hP hD hS => ?_)
      refine lv_aload_n hx hb dX7_addSpares_43 rfl (lv_at hl 0 rfl) ?_
      refine va_get (D := D) (ci := 8) (v := .ref (ad (b + 1))) (C := RX7) (T := TX7) (N := 11) hx hb hW inlX7 hown hK hP 0 rfl rfl 0 (by decide) (hW _ wd_127) (fun _ h9 => h9) rfl dX7_addSpares_44 ?_
      refine lv_iconst (v := 3) hx hb dX7_addSpares_47 (by decide) ?_
      refine z_iald (v := (s42 3)) hx hb hK hP 1 0 rfl rfl (z_in rfl) rfl dX7_addSpares_48 ?_
      obtain rfl := zo hf
      exact hret _ _ _ _ _ hP hD hS rfl dX7_addSpares_49
    · replace hf := zi_n hf c23
      refine lv_bipush (v := (-4)) hx hb dX7_addSpares_26 (by decide) ?_
      obtain rfl := zo hf
      exact hret _ _ _ _ _ hP hD hS rfl dX7_addSpares_28
  · replace hf := zi_p hf c7
    refine lv_bipush (v := (-2)) hx hb dX7_addSpares_10 (by decide) ?_
    obtain rfl := zo hf
    exact hret _ _ _ _ _ hP hD hS rfl dX7_addSpares_12
noncomputable def q_X7_spot (u : tX7) (p1 : Int32) (p2 : Int32) : Option (Int32 × (Nat → Int32) × (Nat → Int32) × Int32) :=
  zb (q_X7_whyNotSpot u p1 p2) fun r3 => (if 0 ≤ r3 then zb (q_X7_record u) fun r14 => zb (q_X7_adds (u.1, u.2.1, r14.1, r14.2, u.2.2.2.2.1, u.2.2.2.2.2.1, u.2.2.2.2.2.2.1, u.2.2.2.2.2.2.2.1, u.2.2.2.2.2.2.2.2.1, u.2.2.2.2.2.2.2.2.2.1, u.2.2.2.2.2.2.2.2.2.2) p1 p2) fun r20 => some (r20.1, r20.2, r14.1, r14.2) else some (r3, u.1, u.2.2.1, u.2.2.2.1))
set_option maxRecDepth 100000 in
set_option maxHeartbeats 4000000 in
theorem c_X7_spot (l : Launch) (D : va_G) (G : zG) (ad : Nat → Nat) (b : Nat) (u : tX7) (p1 : Int32) (p2 : Int32) (res : Int32 × (Nat → Int32) × (Nat → Int32) × Int32) (hf : q_X7_spot u p1 p2 = some res) : zMi l yX7_spot cX7_spot 4 (some .int) 3 66 D G (wX7 G ad b u) (wX7 G ad b (res.2.1, u.2.1, res.2.2.1, res.2.2.2, u.2.2.2.2.1, u.2.2.2.2.2.1, u.2.2.2.2.2.2.1, u.2.2.2.2.2.2.2.1, u.2.2.2.2.2.2.2.2.1, u.2.2.2.2.2.2.2.2.2.1, u.2.2.2.2.2.2.2.2.2.2)) [.ref (ad b), .int p1, .int p2] res.1 := by
  refine zs_i (plainFor_of_name (by decide)) (Nat.le_of_ble_eq_true rfl) ?_
  intro p e s m args below meth c A Q H ls C0 hret hP hD hS hl
  obtain ⟨hx, hb, hml, hown, hW, hK, hlocks, hF, hr, hA⟩ := id C0
  replace hl : lv_has ls 4 [(0, .ref (ad b)), (1, .int p1), (2, .int p2)] := hl
  unfold q_X7_spot at hf
  refine lv_aload_n hx hb dX7_spot_0 rfl (lv_at hl 0 rfl) ?_
  refine lv_iload_n hx hb dX7_spot_1 rfl (lv_at hl 1 rfl) ?_
  refine lv_iload_n hx hb dX7_spot_2 rfl (lv_at hl 2 rfl) ?_
  replace hf := zb_s hf
  obtain ⟨r3, hr3, hf⟩ := hf
  refine z_Vi (rest := []) C0 kX7_131 (c_X7_whyNotSpot l D G ad (b) u p1 p2 r3 hr3) z_pall z_pall.symm (ci := 8) (T := TX7) (N := 11) rfl rfl rfl ⟨Nat.le_of_ble_eq_true rfl, Nat.le_of_ble_eq_true rfl⟩ (Nat.le_of_ble_eq_true rfl) rfl hl.1 hP hD hS dX7_spot_3 (fun H locs hP hD hS => ?_)
  refine lv_istore_n (lv' := [(3, .int r3), (0, .ref (ad b)), (1, .int p1), (2, .int p2)]) hx hb dX7_spot_6 rfl hl (by decide) rfl (fun ls hl => ?_)
  refine lv_iload_n hx hb dX7_spot_7 rfl (lv_at hl 0 rfl) ?_
  refine lv_if_ge (tgt := 13) hx hb dX7_spot_8 (by decide) (fun c8 => ?_) (fun c8 => ?_)
  · replace hf := zi_p hf c8
    refine lv_aload_n hx hb dX7_spot_13 rfl (lv_at hl 1 rfl) ?_
    replace hf := zb_s hf
    obtain ⟨r14, hr14, hf⟩ := hf
    refine z_Vv (rest := []) C0 kX7_112 (c_X7_record l D G ad (b) u r14 hr14) z_pall z_pall.symm (ci := 8) (T := TX7) (N := 11) rfl rfl rfl ⟨Nat.le_of_ble_eq_true rfl, Nat.le_of_ble_eq_true rfl⟩ (Nat.le_of_ble_eq_true rfl) rfl hl.1 hP hD hS dX7_spot_14 (fun H locs hP hD hS => ?_)
    replace hP : va_P D vwCl (wX7 G ad b (u.1, u.2.1, r14.1, r14.2, u.2.2.2.2.1, u.2.2.2.2.2.1, u.2.2.2.2.2.2.1, u.2.2.2.2.2.2.2.1, u.2.2.2.2.2.2.2.2.1, u.2.2.2.2.2.2.2.2.2.1, u.2.2.2.2.2.2.2.2.2.2)) H := hP
    replace hD : va_D A (wX7 G ad b (u.1, u.2.1, r14.1, r14.2, u.2.2.2.2.1, u.2.2.2.2.2.1, u.2.2.2.2.2.2.1, u.2.2.2.2.2.2.2.1, u.2.2.2.2.2.2.2.2.1, u.2.2.2.2.2.2.2.2.2.1, u.2.2.2.2.2.2.2.2.2.2)) := hD
    refine lv_aload_n hx hb dX7_spot_17 rfl (lv_at hl 1 rfl) ?_
    refine lv_iload_n hx hb dX7_spot_18 rfl (lv_at hl 2 rfl) ?_
    refine lv_iload_n hx hb dX7_spot_19 rfl (lv_at hl 3 rfl) ?_
    replace hf := zb_s hf
    obtain ⟨r20, hr20, hf⟩ := hf
    refine z_Vi (rest := []) C0 kX7_134 (c_X7_adds l D G ad (b) (u.1, u.2.1, r14.1, r14.2, u.2.2.2.2.1, u.2.2.2.2.2.1, u.2.2.2.2.2.2.1, u.2.2.2.2.2.2.2.1, u.2.2.2.2.2.2.2.2.1, u.2.2.2.2.2.2.2.2.2.1, u.2.2.2.2.2.2.2.2.2.2) p1 p2 r20 hr20) z_pall z_pall.symm (ci := 8) (T := TX7) (N := 11) rfl rfl rfl ⟨Nat.le_of_ble_eq_true rfl, Nat.le_of_ble_eq_true rfl⟩ (Nat.le_of_ble_eq_true rfl) rfl hl.1 hP hD hS dX7_spot_20 (fun H locs hP hD hS => ?_)
    replace hP : va_P D vwCl (wX7 G ad b (r20.2, u.2.1, r14.1, r14.2, u.2.2.2.2.1, u.2.2.2.2.2.1, u.2.2.2.2.2.2.1, u.2.2.2.2.2.2.2.1, u.2.2.2.2.2.2.2.2.1, u.2.2.2.2.2.2.2.2.2.1, u.2.2.2.2.2.2.2.2.2.2)) H := hP
    replace hD : va_D A (wX7 G ad b (r20.2, u.2.1, r14.1, r14.2, u.2.2.2.2.1, u.2.2.2.2.2.1, u.2.2.2.2.2.2.1, u.2.2.2.2.2.2.2.1, u.2.2.2.2.2.2.2.2.1, u.2.2.2.2.2.2.2.2.2.1, u.2.2.2.2.2.2.2.2.2.2)) := hD
    obtain rfl := zo hf
    exact hret _ _ _ _ _ hP hD hS rfl dX7_spot_23
  · replace hf := zi_n hf c8
    refine lv_iload_n hx hb dX7_spot_11 rfl (lv_at hl 0 rfl) ?_
    obtain rfl := zo hf
    exact hret _ _ _ _ _ hP hD hS rfl dX7_spot_12
noncomputable def q_X7_ask (u : tX7) (p1 : Int32) : Option (Int32 × (Nat → Int32) × (Nat → Int32) × Int32) :=
  zb (q_X7_whyNotAsked u p1) fun r2 => (if 0 ≤ r2 then zb (q_X7_record u) fun r13 => zb (q_X7_asks (u.1, u.2.1, r13.1, r13.2, u.2.2.2.2.1, u.2.2.2.2.2.1, u.2.2.2.2.2.2.1, u.2.2.2.2.2.2.2.1, u.2.2.2.2.2.2.2.2.1, u.2.2.2.2.2.2.2.2.2.1, u.2.2.2.2.2.2.2.2.2.2) p1) fun r18 => some (r18.1, r18.2, r13.1, r13.2) else some (r2, u.1, u.2.2.1, u.2.2.2.1))
set_option maxRecDepth 100000 in
set_option maxHeartbeats 4000000 in
theorem c_X7_ask (l : Launch) (D : va_G) (G : zG) (ad : Nat → Nat) (b : Nat) (u : tX7) (p1 : Int32) (res : Int32 × (Nat → Int32) × (Nat → Int32) × Int32) (hf : q_X7_ask u p1 = some res) : zMi l yX7_ask cX7_ask 3 (some .int) 3 63 D G (wX7 G ad b u) (wX7 G ad b (res.2.1, u.2.1, res.2.2.1, res.2.2.2, u.2.2.2.2.1, u.2.2.2.2.2.1, u.2.2.2.2.2.2.1, u.2.2.2.2.2.2.2.1, u.2.2.2.2.2.2.2.2.1, u.2.2.2.2.2.2.2.2.2.1, u.2.2.2.2.2.2.2.2.2.2)) [.ref (ad b), .int p1] res.1 := by
  refine zs_i (plainFor_of_name (by decide)) (Nat.le_of_ble_eq_true rfl) ?_
  intro p e s m args below meth c A Q H ls C0 hret hP hD hS hl
  obtain ⟨hx, hb, hml, hown, hW, hK, hlocks, hF, hr, hA⟩ := id C0
  replace hl : lv_has ls 3 [(0, .ref (ad b)), (1, .int p1)] := hl
  unfold q_X7_ask at hf
  refine lv_aload_n hx hb dX7_ask_0 rfl (lv_at hl 0 rfl) ?_
  refine lv_iload_n hx hb dX7_ask_1 rfl (lv_at hl 1 rfl) ?_
  replace hf := zb_s hf
  obtain ⟨r2, hr2, hf⟩ := hf
  refine z_Vi (rest := []) C0 kX7_140 (c_X7_whyNotAsked l D G ad (b) u p1 r2 hr2) z_pall z_pall.symm (ci := 8) (T := TX7) (N := 11) rfl rfl rfl ⟨Nat.le_of_ble_eq_true rfl, Nat.le_of_ble_eq_true rfl⟩ (Nat.le_of_ble_eq_true rfl) rfl hl.1 hP hD hS dX7_ask_2 (fun H locs hP hD hS => ?_)
  refine lv_istore_n (lv' := [(2, .int r2), (0, .ref (ad b)), (1, .int p1)]) hx hb dX7_ask_5 rfl hl (by decide) rfl (fun ls hl => ?_)
  refine lv_iload_n hx hb dX7_ask_6 rfl (lv_at hl 0 rfl) ?_
  refine lv_if_ge (tgt := 12) hx hb dX7_ask_7 (by decide) (fun c7 => ?_) (fun c7 => ?_)
  · replace hf := zi_p hf c7
    refine lv_aload_n hx hb dX7_ask_12 rfl (lv_at hl 1 rfl) ?_
    replace hf := zb_s hf
    obtain ⟨r13, hr13, hf⟩ := hf
    refine z_Vv (rest := []) C0 kX7_112 (c_X7_record l D G ad (b) u r13 hr13) z_pall z_pall.symm (ci := 8) (T := TX7) (N := 11) rfl rfl rfl ⟨Nat.le_of_ble_eq_true rfl, Nat.le_of_ble_eq_true rfl⟩ (Nat.le_of_ble_eq_true rfl) rfl hl.1 hP hD hS dX7_ask_13 (fun H locs hP hD hS => ?_)
    replace hP : va_P D vwCl (wX7 G ad b (u.1, u.2.1, r13.1, r13.2, u.2.2.2.2.1, u.2.2.2.2.2.1, u.2.2.2.2.2.2.1, u.2.2.2.2.2.2.2.1, u.2.2.2.2.2.2.2.2.1, u.2.2.2.2.2.2.2.2.2.1, u.2.2.2.2.2.2.2.2.2.2)) H := hP
    replace hD : va_D A (wX7 G ad b (u.1, u.2.1, r13.1, r13.2, u.2.2.2.2.1, u.2.2.2.2.2.1, u.2.2.2.2.2.2.1, u.2.2.2.2.2.2.2.1, u.2.2.2.2.2.2.2.2.1, u.2.2.2.2.2.2.2.2.2.1, u.2.2.2.2.2.2.2.2.2.2)) := hD
    refine lv_aload_n hx hb dX7_ask_16 rfl (lv_at hl 1 rfl) ?_
    refine lv_iload_n hx hb dX7_ask_17 rfl (lv_at hl 2 rfl) ?_
    replace hf := zb_s hf
    obtain ⟨r18, hr18, hf⟩ := hf
    refine z_Vi (rest := []) C0 kX7_143 (c_X7_asks l D G ad (b) (u.1, u.2.1, r13.1, r13.2, u.2.2.2.2.1, u.2.2.2.2.2.1, u.2.2.2.2.2.2.1, u.2.2.2.2.2.2.2.1, u.2.2.2.2.2.2.2.2.1, u.2.2.2.2.2.2.2.2.2.1, u.2.2.2.2.2.2.2.2.2.2) p1 r18 hr18) z_pall z_pall.symm (ci := 8) (T := TX7) (N := 11) rfl rfl rfl ⟨Nat.le_of_ble_eq_true rfl, Nat.le_of_ble_eq_true rfl⟩ (Nat.le_of_ble_eq_true rfl) rfl hl.1 hP hD hS dX7_ask_18 (fun H locs hP hD hS => ?_)
    replace hP : va_P D vwCl (wX7 G ad b (r18.2, u.2.1, r13.1, r13.2, u.2.2.2.2.1, u.2.2.2.2.2.1, u.2.2.2.2.2.2.1, u.2.2.2.2.2.2.2.1, u.2.2.2.2.2.2.2.2.1, u.2.2.2.2.2.2.2.2.2.1, u.2.2.2.2.2.2.2.2.2.2)) H := hP
    replace hD : va_D A (wX7 G ad b (r18.2, u.2.1, r13.1, r13.2, u.2.2.2.2.1, u.2.2.2.2.2.1, u.2.2.2.2.2.2.1, u.2.2.2.2.2.2.2.1, u.2.2.2.2.2.2.2.2.1, u.2.2.2.2.2.2.2.2.2.1, u.2.2.2.2.2.2.2.2.2.2)) := hD
    obtain rfl := zo hf
    exact hret _ _ _ _ _ hP hD hS rfl dX7_ask_21
  · replace hf := zi_n hf c7
    refine lv_iload_n hx hb dX7_ask_10 rfl (lv_at hl 0 rfl) ?_
    obtain rfl := zo hf
    exact hret _ _ _ _ _ hP hD hS rfl dX7_ask_11
noncomputable def q_X7_unask (u : tX7) (p1 : Int32) : Option (Int32 × (Nat → Int32) × (Nat → Int32) × Int32) :=
  zb (q_X7_isSpan p1) fun r1 => (if r1 = 0 then some ((-1), u.1, u.2.2.1, u.2.2.2.1) else zb (q_X7_placeOf u p1) fun r11 => (if r11 = (-6) then some ((-3), u.1, u.2.2.1, u.2.2.2.1) else zb (q_X7_record u) fun r25 => zb (q_X7_takesOut (u.1, u.2.1, r25.1, r25.2, u.2.2.2.2.1, u.2.2.2.2.2.1, u.2.2.2.2.2.2.1, u.2.2.2.2.2.2.2.1, u.2.2.2.2.2.2.2.2.1, u.2.2.2.2.2.2.2.2.2.1, u.2.2.2.2.2.2.2.2.2.2) r11) fun r30 => some ((r30 8), r30, r25.1, r25.2)))
set_option maxRecDepth 100000 in
set_option maxHeartbeats 4000000 in
theorem c_X7_unask (l : Launch) (D : va_G) (G : zG) (ad : Nat → Nat) (b : Nat) (u : tX7) (p1 : Int32) (res : Int32 × (Nat → Int32) × (Nat → Int32) × Int32) (hf : q_X7_unask u p1 = some res) : zMi l yX7_unask cX7_unask 3 (some .int) 2 45 D G (wX7 G ad b u) (wX7 G ad b (res.2.1, u.2.1, res.2.2.1, res.2.2.2, u.2.2.2.2.1, u.2.2.2.2.2.1, u.2.2.2.2.2.2.1, u.2.2.2.2.2.2.2.1, u.2.2.2.2.2.2.2.2.1, u.2.2.2.2.2.2.2.2.2.1, u.2.2.2.2.2.2.2.2.2.2)) [.ref (ad b), .int p1] res.1 := by
  refine zs_i (plainFor_of_name (by decide)) (Nat.le_of_ble_eq_true rfl) ?_
  intro p e s m args below meth c A Q H ls C0 hret hP hD hS hl
  obtain ⟨hx, hb, hml, hown, hW, hK, hlocks, hF, hr, hA⟩ := id C0
  replace hl : lv_has ls 3 [(0, .ref (ad b)), (1, .int p1)] := hl
  unfold q_X7_unask at hf
  refine lv_iload_n hx hb dX7_unask_0 rfl (lv_at hl 1 rfl) ?_
  replace hf := zb_s hf
  obtain ⟨r1, hr1, hf⟩ := hf
  refine z_Si (rest := []) C0 kX7_125 (c_X7_isSpan l D G p1 r1 hr1) (List.Perm.refl _) (List.Perm.refl _) rfl ⟨Nat.le_of_ble_eq_true rfl, Nat.le_of_ble_eq_true rfl⟩ (Nat.le_of_ble_eq_true rfl) rfl hl.1 hP hD hS dX7_unask_1 (fun H locs hP hD hS => ?_)
  refine lv_if_ne (tgt := 9) hx hb dX7_unask_4 (by decide) (fun c4 => ?_) (fun c4 => ?_)
  · replace hf := zi_n hf c4
    refine lv_aload_n hx hb dX7_unask_9 rfl (lv_at hl 0 rfl) ?_
    refine lv_iload_n hx hb dX7_unask_10 rfl (lv_at hl 1 rfl) ?_
    replace hf := zb_s hf
    obtain ⟨r11, hr11, hf⟩ := hf
    refine z_Vi (rest := []) C0 kX7_137 (c_X7_placeOf l D G ad (b) u p1 r11 hr11) z_pall z_pall.symm (ci := 8) (T := TX7) (N := 11) rfl rfl rfl ⟨Nat.le_of_ble_eq_true rfl, Nat.le_of_ble_eq_true rfl⟩ (Nat.le_of_ble_eq_true rfl) rfl hl.1 hP hD hS dX7_unask_11 (fun H locs hP hD hS => ?_)
    refine lv_istore_n (lv' := [(2, .int r11), (0, .ref (ad b)), (1, .int p1)]) hx hb dX7_unask_14 rfl hl (by decide) rfl (fun ls hl => ?_)
    refine lv_iload_n hx hb dX7_unask_15 rfl (lv_at hl 0 rfl) ?_
    refine lv_bipush (v := (-6)) hx hb dX7_unask_16 (by decide) ?_
    refine lv_icmp_ne (tgt := 24) hx hb dX7_unask_18 (by decide) (fun c18 => ?_) (fun c18 => ?_)
    · replace hf := zi_n hf c18
      refine lv_aload_n hx hb dX7_unask_24 rfl (lv_at hl 1 rfl) ?_
      replace hf := zb_s hf
      obtain ⟨r25, hr25, hf⟩ := hf
      refine z_Vv (rest := []) C0 kX7_112 (c_X7_record l D G ad (b) u r25 hr25) z_pall z_pall.symm (ci := 8) (T := TX7) (N := 11) rfl rfl rfl ⟨Nat.le_of_ble_eq_true rfl, Nat.le_of_ble_eq_true rfl⟩ (Nat.le_of_ble_eq_true rfl) rfl hl.1 hP hD hS dX7_unask_25 (fun H locs hP hD hS => ?_)
      replace hP : va_P D vwCl (wX7 G ad b (u.1, u.2.1, r25.1, r25.2, u.2.2.2.2.1, u.2.2.2.2.2.1, u.2.2.2.2.2.2.1, u.2.2.2.2.2.2.2.1, u.2.2.2.2.2.2.2.2.1, u.2.2.2.2.2.2.2.2.2.1, u.2.2.2.2.2.2.2.2.2.2)) H := hP
      replace hD : va_D A (wX7 G ad b (u.1, u.2.1, r25.1, r25.2, u.2.2.2.2.1, u.2.2.2.2.2.1, u.2.2.2.2.2.2.1, u.2.2.2.2.2.2.2.1, u.2.2.2.2.2.2.2.2.1, u.2.2.2.2.2.2.2.2.2.1, u.2.2.2.2.2.2.2.2.2.2)) := hD
      refine lv_aload_n hx hb dX7_unask_28 rfl (lv_at hl 1 rfl) ?_
      refine lv_iload_n hx hb dX7_unask_29 rfl (lv_at hl 0 rfl) ?_
      replace hf := zb_s hf
      obtain ⟨r30, hr30, hf⟩ := hf
      refine z_Vv (rest := []) C0 kX7_89 (c_X7_takesOut l D G ad (b) (u.1, u.2.1, r25.1, r25.2, u.2.2.2.2.1, u.2.2.2.2.2.1, u.2.2.2.2.2.2.1, u.2.2.2.2.2.2.2.1, u.2.2.2.2.2.2.2.2.1, u.2.2.2.2.2.2.2.2.2.1, u.2.2.2.2.2.2.2.2.2.2) r11 r30 hr30) z_pall z_pall.symm (ci := 8) (T := TX7) (N := 11) rfl rfl rfl ⟨Nat.le_of_ble_eq_true rfl, Nat.le_of_ble_eq_true rfl⟩ (Nat.le_of_ble_eq_true rfl) rfl hl.1 hP hD hS dX7_unask_30 (fun H locs hP hD hS => ?_)
      replace hP : va_P D vwCl (wX7 G ad b (r30, u.2.1, r25.1, r25.2, u.2.2.2.2.1, u.2.2.2.2.2.1, u.2.2.2.2.2.2.1, u.2.2.2.2.2.2.2.1, u.2.2.2.2.2.2.2.2.1, u.2.2.2.2.2.2.2.2.2.1, u.2.2.2.2.2.2.2.2.2.2)) H := hP
      replace hD : va_D A (wX7 G ad b (r30, u.2.1, r25.1, r25.2, u.2.2.2.2.1, u.2.2.2.2.2.1, u.2.2.2.2.2.2.1, u.2.2.2.2.2.2.2.1, u.2.2.2.2.2.2.2.2.1, u.2.2.2.2.2.2.2.2.2.1, u.2.2.2.2.2.2.2.2.2.2)) := hD
      refine lv_aload_n hx hb dX7_unask_33 rfl (lv_at hl 1 rfl) ?_
      refine va_get (D := D) (ci := 8) (v := .ref (ad (b + 1))) (C := RX7) (T := TX7) (N := 11) hx hb hW inlX7 hown hK hP 0 rfl rfl 0 (by decide) (hW _ wd_127) (fun _ h9 => h9) rfl dX7_unask_34 ?_
      refine lv_bipush (v := 8) hx hb dX7_unask_37 (by decide) ?_
      refine z_iald (v := (r30 8)) hx hb hK hP 1 0 rfl rfl (z_in rfl) rfl dX7_unask_39 ?_
      obtain rfl := zo hf
      exact hret _ _ _ _ _ hP hD hS rfl dX7_unask_40
    · replace hf := zi_p hf c18
      refine lv_bipush (v := (-3)) hx hb dX7_unask_21 (by decide) ?_
      obtain rfl := zo hf
      exact hret _ _ _ _ _ hP hD hS rfl dX7_unask_23
  · replace hf := zi_p hf c4
    refine lv_iconst (v := (-1)) hx hb dX7_unask_7 (by decide) ?_
    obtain rfl := zo hf
    exact hret _ _ _ _ _ hP hD hS rfl dX7_unask_8
noncomputable def q_X7_read (u : tX7) (p1 : Int32) (p2 : Int32) : Option (Int32 × (Nat → Int32) × (Nat → Int32) × Int32) :=
  zb (q_X7_whyNotRead u p1 p2) fun r3 => (if 0 ≤ r3 then zb (q_X7_record u) fun r14 => zb (q_X7_reads (u.1, u.2.1, r14.1, r14.2, u.2.2.2.2.1, u.2.2.2.2.2.1, u.2.2.2.2.2.2.1, u.2.2.2.2.2.2.2.1, u.2.2.2.2.2.2.2.2.1, u.2.2.2.2.2.2.2.2.2.1, u.2.2.2.2.2.2.2.2.2.2) p1 p2) fun r20 => some (r20.1, r20.2, r14.1, r14.2) else some (r3, u.1, u.2.2.1, u.2.2.2.1))
set_option maxRecDepth 100000 in
set_option maxHeartbeats 4000000 in
theorem c_X7_read (l : Launch) (D : va_G) (G : zG) (ad : Nat → Nat) (b : Nat) (u : tX7) (p1 : Int32) (p2 : Int32) (res : Int32 × (Nat → Int32) × (Nat → Int32) × Int32) (hf : q_X7_read u p1 p2 = some res) : zMi l yX7_read cX7_read 4 (some .int) 4 85 D G (wX7 G ad b u) (wX7 G ad b (res.2.1, u.2.1, res.2.2.1, res.2.2.2, u.2.2.2.2.1, u.2.2.2.2.2.1, u.2.2.2.2.2.2.1, u.2.2.2.2.2.2.2.1, u.2.2.2.2.2.2.2.2.1, u.2.2.2.2.2.2.2.2.2.1, u.2.2.2.2.2.2.2.2.2.2)) [.ref (ad b), .int p1, .int p2] res.1 := by
  refine zs_i (plainFor_of_name (by decide)) (Nat.le_of_ble_eq_true rfl) ?_
  intro p e s m args below meth c A Q H ls C0 hret hP hD hS hl
  obtain ⟨hx, hb, hml, hown, hW, hK, hlocks, hF, hr, hA⟩ := id C0
  replace hl : lv_has ls 4 [(0, .ref (ad b)), (1, .int p1), (2, .int p2)] := hl
  unfold q_X7_read at hf
  refine lv_aload_n hx hb dX7_read_0 rfl (lv_at hl 0 rfl) ?_
  refine lv_iload_n hx hb dX7_read_1 rfl (lv_at hl 1 rfl) ?_
  refine lv_iload_n hx hb dX7_read_2 rfl (lv_at hl 2 rfl) ?_
  replace hf := zb_s hf
  obtain ⟨r3, hr3, hf⟩ := hf
  refine z_Vi (rest := []) C0 kX7_150 (c_X7_whyNotRead l D G ad (b) u p1 p2 r3 hr3) z_pall z_pall.symm (ci := 8) (T := TX7) (N := 11) rfl rfl rfl ⟨Nat.le_of_ble_eq_true rfl, Nat.le_of_ble_eq_true rfl⟩ (Nat.le_of_ble_eq_true rfl) rfl hl.1 hP hD hS dX7_read_3 (fun H locs hP hD hS => ?_)
  refine lv_istore_n (lv' := [(3, .int r3), (0, .ref (ad b)), (1, .int p1), (2, .int p2)]) hx hb dX7_read_6 rfl hl (by decide) rfl (fun ls hl => ?_)
  refine lv_iload_n hx hb dX7_read_7 rfl (lv_at hl 0 rfl) ?_
  refine lv_if_ge (tgt := 13) hx hb dX7_read_8 (by decide) (fun c8 => ?_) (fun c8 => ?_)
  · replace hf := zi_p hf c8
    refine lv_aload_n hx hb dX7_read_13 rfl (lv_at hl 1 rfl) ?_
    replace hf := zb_s hf
    obtain ⟨r14, hr14, hf⟩ := hf
    refine z_Vv (rest := []) C0 kX7_112 (c_X7_record l D G ad (b) u r14 hr14) z_pall z_pall.symm (ci := 8) (T := TX7) (N := 11) rfl rfl rfl ⟨Nat.le_of_ble_eq_true rfl, Nat.le_of_ble_eq_true rfl⟩ (Nat.le_of_ble_eq_true rfl) rfl hl.1 hP hD hS dX7_read_14 (fun H locs hP hD hS => ?_)
    replace hP : va_P D vwCl (wX7 G ad b (u.1, u.2.1, r14.1, r14.2, u.2.2.2.2.1, u.2.2.2.2.2.1, u.2.2.2.2.2.2.1, u.2.2.2.2.2.2.2.1, u.2.2.2.2.2.2.2.2.1, u.2.2.2.2.2.2.2.2.2.1, u.2.2.2.2.2.2.2.2.2.2)) H := hP
    replace hD : va_D A (wX7 G ad b (u.1, u.2.1, r14.1, r14.2, u.2.2.2.2.1, u.2.2.2.2.2.1, u.2.2.2.2.2.2.1, u.2.2.2.2.2.2.2.1, u.2.2.2.2.2.2.2.2.1, u.2.2.2.2.2.2.2.2.2.1, u.2.2.2.2.2.2.2.2.2.2)) := hD
    refine lv_aload_n hx hb dX7_read_17 rfl (lv_at hl 1 rfl) ?_
    refine lv_iload_n hx hb dX7_read_18 rfl (lv_at hl 2 rfl) ?_
    refine lv_iload_n hx hb dX7_read_19 rfl (lv_at hl 3 rfl) ?_
    replace hf := zb_s hf
    obtain ⟨r20, hr20, hf⟩ := hf
    refine z_Vi (rest := []) C0 kX7_153 (c_X7_reads l D G ad (b) (u.1, u.2.1, r14.1, r14.2, u.2.2.2.2.1, u.2.2.2.2.2.1, u.2.2.2.2.2.2.1, u.2.2.2.2.2.2.2.1, u.2.2.2.2.2.2.2.2.1, u.2.2.2.2.2.2.2.2.2.1, u.2.2.2.2.2.2.2.2.2.2) p1 p2 r20 hr20) z_pall z_pall.symm (ci := 8) (T := TX7) (N := 11) rfl rfl rfl ⟨Nat.le_of_ble_eq_true rfl, Nat.le_of_ble_eq_true rfl⟩ (Nat.le_of_ble_eq_true rfl) rfl hl.1 hP hD hS dX7_read_20 (fun H locs hP hD hS => ?_)
    replace hP : va_P D vwCl (wX7 G ad b (r20.2, u.2.1, r14.1, r14.2, u.2.2.2.2.1, u.2.2.2.2.2.1, u.2.2.2.2.2.2.1, u.2.2.2.2.2.2.2.1, u.2.2.2.2.2.2.2.2.1, u.2.2.2.2.2.2.2.2.2.1, u.2.2.2.2.2.2.2.2.2.2)) H := hP
    replace hD : va_D A (wX7 G ad b (r20.2, u.2.1, r14.1, r14.2, u.2.2.2.2.1, u.2.2.2.2.2.1, u.2.2.2.2.2.2.1, u.2.2.2.2.2.2.2.1, u.2.2.2.2.2.2.2.2.1, u.2.2.2.2.2.2.2.2.2.1, u.2.2.2.2.2.2.2.2.2.2)) := hD
    obtain rfl := zo hf
    exact hret _ _ _ _ _ hP hD hS rfl dX7_read_23
  · replace hf := zi_n hf c8
    refine lv_iload_n hx hb dX7_read_11 rfl (lv_at hl 0 rfl) ?_
    obtain rfl := zo hf
    exact hret _ _ _ _ _ hP hD hS rfl dX7_read_12
noncomputable def q_X7_quiet (u : tX7) (p1 : Int32) : Option (Int32 × (Nat → Int32) × (Nat → Int32) × Int32) :=
  zb (q_X7_whyNotQuiet u p1) fun r2 => (if 0 ≤ r2 then zb (q_X7_record u) fun r13 => zb (q_X7_passes (u.1, u.2.1, r13.1, r13.2, u.2.2.2.2.1, u.2.2.2.2.2.1, u.2.2.2.2.2.2.1, u.2.2.2.2.2.2.2.1, u.2.2.2.2.2.2.2.2.1, u.2.2.2.2.2.2.2.2.2.1, u.2.2.2.2.2.2.2.2.2.2) p1) fun r18 => some (r18.1, r18.2, r13.1, r13.2) else some (r2, u.1, u.2.2.1, u.2.2.2.1))
set_option maxRecDepth 100000 in
set_option maxHeartbeats 4000000 in
theorem c_X7_quiet (l : Launch) (D : va_G) (G : zG) (ad : Nat → Nat) (b : Nat) (u : tX7) (p1 : Int32) (res : Int32 × (Nat → Int32) × (Nat → Int32) × Int32) (hf : q_X7_quiet u p1 = some res) : zMi l yX7_quiet cX7_quiet 3 (some .int) 7 156 D G (wX7 G ad b u) (wX7 G ad b (res.2.1, u.2.1, res.2.2.1, res.2.2.2, u.2.2.2.2.1, u.2.2.2.2.2.1, u.2.2.2.2.2.2.1, u.2.2.2.2.2.2.2.1, u.2.2.2.2.2.2.2.2.1, u.2.2.2.2.2.2.2.2.2.1, u.2.2.2.2.2.2.2.2.2.2)) [.ref (ad b), .int p1] res.1 := by
  refine zs_i (plainFor_of_name (by decide)) (Nat.le_of_ble_eq_true rfl) ?_
  intro p e s m args below meth c A Q H ls C0 hret hP hD hS hl
  obtain ⟨hx, hb, hml, hown, hW, hK, hlocks, hF, hr, hA⟩ := id C0
  replace hl : lv_has ls 3 [(0, .ref (ad b)), (1, .int p1)] := hl
  unfold q_X7_quiet at hf
  refine lv_aload_n hx hb dX7_quiet_0 rfl (lv_at hl 0 rfl) ?_
  refine lv_iload_n hx hb dX7_quiet_1 rfl (lv_at hl 1 rfl) ?_
  replace hf := zb_s hf
  obtain ⟨r2, hr2, hf⟩ := hf
  refine z_Vi (rest := []) C0 kX7_156 (c_X7_whyNotQuiet l D G ad (b) u p1 r2 hr2) z_pall z_pall.symm (ci := 8) (T := TX7) (N := 11) rfl rfl rfl ⟨Nat.le_of_ble_eq_true rfl, Nat.le_of_ble_eq_true rfl⟩ (Nat.le_of_ble_eq_true rfl) rfl hl.1 hP hD hS dX7_quiet_2 (fun H locs hP hD hS => ?_)
  refine lv_istore_n (lv' := [(2, .int r2), (0, .ref (ad b)), (1, .int p1)]) hx hb dX7_quiet_5 rfl hl (by decide) rfl (fun ls hl => ?_)
  refine lv_iload_n hx hb dX7_quiet_6 rfl (lv_at hl 0 rfl) ?_
  refine lv_if_ge (tgt := 12) hx hb dX7_quiet_7 (by decide) (fun c7 => ?_) (fun c7 => ?_)
  · replace hf := zi_p hf c7
    refine lv_aload_n hx hb dX7_quiet_12 rfl (lv_at hl 1 rfl) ?_
    replace hf := zb_s hf
    obtain ⟨r13, hr13, hf⟩ := hf
    refine z_Vv (rest := []) C0 kX7_112 (c_X7_record l D G ad (b) u r13 hr13) z_pall z_pall.symm (ci := 8) (T := TX7) (N := 11) rfl rfl rfl ⟨Nat.le_of_ble_eq_true rfl, Nat.le_of_ble_eq_true rfl⟩ (Nat.le_of_ble_eq_true rfl) rfl hl.1 hP hD hS dX7_quiet_13 (fun H locs hP hD hS => ?_)
    replace hP : va_P D vwCl (wX7 G ad b (u.1, u.2.1, r13.1, r13.2, u.2.2.2.2.1, u.2.2.2.2.2.1, u.2.2.2.2.2.2.1, u.2.2.2.2.2.2.2.1, u.2.2.2.2.2.2.2.2.1, u.2.2.2.2.2.2.2.2.2.1, u.2.2.2.2.2.2.2.2.2.2)) H := hP
    replace hD : va_D A (wX7 G ad b (u.1, u.2.1, r13.1, r13.2, u.2.2.2.2.1, u.2.2.2.2.2.1, u.2.2.2.2.2.2.1, u.2.2.2.2.2.2.2.1, u.2.2.2.2.2.2.2.2.1, u.2.2.2.2.2.2.2.2.2.1, u.2.2.2.2.2.2.2.2.2.2)) := hD
    refine lv_aload_n hx hb dX7_quiet_16 rfl (lv_at hl 1 rfl) ?_
    refine lv_iload_n hx hb dX7_quiet_17 rfl (lv_at hl 2 rfl) ?_
    replace hf := zb_s hf
    obtain ⟨r18, hr18, hf⟩ := hf
    refine z_Vi (rest := []) C0 kX7_159 (c_X7_passes l D G ad (b) (u.1, u.2.1, r13.1, r13.2, u.2.2.2.2.1, u.2.2.2.2.2.1, u.2.2.2.2.2.2.1, u.2.2.2.2.2.2.2.1, u.2.2.2.2.2.2.2.2.1, u.2.2.2.2.2.2.2.2.2.1, u.2.2.2.2.2.2.2.2.2.2) p1 r18 hr18) z_pall z_pall.symm (ci := 8) (T := TX7) (N := 11) rfl rfl rfl ⟨Nat.le_of_ble_eq_true rfl, Nat.le_of_ble_eq_true rfl⟩ (Nat.le_of_ble_eq_true rfl) rfl hl.1 hP hD hS dX7_quiet_18 (fun H locs hP hD hS => ?_)
    replace hP : va_P D vwCl (wX7 G ad b (r18.2, u.2.1, r13.1, r13.2, u.2.2.2.2.1, u.2.2.2.2.2.1, u.2.2.2.2.2.2.1, u.2.2.2.2.2.2.2.1, u.2.2.2.2.2.2.2.2.1, u.2.2.2.2.2.2.2.2.2.1, u.2.2.2.2.2.2.2.2.2.2)) H := hP
    replace hD : va_D A (wX7 G ad b (r18.2, u.2.1, r13.1, r13.2, u.2.2.2.2.1, u.2.2.2.2.2.1, u.2.2.2.2.2.2.1, u.2.2.2.2.2.2.2.1, u.2.2.2.2.2.2.2.2.1, u.2.2.2.2.2.2.2.2.2.1, u.2.2.2.2.2.2.2.2.2.2)) := hD
    obtain rfl := zo hf
    exact hret _ _ _ _ _ hP hD hS rfl dX7_quiet_21
  · replace hf := zi_n hf c7
    refine lv_iload_n hx hb dX7_quiet_10 rfl (lv_at hl 0 rfl) ?_
    obtain rfl := zo hf
    exact hret _ _ _ _ _ hP hD hS rfl dX7_quiet_11
noncomputable def q_X7_giveUp (u : tX7) : Option (Int32 × (Nat → Int32) × (Nat → Int32) × Int32) :=
  (if (u.1 5) = (-6) then some ((-3), u.1, u.2.2.1, u.2.2.2.1) else zb (q_X7_record u) fun r15 => zb (q_X7_stops (u.1, u.2.1, r15.1, r15.2, u.2.2.2.2.1, u.2.2.2.2.2.1, u.2.2.2.2.2.2.1, u.2.2.2.2.2.2.2.1, u.2.2.2.2.2.2.2.2.1, u.2.2.2.2.2.2.2.2.2.1, u.2.2.2.2.2.2.2.2.2.2)) fun r27 => some ((u.1 6), r27, r15.1, r15.2))
set_option maxRecDepth 100000 in
set_option maxHeartbeats 4000000 in
theorem c_X7_giveUp (l : Launch) (D : va_G) (G : zG) (ad : Nat → Nat) (b : Nat) (u : tX7) (res : Int32 × (Nat → Int32) × (Nat → Int32) × Int32) (hf : q_X7_giveUp u = some res) : zMi l yX7_giveUp cX7_giveUp 2 (some .int) 2 45 D G (wX7 G ad b u) (wX7 G ad b (res.2.1, u.2.1, res.2.2.1, res.2.2.2, u.2.2.2.2.1, u.2.2.2.2.2.1, u.2.2.2.2.2.2.1, u.2.2.2.2.2.2.2.1, u.2.2.2.2.2.2.2.2.1, u.2.2.2.2.2.2.2.2.2.1, u.2.2.2.2.2.2.2.2.2.2)) [.ref (ad b)] res.1 := by
  refine zs_i (plainFor_of_name (by decide)) (Nat.le_of_ble_eq_true rfl) ?_
  intro p e s m args below meth c A Q H ls C0 hret hP hD hS hl
  obtain ⟨hx, hb, hml, hown, hW, hK, hlocks, hF, hr, hA⟩ := id C0
  replace hl : lv_has ls 2 [(0, .ref (ad b))] := hl
  unfold q_X7_giveUp at hf
  refine lv_aload_n hx hb dX7_giveUp_0 rfl (lv_at hl 0 rfl) ?_
  refine va_get (D := D) (ci := 8) (v := .ref (ad (b + 1))) (C := RX7) (T := TX7) (N := 11) hx hb hW inlX7 hown hK hP 0 rfl rfl 0 (by decide) (hW _ wd_127) (fun _ h9 => h9) rfl dX7_giveUp_1 ?_
  refine lv_iconst (v := 5) hx hb dX7_giveUp_4 (by decide) ?_
  refine z_iald (v := (u.1 5)) hx hb hK hP 1 0 rfl rfl (z_in rfl) rfl dX7_giveUp_5 ?_
  refine lv_bipush (v := (-6)) hx hb dX7_giveUp_6 (by decide) ?_
  refine lv_icmp_ne (tgt := 14) hx hb dX7_giveUp_8 (by decide) (fun c8 => ?_) (fun c8 => ?_)
  · replace hf := zi_n hf c8
    refine lv_aload_n hx hb dX7_giveUp_14 rfl (lv_at hl 0 rfl) ?_
    replace hf := zb_s hf
    obtain ⟨r15, hr15, hf⟩ := hf
    refine z_Vv (rest := []) C0 kX7_112 (c_X7_record l D G ad (b) u r15 hr15) z_pall z_pall.symm (ci := 8) (T := TX7) (N := 11) rfl rfl rfl ⟨Nat.le_of_ble_eq_true rfl, Nat.le_of_ble_eq_true rfl⟩ (Nat.le_of_ble_eq_true rfl) rfl hl.1 hP hD hS dX7_giveUp_15 (fun H locs hP hD hS => ?_)
    replace hP : va_P D vwCl (wX7 G ad b (u.1, u.2.1, r15.1, r15.2, u.2.2.2.2.1, u.2.2.2.2.2.1, u.2.2.2.2.2.2.1, u.2.2.2.2.2.2.2.1, u.2.2.2.2.2.2.2.2.1, u.2.2.2.2.2.2.2.2.2.1, u.2.2.2.2.2.2.2.2.2.2)) H := hP
    replace hD : va_D A (wX7 G ad b (u.1, u.2.1, r15.1, r15.2, u.2.2.2.2.1, u.2.2.2.2.2.1, u.2.2.2.2.2.2.1, u.2.2.2.2.2.2.2.1, u.2.2.2.2.2.2.2.2.1, u.2.2.2.2.2.2.2.2.2.1, u.2.2.2.2.2.2.2.2.2.2)) := hD
    refine lv_aload_n hx hb dX7_giveUp_18 rfl (lv_at hl 0 rfl) ?_
    refine va_get (D := D) (ci := 8) (v := .ref (ad (b + 1))) (C := RX7) (T := TX7) (N := 11) hx hb hW inlX7 hown hK hP 0 rfl rfl 0 (by decide) (hW _ wd_127) (fun _ h9 => h9) rfl dX7_giveUp_19 ?_
    refine lv_bipush (v := 6) hx hb dX7_giveUp_22 (by decide) ?_
    refine z_iald (v := (u.1 6)) hx hb hK hP 1 0 rfl rfl (z_in rfl) rfl dX7_giveUp_24 ?_
    refine lv_istore_n (lv' := [(1, .int (u.1 6)), (0, .ref (ad b))]) hx hb dX7_giveUp_25 rfl hl (by decide) rfl (fun ls hl => ?_)
    refine lv_aload_n hx hb dX7_giveUp_26 rfl (lv_at hl 1 rfl) ?_
    replace hf := zb_s hf
    obtain ⟨r27, hr27, hf⟩ := hf
    refine z_Vv (rest := []) C0 kX7_100 (c_X7_stops l D G ad (b) (u.1, u.2.1, r15.1, r15.2, u.2.2.2.2.1, u.2.2.2.2.2.1, u.2.2.2.2.2.2.1, u.2.2.2.2.2.2.2.1, u.2.2.2.2.2.2.2.2.1, u.2.2.2.2.2.2.2.2.2.1, u.2.2.2.2.2.2.2.2.2.2) r27 hr27) z_pall z_pall.symm (ci := 8) (T := TX7) (N := 11) rfl rfl rfl ⟨Nat.le_of_ble_eq_true rfl, Nat.le_of_ble_eq_true rfl⟩ (Nat.le_of_ble_eq_true rfl) rfl hl.1 hP hD hS dX7_giveUp_27 (fun H locs hP hD hS => ?_)
    replace hP : va_P D vwCl (wX7 G ad b (r27, u.2.1, r15.1, r15.2, u.2.2.2.2.1, u.2.2.2.2.2.1, u.2.2.2.2.2.2.1, u.2.2.2.2.2.2.2.1, u.2.2.2.2.2.2.2.2.1, u.2.2.2.2.2.2.2.2.2.1, u.2.2.2.2.2.2.2.2.2.2)) H := hP
    replace hD : va_D A (wX7 G ad b (r27, u.2.1, r15.1, r15.2, u.2.2.2.2.1, u.2.2.2.2.2.1, u.2.2.2.2.2.2.1, u.2.2.2.2.2.2.2.1, u.2.2.2.2.2.2.2.2.1, u.2.2.2.2.2.2.2.2.2.1, u.2.2.2.2.2.2.2.2.2.2)) := hD
    refine lv_iload_n hx hb dX7_giveUp_30 rfl (lv_at hl 0 rfl) ?_
    obtain rfl := zo hf
    exact hret _ _ _ _ _ hP hD hS rfl dX7_giveUp_31
  · replace hf := zi_p hf c8
    refine lv_bipush (v := (-3)) hx hb dX7_giveUp_11 (by decide) ?_
    obtain rfl := zo hf
    exact hret _ _ _ _ _ hP hD hS rfl dX7_giveUp_13
noncomputable def q_X7_count (u : tX7) (p1 : Int32) : Option (Int32) :=
  zb (q_X7_within p1 0 12) fun r4 => (if r4 = 0 then some ((-2)) else zg 104 u.1 p1 fun a15 => some (a15))
set_option maxRecDepth 100000 in
set_option maxHeartbeats 4000000 in
theorem c_X7_count (l : Launch) (D : va_G) (G : zG) (ad : Nat → Nat) (b : Nat) (u : tX7) (p1 : Int32) (res : Int32) (hf : q_X7_count u p1 = some res) : zMi l yX7_count cX7_count 2 (some .int) 1 22 D G (wX7 G ad b u) (wX7 G ad b u) [.ref (ad b), .int p1] res := by
  refine zs_i (plainFor_of_name (by decide)) (Nat.le_of_ble_eq_true rfl) ?_
  intro p e s m args below meth c A Q H ls C0 hret hP hD hS hl
  obtain ⟨hx, hb, hml, hown, hW, hK, hlocks, hF, hr, hA⟩ := id C0
  replace hl : lv_has ls 2 [(0, .ref (ad b)), (1, .int p1)] := hl
  unfold q_X7_count at hf
  refine lv_iload_n hx hb dX7_count_0 rfl (lv_at hl 1 rfl) ?_
  refine lv_iconst (v := 0) hx hb dX7_count_1 (by decide) ?_
  refine lv_bipush (v := 12) hx hb dX7_count_2 (by decide) ?_
  replace hf := zb_s hf
  obtain ⟨r4, hr4, hf⟩ := hf
  refine z_Si (rest := []) C0 kX7_30 (c_X7_within l D G p1 0 12 r4 hr4) (List.Perm.refl _) (List.Perm.refl _) rfl ⟨Nat.le_of_ble_eq_true rfl, Nat.le_of_ble_eq_true rfl⟩ (Nat.le_of_ble_eq_true rfl) rfl hl.1 hP hD hS dX7_count_4 (fun H locs hP hD hS => ?_)
  refine lv_if_eq (tgt := 19) hx hb dX7_count_7 (by decide) (fun c7 => ?_) (fun c7 => ?_)
  · replace hf := zi_p hf c7
    refine lv_bipush (v := (-2)) hx hb dX7_count_19 (by decide) ?_
    obtain rfl := zo hf
    exact hret _ _ _ _ _ hP hD hS rfl dX7_count_21
  · replace hf := zi_n hf c7
    refine lv_aload_n hx hb dX7_count_10 rfl (lv_at hl 0 rfl) ?_
    refine va_get (D := D) (ci := 8) (v := .ref (ad (b + 1))) (C := RX7) (T := TX7) (N := 11) hx hb hW inlX7 hown hK hP 0 rfl rfl 0 (by decide) (hW _ wd_127) (fun _ h9 => h9) rfl dX7_count_11 ?_
    refine lv_iload_n hx hb dX7_count_14 rfl (lv_at hl 1 rfl) ?_
    replace hf := zg_s hf
    obtain ⟨hi15, a15, ea15, hf⟩ := hf
    refine z_iald hx hb hK hP 1 0 rfl rfl hi15 ea15 dX7_count_15 ?_
    refine lv_goto (tgt := 21) hx hb dX7_count_16 (by decide) ?_
    obtain rfl := zo hf
    exact hret _ _ _ _ _ hP hD hS rfl dX7_count_21
noncomputable def q_X7_setting (u : tX7) (p1 : Int32) : Option (Int32) :=
  zb (q_X7_isSetting p1) fun r1 => (if r1 = 0 then some ((-1)) else zg 104 u.1 (15 + p1) fun a15 => some (a15))
set_option maxRecDepth 100000 in
set_option maxHeartbeats 4000000 in
theorem c_X7_setting (l : Launch) (D : va_G) (G : zG) (ad : Nat → Nat) (b : Nat) (u : tX7) (p1 : Int32) (res : Int32) (hf : q_X7_setting u p1 = some res) : zMi l yX7_setting cX7_setting 2 (some .int) 2 42 D G (wX7 G ad b u) (wX7 G ad b u) [.ref (ad b), .int p1] res := by
  refine zs_i (plainFor_of_name (by decide)) (Nat.le_of_ble_eq_true rfl) ?_
  intro p e s m args below meth c A Q H ls C0 hret hP hD hS hl
  obtain ⟨hx, hb, hml, hown, hW, hK, hlocks, hF, hr, hA⟩ := id C0
  replace hl : lv_has ls 2 [(0, .ref (ad b)), (1, .int p1)] := hl
  unfold q_X7_setting at hf
  refine lv_iload_n hx hb dX7_setting_0 rfl (lv_at hl 1 rfl) ?_
  replace hf := zb_s hf
  obtain ⟨r1, hr1, hf⟩ := hf
  refine z_Si (rest := []) C0 kX7_115 (c_X7_isSetting l D G p1 r1 hr1) (List.Perm.refl _) (List.Perm.refl _) rfl ⟨Nat.le_of_ble_eq_true rfl, Nat.le_of_ble_eq_true rfl⟩ (Nat.le_of_ble_eq_true rfl) rfl hl.1 hP hD hS dX7_setting_1 (fun H locs hP hD hS => ?_)
  refine lv_if_eq (tgt := 19) hx hb dX7_setting_4 (by decide) (fun c4 => ?_) (fun c4 => ?_)
  · replace hf := zi_p hf c4
    refine lv_iconst (v := (-1)) hx hb dX7_setting_19 (by decide) ?_
    obtain rfl := zo hf
    exact hret _ _ _ _ _ hP hD hS rfl dX7_setting_20
  · replace hf := zi_n hf c4
    refine lv_aload_n hx hb dX7_setting_7 rfl (lv_at hl 0 rfl) ?_
    refine va_get (D := D) (ci := 8) (v := .ref (ad (b + 1))) (C := RX7) (T := TX7) (N := 11) hx hb hW inlX7 hown hK hP 0 rfl rfl 0 (by decide) (hW _ wd_127) (fun _ h9 => h9) rfl dX7_setting_8 ?_
    refine lv_bipush (v := 15) hx hb dX7_setting_11 (by decide) ?_
    refine lv_iload_n hx hb dX7_setting_13 rfl (lv_at hl 1 rfl) ?_
    refine lv_iadd hx hb dX7_setting_14 ?_
    replace hf := zg_s hf
    obtain ⟨hi15, a15, ea15, hf⟩ := hf
    refine z_iald hx hb hK hP 1 0 rfl rfl hi15 ea15 dX7_setting_15 ?_
    refine lv_goto (tgt := 20) hx hb dX7_setting_16 (by decide) ?_
    obtain rfl := zo hf
    exact hret _ _ _ _ _ hP hD hS rfl dX7_setting_20
theorem kX7_162 : zLkV RX7 162 yX7_ofSpan cX7_ofSpan 3 (some .int) 2 := ⟨⟨wd_527, wd_528, wd_529, wd_5, wd_530⟩, by decide +kernel⟩
noncomputable def q_X7_span (u : tX7) (p1 : Int32) (p2 : Int32) : Option (Int32) :=
  zb (q_X7_isSpan p1) fun r1 => (if r1 = 0 then some ((-1)) else zb (q_X7_within p2 0 6) fun r13 => (if r13 = 0 then some ((-2)) else zb (q_X7_ofSpan u p1 p2) fun r22 => some (r22)))
set_option maxRecDepth 100000 in
set_option maxHeartbeats 4000000 in
theorem c_X7_span (l : Launch) (D : va_G) (G : zG) (ad : Nat → Nat) (b : Nat) (u : tX7) (p1 : Int32) (p2 : Int32) (res : Int32) (hf : q_X7_span u p1 p2 = some res) : zMi l yX7_span cX7_span 3 (some .int) 4 89 D G (wX7 G ad b u) (wX7 G ad b u) [.ref (ad b), .int p1, .int p2] res := by
  refine zs_i (plainFor_of_name (by decide)) (Nat.le_of_ble_eq_true rfl) ?_
  intro p e s m args below meth c A Q H ls C0 hret hP hD hS hl
  obtain ⟨hx, hb, hml, hown, hW, hK, hlocks, hF, hr, hA⟩ := id C0
  replace hl : lv_has ls 3 [(0, .ref (ad b)), (1, .int p1), (2, .int p2)] := hl
  unfold q_X7_span at hf
  refine lv_iload_n hx hb dX7_span_0 rfl (lv_at hl 1 rfl) ?_
  replace hf := zb_s hf
  obtain ⟨r1, hr1, hf⟩ := hf
  refine z_Si (rest := []) C0 kX7_125 (c_X7_isSpan l D G p1 r1 hr1) (List.Perm.refl _) (List.Perm.refl _) rfl ⟨Nat.le_of_ble_eq_true rfl, Nat.le_of_ble_eq_true rfl⟩ (Nat.le_of_ble_eq_true rfl) rfl hl.1 hP hD hS dX7_span_1 (fun H locs hP hD hS => ?_)
  refine lv_if_ne (tgt := 9) hx hb dX7_span_4 (by decide) (fun c4 => ?_) (fun c4 => ?_)
  · replace hf := zi_n hf c4
    refine lv_iload_n hx hb dX7_span_9 rfl (lv_at hl 2 rfl) ?_
    refine lv_iconst (v := 0) hx hb dX7_span_10 (by decide) ?_
    refine lv_bipush (v := 6) hx hb dX7_span_11 (by decide) ?_
    replace hf := zb_s hf
    obtain ⟨r13, hr13, hf⟩ := hf
    refine z_Si (rest := []) C0 kX7_30 (c_X7_within l D G p2 0 6 r13 hr13) (List.Perm.refl _) (List.Perm.refl _) rfl ⟨Nat.le_of_ble_eq_true rfl, Nat.le_of_ble_eq_true rfl⟩ (Nat.le_of_ble_eq_true rfl) rfl hl.1 hP hD hS dX7_span_13 (fun H locs hP hD hS => ?_)
    refine lv_if_eq (tgt := 28) hx hb dX7_span_16 (by decide) (fun c16 => ?_) (fun c16 => ?_)
    · replace hf := zi_p hf c16
      refine lv_bipush (v := (-2)) hx hb dX7_span_28 (by decide) ?_
      obtain rfl := zo hf
      exact hret _ _ _ _ _ hP hD hS rfl dX7_span_30
    · replace hf := zi_n hf c16
      refine lv_aload_n hx hb dX7_span_19 rfl (lv_at hl 0 rfl) ?_
      refine lv_iload_n hx hb dX7_span_20 rfl (lv_at hl 1 rfl) ?_
      refine lv_iload_n hx hb dX7_span_21 rfl (lv_at hl 2 rfl) ?_
      replace hf := zb_s hf
      obtain ⟨r22, hr22, hf⟩ := hf
      refine z_Vi (rest := []) C0 kX7_162 (c_X7_ofSpan l D G ad (b) u p1 p2 r22 hr22) z_pall z_pall.symm (ci := 8) (T := TX7) (N := 11) rfl rfl rfl ⟨Nat.le_of_ble_eq_true rfl, Nat.le_of_ble_eq_true rfl⟩ (Nat.le_of_ble_eq_true rfl) rfl hl.1 hP hD hS dX7_span_22 (fun H locs hP hD hS => ?_)
      refine lv_goto (tgt := 30) hx hb dX7_span_25 (by decide) ?_
      obtain rfl := zo hf
      exact hret _ _ _ _ _ hP hD hS rfl dX7_span_30
  · replace hf := zi_p hf c4
    refine lv_iconst (v := (-1)) hx hb dX7_span_7 (by decide) ?_
    obtain rfl := zo hf
    exact hret _ _ _ _ _ hP hD hS rfl dX7_span_8
noncomputable def q_X7_tries_J67 (u : tX7) (x67_4 : Int32) : Option (Int32) :=
  zb (q_X7_spotTries u x67_4) fun r70 => some (r70)
noncomputable def q_X7_tries_J43 (u : tX7) (p1 : Int32) (v29 : Int32 × Int32)  : Option ((Int32 × Int32) ⊕ (Int32)) :=
  zb (q_X7_spotSpan u v29.2) fun r47 => (if r47 = p1 then some (Sum.inl ((v29.1 - 1), (v29.2 + 1))) else some (Sum.inl ((v29.1 - 0), (v29.2 + 1))))
noncomputable def q_X7_tries_L29 (u : tX7) (p1 : Int32) (v29 : Int32 × Int32) : Option ((Int32 × Int32) ⊕ (Int32)) :=
  zb (q_X7_spotSpan u v29.2) fun r32 => (if r32 = p1 then (if v29.1 ≤ 0 then some (Sum.inr (v29.2)) else q_X7_tries_J43 u p1 v29) else q_X7_tries_J43 u p1 v29)
noncomputable def q_X7_tries (u : tX7) (p1 : Int32) (p2 : Int32) : Option (Int32) :=
  zb (q_X7_isSpan p1) fun r1 => (if r1 = 0 then some ((-1)) else zb (q_X7_spotsMany u p1) fun r11 => zb (q_X7_within p2 0 (r11 - 1)) fun r16 => (if r16 = 0 then some ((-1)) else zb (zl 1000000 (q_X7_tries_L29 u p1) (p2, 0)) (fun b29 => q_X7_tries_J67 u b29)))
set_option maxRecDepth 100000 in
set_option maxHeartbeats 4000000 in
theorem c_X7_tries (l : Launch) (D : va_G) (G : zG) (ad : Nat → Nat) (b : Nat) (u : tX7) (p1 : Int32) (p2 : Int32) (res : Int32) (hf : q_X7_tries u p1 p2 = some res) : zMi l yX7_tries cX7_tries 5 (some .int) 2 44 D G (wX7 G ad b u) (wX7 G ad b u) [.ref (ad b), .int p1, .int p2] res := by
  refine zs_i (plainFor_of_name (by decide)) (Nat.le_of_ble_eq_true rfl) ?_
  intro p e s m args below meth c A Q H ls C0 hret hP hD hS hl
  obtain ⟨hx, hb, hml, hown, hW, hK, hlocks, hF, hr, hA⟩ := id C0
  replace hl : lv_has ls 5 [(0, .ref (ad b)), (1, .int p1), (2, .int p2)] := hl
  unfold q_X7_tries at hf
  refine lv_iload_n hx hb dX7_tries_0 rfl (lv_at hl 1 rfl) ?_
  replace hf := zb_s hf
  obtain ⟨r1, hr1, hf⟩ := hf
  refine z_Si (rest := []) C0 kX7_125 (c_X7_isSpan l D G p1 r1 hr1) (List.Perm.refl _) (List.Perm.refl _) rfl ⟨Nat.le_of_ble_eq_true rfl, Nat.le_of_ble_eq_true rfl⟩ (Nat.le_of_ble_eq_true rfl) rfl hl.1 hP hD hS dX7_tries_1 (fun H locs hP hD hS => ?_)
  refine lv_if_eq (tgt := 22) hx hb dX7_tries_4 (by decide) (fun c4 => ?_) (fun c4 => ?_)
  · replace hf := zi_p hf c4
    refine lv_iconst (v := (-1)) hx hb dX7_tries_22 (by decide) ?_
    obtain rfl := zo hf
    exact hret _ _ _ _ _ hP hD hS rfl dX7_tries_23
  · replace hf := zi_n hf c4
    refine lv_iload_n hx hb dX7_tries_7 rfl (lv_at hl 2 rfl) ?_
    refine lv_iconst (v := 0) hx hb dX7_tries_8 (by decide) ?_
    refine lv_aload_n hx hb dX7_tries_9 rfl (lv_at hl 0 rfl) ?_
    refine lv_iload_n hx hb dX7_tries_10 rfl (lv_at hl 1 rfl) ?_
    replace hf := zb_s hf
    obtain ⟨r11, hr11, hf⟩ := hf
    refine z_Vi (rest := [.int 0, .int p2]) C0 kX7_128 (c_X7_spotsMany l D G ad (b) u p1 r11 hr11) z_pall z_pall.symm (ci := 8) (T := TX7) (N := 11) rfl rfl rfl ⟨Nat.le_of_ble_eq_true rfl, Nat.le_of_ble_eq_true rfl⟩ (Nat.le_of_ble_eq_true rfl) rfl hl.1 hP hD hS dX7_tries_11 (fun H locs hP hD hS => ?_)
    refine lv_iconst (v := 1) hx hb dX7_tries_14 (by decide) ?_
    refine lv_isub hx hb dX7_tries_15 ?_
    replace hf := zb_s hf
    obtain ⟨r16, hr16, hf⟩ := hf
    refine z_Si (rest := []) C0 kX7_30 (c_X7_within l D G p2 0 (r11 - 1) r16 hr16) (List.Perm.refl _) (List.Perm.refl _) rfl ⟨Nat.le_of_ble_eq_true rfl, Nat.le_of_ble_eq_true rfl⟩ (Nat.le_of_ble_eq_true rfl) rfl hl.1 hP hD hS dX7_tries_16 (fun H locs hP hD hS => ?_)
    refine lv_if_ne (tgt := 24) hx hb dX7_tries_19 (by decide) (fun c19 => ?_) (fun c19 => ?_)
    · replace hf := zi_n hf c19
      refine lv_iload_n hx hb dX7_tries_24 rfl (lv_at hl 2 rfl) ?_
      refine lv_istore_n (lv' := [(3, .int p2), (0, .ref (ad b)), (1, .int p1), (2, .int p2)]) hx hb dX7_tries_25 rfl hl (by decide) rfl (fun ls hl => ?_)
      refine lv_iconst (v := 0) hx hb dX7_tries_26 (by decide) ?_
      refine lv_istore (lv' := [(4, .int 0), (3, .int p2), (0, .ref (ad b)), (1, .int p1), (2, .int p2)]) hx hb dX7_tries_27 hl (by decide) rfl (fun ls hl => ?_)
      have J67 : ∀ (x67_4 : Int32) (hf : q_X7_tries_J67 u x67_4 = some res) (H : Heap) (locs : List Loc) (hP : va_P D vwCl (wX7 G ad b u) H) (hD : va_D A (wX7 G ad b u)) (hS : va_S A s.heap H locs) (ls : Array Slot) (hl : lv_has ls 5 [(0, .ref (ad b)), (4, .int x67_4)]), W p l e (zRm 2 44) s m args below meth c H locs 0 0 Q (F0 m 67 ls []) := by
        intro x67_4 hf H locs hP hD hS ls hl
        unfold q_X7_tries_J67 at hf
        refine lv_aload_n hx hb dX7_tries_67 rfl (lv_at hl 0 rfl) ?_
        refine lv_iload hx hb dX7_tries_68 (lv_at hl 1 rfl) ?_
        replace hf := zb_s hf
        obtain ⟨r70, hr70, hf⟩ := hf
        refine z_Vi (rest := []) C0 kX7_70 (c_X7_spotTries l D G ad (b) u x67_4 r70 hr70) z_pall z_pall.symm (ci := 8) (T := TX7) (N := 11) rfl rfl rfl ⟨Nat.le_of_ble_eq_true rfl, Nat.le_of_ble_eq_true rfl⟩ (Nat.le_of_ble_eq_true rfl) rfl hl.1 hP hD hS dX7_tries_70 (fun H locs hP hD hS => ?_)
        obtain rfl := zo hf
        exact hret _ _ _ _ _ hP hD hS rfl dX7_tries_73
      replace hf := zb_s hf
      obtain ⟨b29, hz29, hk29⟩ := hf
      have L29 : ∀ (n29 : Nat) (v29 : Int32 × Int32) (hz29 : zl n29 (q_X7_tries_L29 u p1) v29 = some b29) (H : Heap) (locs : List Loc) (hP : va_P D vwCl (wX7 G ad b u) H) (hD : va_D A (wX7 G ad b u)) (hS : va_S A s.heap H locs) (ls : Array Slot) (hl : lv_has ls 5 [(0, .ref (ad b)), (1, .int p1), (3, .int v29.1), (4, .int v29.2)]), W p l e (zRm 2 44) s m args below meth c H locs 0 0 Q (F0 m 29 ls []) := by
        intro n29
        induction n29 with
        | zero => intro v29 hz29; exact (zl_0 hz29).elim
        | succ n29 ih29 =>
          intro v29 hz29 H locs hP hD hS ls hl
          obtain ⟨o29, hf, hz29⟩ := zl_s hz29
          unfold q_X7_tries_L29 at hf
          refine lv_aload_n hx hb dX7_tries_29 rfl (lv_at hl 0 rfl) ?_
          refine lv_iload hx hb dX7_tries_30 (lv_at hl 3 rfl) ?_
          replace hf := zb_s hf
          obtain ⟨r32, hr32, hf⟩ := hf
          refine z_Vi (rest := []) C0 kX7_73 (c_X7_spotSpan l D G ad (b) u v29.2 r32 hr32) z_pall z_pall.symm (ci := 8) (T := TX7) (N := 11) rfl rfl rfl ⟨Nat.le_of_ble_eq_true rfl, Nat.le_of_ble_eq_true rfl⟩ (Nat.le_of_ble_eq_true rfl) rfl hl.1 hP hD hS dX7_tries_32 (fun H locs hP hD hS => ?_)
          refine lv_iload_n hx hb dX7_tries_35 rfl (lv_at hl 1 rfl) ?_
          have J43 : ∀ (hf : q_X7_tries_J43 u p1 v29 = some o29) (H : Heap) (locs : List Loc) (hP : va_P D vwCl (wX7 G ad b u) H) (hD : va_D A (wX7 G ad b u)) (hS : va_S A s.heap H locs) (ls : Array Slot) (hl : lv_has ls 5 [(0, .ref (ad b)), (1, .int p1), (3, .int v29.1), (4, .int v29.2)]), W p l e (zRm 2 44) s m args below meth c H locs 0 0 Q (F0 m 43 ls []) := by
            intro  hf H locs hP hD hS ls hl
            unfold q_X7_tries_J43 at hf
            refine lv_iload_n hx hb dX7_tries_43 rfl (lv_at hl 2 rfl) ?_
            refine lv_aload_n hx hb dX7_tries_44 rfl (lv_at hl 0 rfl) ?_
            refine lv_iload hx hb dX7_tries_45 (lv_at hl 3 rfl) ?_
            replace hf := zb_s hf
            obtain ⟨r47, hr47, hf⟩ := hf
            refine z_Vi (rest := [.int v29.1]) C0 kX7_73 (c_X7_spotSpan l D G ad (b) u v29.2 r47 hr47) z_pall z_pall.symm (ci := 8) (T := TX7) (N := 11) rfl rfl rfl ⟨Nat.le_of_ble_eq_true rfl, Nat.le_of_ble_eq_true rfl⟩ (Nat.le_of_ble_eq_true rfl) rfl hl.1 hP hD hS dX7_tries_47 (fun H locs hP hD hS => ?_)
            refine lv_iload_n hx hb dX7_tries_50 rfl (lv_at hl 1 rfl) ?_
            refine lv_icmp_ne (tgt := 58) hx hb dX7_tries_51 (by decide) (fun c51 => ?_) (fun c51 => ?_)
            · replace hf := zi_n hf c51
              refine lv_iconst (v := 0) hx hb dX7_tries_58 (by decide) ?_
              refine lv_isub hx hb dX7_tries_59 ?_
              refine lv_istore_n (lv' := [(3, .int (v29.1 - 0)), (0, .ref (ad b)), (1, .int p1), (4, .int v29.2)]) hx hb dX7_tries_60 rfl hl (by decide) rfl (fun ls hl => ?_)
              refine lv_iinc (v := (v29.2 + 1)) (lv' := [(4, .int (v29.2 + 1)), (3, .int (v29.1 - 0)), (0, .ref (ad b)), (1, .int p1)]) hx hb dX7_tries_61 hl (k := 3) rfl rfl (by decide) rfl (fun ls hl => ?_)
              refine lv_goto (tgt := 29) hx hb dX7_tries_64 (by decide) ?_
              exact ih29 _ (zk_l hf hz29) _ _ hP hD hS _ (lv_sub hl [2, 3, 1, 0] rfl)
            · replace hf := zi_p hf c51
              refine lv_iconst (v := 1) hx hb dX7_tries_54 (by decide) ?_
              refine lv_goto (tgt := 59) hx hb dX7_tries_55 (by decide) ?_
              refine lv_isub hx hb dX7_tries_59 ?_
              refine lv_istore_n (lv' := [(3, .int (v29.1 - 1)), (0, .ref (ad b)), (1, .int p1), (4, .int v29.2)]) hx hb dX7_tries_60 rfl hl (by decide) rfl (fun ls hl => ?_)
              refine lv_iinc (v := (v29.2 + 1)) (lv' := [(4, .int (v29.2 + 1)), (3, .int (v29.1 - 1)), (0, .ref (ad b)), (1, .int p1)]) hx hb dX7_tries_61 hl (k := 3) rfl rfl (by decide) rfl (fun ls hl => ?_)
              refine lv_goto (tgt := 29) hx hb dX7_tries_64 (by decide) ?_
              exact ih29 _ (zk_l hf hz29) _ _ hP hD hS _ (lv_sub hl [2, 3, 1, 0] rfl)
          refine lv_icmp_ne (tgt := 43) hx hb dX7_tries_36 (by decide) (fun c36 => ?_) (fun c36 => ?_)
          · replace hf := zi_n hf c36
            exact J43 hf _ _ hP hD hS _ (lv_sub hl [0, 1, 2, 3] rfl)
          · replace hf := zi_p hf c36
            refine lv_iload_n hx hb dX7_tries_39 rfl (lv_at hl 2 rfl) ?_
            refine lv_if_le (tgt := 67) hx hb dX7_tries_40 (by decide) (fun c40 => ?_) (fun c40 => ?_)
            · replace hf := zi_p hf c40
              have hb29 := zk_r hf hz29
              subst hb29
              replace hf := hk29
              exact J67 v29.2 hf _ _ hP hD hS _ (lv_sub hl [0, 3] rfl)
            · replace hf := zi_n hf c40
              exact J43 hf _ _ hP hD hS _ (lv_sub hl [0, 1, 2, 3] rfl)
      exact L29 _ _ hz29 _ _ hP hD hS _ (lv_sub hl [2, 3, 1, 0] rfl)
    · replace hf := zi_p hf c19
      refine lv_iconst (v := (-1)) hx hb dX7_tries_22 (by decide) ?_
      obtain rfl := zo hf
      exact hret _ _ _ _ _ hP hD hS rfl dX7_tries_23
noncomputable def q_X7_entries (u : tX7) : Option (Int32) :=
  zb (q_X7_entriesMany u) fun r1 => some (r1)
set_option maxRecDepth 100000 in
set_option maxHeartbeats 4000000 in
theorem c_X7_entries (l : Launch) (D : va_G) (G : zG) (ad : Nat → Nat) (b : Nat) (u : tX7) (res : Int32) (hf : q_X7_entries u = some res) : zMi l yX7_entries cX7_entries 1 (some .int) 1 20 D G (wX7 G ad b u) (wX7 G ad b u) [.ref (ad b)] res := by
  refine zs_i (plainFor_of_name (by decide)) (Nat.le_of_ble_eq_true rfl) ?_
  intro p e s m args below meth c A Q H ls C0 hret hP hD hS hl
  obtain ⟨hx, hb, hml, hown, hW, hK, hlocks, hF, hr, hA⟩ := id C0
  replace hl : lv_has ls 1 [(0, .ref (ad b))] := hl
  unfold q_X7_entries at hf
  refine lv_aload_n hx hb dX7_entries_0 rfl (lv_at hl 0 rfl) ?_
  replace hf := zb_s hf
  obtain ⟨r1, hr1, hf⟩ := hf
  refine z_Vi (rest := []) C0 kX7_34 (c_X7_entriesMany l D G ad (b) u r1 hr1) z_pall z_pall.symm (ci := 8) (T := TX7) (N := 11) rfl rfl rfl ⟨Nat.le_of_ble_eq_true rfl, Nat.le_of_ble_eq_true rfl⟩ (Nat.le_of_ble_eq_true rfl) rfl hl.1 hP hD hS dX7_entries_1 (fun H locs hP hD hS => ?_)
  obtain rfl := zo hf
  exact hret _ _ _ _ _ hP hD hS rfl dX7_entries_4
theorem kX7_165 : zLkV RX7 165 yX7_isEntry cX7_isEntry 2 (some .boolean) 1 := ⟨⟨wd_797, wd_798, wd_799, wd_5, wd_800⟩, by decide +kernel⟩
theorem kX7_168 : zLkV RX7 168 yX7_lineLength cX7_lineLength 2 (some .int) 1 := ⟨⟨wd_801, wd_802, wd_803, wd_5, wd_804⟩, by decide +kernel⟩
noncomputable def q_X7_entry (u : tX7) (p1 : Int32) (p2 : Int32) : Option (Int32) :=
  zb (q_X7_isEntry u p1) fun r2 => (if r2 = 0 then some ((-1)) else zb (q_X7_within p2 0 3) fun r13 => (if r13 = 0 then some ((-2)) else (if p2 = 3 then zb (q_X7_lineLength u p1) fun r31 => some (r31) else zb (q_X7_entryPart u p1 p2) fun r40 => some (r40))))
set_option maxRecDepth 100000 in
set_option maxHeartbeats 4000000 in
theorem c_X7_entry (l : Launch) (D : va_G) (G : zG) (ad : Nat → Nat) (b : Nat) (u : tX7) (p1 : Int32) (p2 : Int32) (res : Int32) (hf : q_X7_entry u p1 p2 = some res) : zMi l yX7_entry cX7_entry 3 (some .int) 3 64 D G (wX7 G ad b u) (wX7 G ad b u) [.ref (ad b), .int p1, .int p2] res := by
  refine zs_i (plainFor_of_name (by decide)) (Nat.le_of_ble_eq_true rfl) ?_
  intro p e s m args below meth c A Q H ls C0 hret hP hD hS hl
  obtain ⟨hx, hb, hml, hown, hW, hK, hlocks, hF, hr, hA⟩ := id C0
  replace hl : lv_has ls 3 [(0, .ref (ad b)), (1, .int p1), (2, .int p2)] := hl
  unfold q_X7_entry at hf
  refine lv_aload_n hx hb dX7_entry_0 rfl (lv_at hl 0 rfl) ?_
  refine lv_iload_n hx hb dX7_entry_1 rfl (lv_at hl 1 rfl) ?_
  replace hf := zb_s hf
  obtain ⟨r2, hr2, hf⟩ := hf
  refine z_Vi (rest := []) C0 kX7_165 (c_X7_isEntry l D G ad (b) u p1 r2 hr2) z_pall z_pall.symm (ci := 8) (T := TX7) (N := 11) rfl rfl rfl ⟨Nat.le_of_ble_eq_true rfl, Nat.le_of_ble_eq_true rfl⟩ (Nat.le_of_ble_eq_true rfl) rfl hl.1 hP hD hS dX7_entry_2 (fun H locs hP hD hS => ?_)
  refine lv_if_ne (tgt := 10) hx hb dX7_entry_5 (by decide) (fun c5 => ?_) (fun c5 => ?_)
  · replace hf := zi_n hf c5
    refine lv_iload_n hx hb dX7_entry_10 rfl (lv_at hl 2 rfl) ?_
    refine lv_iconst (v := 0) hx hb dX7_entry_11 (by decide) ?_
    refine lv_iconst (v := 3) hx hb dX7_entry_12 (by decide) ?_
    replace hf := zb_s hf
    obtain ⟨r13, hr13, hf⟩ := hf
    refine z_Si (rest := []) C0 kX7_30 (c_X7_within l D G p2 0 3 r13 hr13) (List.Perm.refl _) (List.Perm.refl _) rfl ⟨Nat.le_of_ble_eq_true rfl, Nat.le_of_ble_eq_true rfl⟩ (Nat.le_of_ble_eq_true rfl) rfl hl.1 hP hD hS dX7_entry_13 (fun H locs hP hD hS => ?_)
    refine lv_if_ne (tgt := 24) hx hb dX7_entry_16 (by decide) (fun c16 => ?_) (fun c16 => ?_)
    · replace hf := zi_n hf c16
      refine lv_iload_n hx hb dX7_entry_24 rfl (lv_at hl 2 rfl) ?_
      refine lv_iconst (v := 3) hx hb dX7_entry_25 (by decide) ?_
      refine lv_icmp_ne (tgt := 37) hx hb dX7_entry_26 (by decide) (fun c26 => ?_) (fun c26 => ?_)
      · replace hf := zi_n hf c26
        refine lv_aload_n hx hb dX7_entry_37 rfl (lv_at hl 0 rfl) ?_
        refine lv_iload_n hx hb dX7_entry_38 rfl (lv_at hl 1 rfl) ?_
        refine lv_iload_n hx hb dX7_entry_39 rfl (lv_at hl 2 rfl) ?_
        replace hf := zb_s hf
        obtain ⟨r40, hr40, hf⟩ := hf
        refine z_Vi (rest := []) C0 kX7_54 (c_X7_entryPart l D G ad (b) u p1 p2 r40 hr40) z_pall z_pall.symm (ci := 8) (T := TX7) (N := 11) rfl rfl rfl ⟨Nat.le_of_ble_eq_true rfl, Nat.le_of_ble_eq_true rfl⟩ (Nat.le_of_ble_eq_true rfl) rfl hl.1 hP hD hS dX7_entry_40 (fun H locs hP hD hS => ?_)
        obtain rfl := zo hf
        exact hret _ _ _ _ _ hP hD hS rfl dX7_entry_43
      · replace hf := zi_p hf c26
        refine lv_aload_n hx hb dX7_entry_29 rfl (lv_at hl 0 rfl) ?_
        refine lv_iload_n hx hb dX7_entry_30 rfl (lv_at hl 1 rfl) ?_
        replace hf := zb_s hf
        obtain ⟨r31, hr31, hf⟩ := hf
        refine z_Vi (rest := []) C0 kX7_168 (c_X7_lineLength l D G ad (b) u p1 r31 hr31) z_pall z_pall.symm (ci := 8) (T := TX7) (N := 11) rfl rfl rfl ⟨Nat.le_of_ble_eq_true rfl, Nat.le_of_ble_eq_true rfl⟩ (Nat.le_of_ble_eq_true rfl) rfl hl.1 hP hD hS dX7_entry_31 (fun H locs hP hD hS => ?_)
        refine lv_goto (tgt := 43) hx hb dX7_entry_34 (by decide) ?_
        obtain rfl := zo hf
        exact hret _ _ _ _ _ hP hD hS rfl dX7_entry_43
    · replace hf := zi_p hf c16
      refine lv_bipush (v := (-2)) hx hb dX7_entry_19 (by decide) ?_
      refine lv_goto (tgt := 43) hx hb dX7_entry_21 (by decide) ?_
      obtain rfl := zo hf
      exact hret _ _ _ _ _ hP hD hS rfl dX7_entry_43
  · replace hf := zi_p hf c5
    refine lv_iconst (v := (-1)) hx hb dX7_entry_8 (by decide) ?_
    obtain rfl := zo hf
    exact hret _ _ _ _ _ hP hD hS rfl dX7_entry_9
theorem kX7_171 : zLkV RX7 171 yX7_lineCharacter cX7_lineCharacter 7 (some .int) 2 := ⟨⟨wd_845, wd_846, wd_847, wd_5, wd_848⟩, by decide +kernel⟩
noncomputable def q_X7_lineAt (u : tX7) (p1 : Int32) (p2 : Int32) : Option (Int32) :=
  zb (q_X7_isEntry u p1) fun r2 => (if r2 = 0 then some ((-1)) else zb (q_X7_lineLength u p1) fun r12 => zb (q_X7_within p2 0 (r12 - 1)) fun r17 => (if r17 = 0 then some ((-1)) else zb (q_X7_lineCharacter u p1 p2) fun r26 => some (r26)))
set_option maxRecDepth 100000 in
set_option maxHeartbeats 4000000 in
theorem c_X7_lineAt (l : Launch) (D : va_G) (G : zG) (ad : Nat → Nat) (b : Nat) (u : tX7) (p1 : Int32) (p2 : Int32) (res : Int32) (hf : q_X7_lineAt u p1 p2 = some res) : zMi l yX7_lineAt cX7_lineAt 3 (some .int) 3 69 D G (wX7 G ad b u) (wX7 G ad b u) [.ref (ad b), .int p1, .int p2] res := by
  refine zs_i (plainFor_of_name (by decide)) (Nat.le_of_ble_eq_true rfl) ?_
  intro p e s m args below meth c A Q H ls C0 hret hP hD hS hl
  obtain ⟨hx, hb, hml, hown, hW, hK, hlocks, hF, hr, hA⟩ := id C0
  replace hl : lv_has ls 3 [(0, .ref (ad b)), (1, .int p1), (2, .int p2)] := hl
  unfold q_X7_lineAt at hf
  refine lv_aload_n hx hb dX7_lineAt_0 rfl (lv_at hl 0 rfl) ?_
  refine lv_iload_n hx hb dX7_lineAt_1 rfl (lv_at hl 1 rfl) ?_
  replace hf := zb_s hf
  obtain ⟨r2, hr2, hf⟩ := hf
  refine z_Vi (rest := []) C0 kX7_165 (c_X7_isEntry l D G ad (b) u p1 r2 hr2) z_pall z_pall.symm (ci := 8) (T := TX7) (N := 11) rfl rfl rfl ⟨Nat.le_of_ble_eq_true rfl, Nat.le_of_ble_eq_true rfl⟩ (Nat.le_of_ble_eq_true rfl) rfl hl.1 hP hD hS dX7_lineAt_2 (fun H locs hP hD hS => ?_)
  refine lv_if_eq (tgt := 32) hx hb dX7_lineAt_5 (by decide) (fun c5 => ?_) (fun c5 => ?_)
  · replace hf := zi_p hf c5
    refine lv_iconst (v := (-1)) hx hb dX7_lineAt_32 (by decide) ?_
    obtain rfl := zo hf
    exact hret _ _ _ _ _ hP hD hS rfl dX7_lineAt_33
  · replace hf := zi_n hf c5
    refine lv_iload_n hx hb dX7_lineAt_8 rfl (lv_at hl 2 rfl) ?_
    refine lv_iconst (v := 0) hx hb dX7_lineAt_9 (by decide) ?_
    refine lv_aload_n hx hb dX7_lineAt_10 rfl (lv_at hl 0 rfl) ?_
    refine lv_iload_n hx hb dX7_lineAt_11 rfl (lv_at hl 1 rfl) ?_
    replace hf := zb_s hf
    obtain ⟨r12, hr12, hf⟩ := hf
    refine z_Vi (rest := [.int 0, .int p2]) C0 kX7_168 (c_X7_lineLength l D G ad (b) u p1 r12 hr12) z_pall z_pall.symm (ci := 8) (T := TX7) (N := 11) rfl rfl rfl ⟨Nat.le_of_ble_eq_true rfl, Nat.le_of_ble_eq_true rfl⟩ (Nat.le_of_ble_eq_true rfl) rfl hl.1 hP hD hS dX7_lineAt_12 (fun H locs hP hD hS => ?_)
    refine lv_iconst (v := 1) hx hb dX7_lineAt_15 (by decide) ?_
    refine lv_isub hx hb dX7_lineAt_16 ?_
    replace hf := zb_s hf
    obtain ⟨r17, hr17, hf⟩ := hf
    refine z_Si (rest := []) C0 kX7_30 (c_X7_within l D G p2 0 (r12 - 1) r17 hr17) (List.Perm.refl _) (List.Perm.refl _) rfl ⟨Nat.le_of_ble_eq_true rfl, Nat.le_of_ble_eq_true rfl⟩ (Nat.le_of_ble_eq_true rfl) rfl hl.1 hP hD hS dX7_lineAt_17 (fun H locs hP hD hS => ?_)
    refine lv_if_eq (tgt := 32) hx hb dX7_lineAt_20 (by decide) (fun c20 => ?_) (fun c20 => ?_)
    · replace hf := zi_p hf c20
      refine lv_iconst (v := (-1)) hx hb dX7_lineAt_32 (by decide) ?_
      obtain rfl := zo hf
      exact hret _ _ _ _ _ hP hD hS rfl dX7_lineAt_33
    · replace hf := zi_n hf c20
      refine lv_aload_n hx hb dX7_lineAt_23 rfl (lv_at hl 0 rfl) ?_
      refine lv_iload_n hx hb dX7_lineAt_24 rfl (lv_at hl 1 rfl) ?_
      refine lv_iload_n hx hb dX7_lineAt_25 rfl (lv_at hl 2 rfl) ?_
      replace hf := zb_s hf
      obtain ⟨r26, hr26, hf⟩ := hf
      refine z_Vi (rest := []) C0 kX7_171 (c_X7_lineCharacter l D G ad (b) u p1 p2 r26 hr26) z_pall z_pall.symm (ci := 8) (T := TX7) (N := 11) rfl rfl rfl ⟨Nat.le_of_ble_eq_true rfl, Nat.le_of_ble_eq_true rfl⟩ (Nat.le_of_ble_eq_true rfl) rfl hl.1 hP hD hS dX7_lineAt_26 (fun H locs hP hD hS => ?_)
      refine lv_goto (tgt := 33) hx hb dX7_lineAt_29 (by decide) ?_
      obtain rfl := zo hf
      exact hret _ _ _ _ _ hP hD hS rfl dX7_lineAt_33
theorem kX7_174 : zLkV RX7 174 yX7_overdueMany cX7_overdueMany 3 (some .int) 0 := ⟨⟨wd_862, wd_863, wd_864, wd_5, wd_865⟩, by decide +kernel⟩
noncomputable def q_X7_overdue (u : tX7) : Option (Int32) :=
  zb (q_X7_overdueMany u) fun r1 => some (r1)
set_option maxRecDepth 100000 in
set_option maxHeartbeats 4000000 in
theorem c_X7_overdue (l : Launch) (D : va_G) (G : zG) (ad : Nat → Nat) (b : Nat) (u : tX7) (res : Int32) (hf : q_X7_overdue u = some res) : zMi l yX7_overdue cX7_overdue 1 (some .int) 2 43 D G (wX7 G ad b u) (wX7 G ad b u) [.ref (ad b)] res := by
  refine zs_i (plainFor_of_name (by decide)) (Nat.le_of_ble_eq_true rfl) ?_
  intro p e s m args below meth c A Q H ls C0 hret hP hD hS hl
  obtain ⟨hx, hb, hml, hown, hW, hK, hlocks, hF, hr, hA⟩ := id C0
  replace hl : lv_has ls 1 [(0, .ref (ad b))] := hl
  unfold q_X7_overdue at hf
  refine lv_aload_n hx hb dX7_overdue_0 rfl (lv_at hl 0 rfl) ?_
  replace hf := zb_s hf
  obtain ⟨r1, hr1, hf⟩ := hf
  refine z_Vi (rest := []) C0 kX7_174 (c_X7_overdueMany l D G ad (b) u r1 hr1) z_pall z_pall.symm (ci := 8) (T := TX7) (N := 11) rfl rfl rfl ⟨Nat.le_of_ble_eq_true rfl, Nat.le_of_ble_eq_true rfl⟩ (Nat.le_of_ble_eq_true rfl) rfl hl.1 hP hD hS dX7_overdue_1 (fun H locs hP hD hS => ?_)
  obtain rfl := zo hf
  exact hret _ _ _ _ _ hP hD hS rfl dX7_overdue_4
noncomputable def q_X7_nextCheck (u : tX7) : Option (Int32) :=
  zb (q_X7_nextSpan u) fun r1 => some (r1)
set_option maxRecDepth 100000 in
set_option maxHeartbeats 4000000 in
theorem c_X7_nextCheck (l : Launch) (D : va_G) (G : zG) (ad : Nat → Nat) (b : Nat) (u : tX7) (res : Int32) (hf : q_X7_nextCheck u = some res) : zMi l yX7_nextCheck cX7_nextCheck 1 (some .int) 4 91 D G (wX7 G ad b u) (wX7 G ad b u) [.ref (ad b)] res := by
  refine zs_i (plainFor_of_name (by decide)) (Nat.le_of_ble_eq_true rfl) ?_
  intro p e s m args below meth c A Q H ls C0 hret hP hD hS hl
  obtain ⟨hx, hb, hml, hown, hW, hK, hlocks, hF, hr, hA⟩ := id C0
  replace hl : lv_has ls 1 [(0, .ref (ad b))] := hl
  unfold q_X7_nextCheck at hf
  refine lv_aload_n hx hb dX7_nextCheck_0 rfl (lv_at hl 0 rfl) ?_
  replace hf := zb_s hf
  obtain ⟨r1, hr1, hf⟩ := hf
  refine z_Vi (rest := []) C0 kX7_86 (c_X7_nextSpan l D G ad (b) u r1 hr1) z_pall z_pall.symm (ci := 8) (T := TX7) (N := 11) rfl rfl rfl ⟨Nat.le_of_ble_eq_true rfl, Nat.le_of_ble_eq_true rfl⟩ (Nat.le_of_ble_eq_true rfl) rfl hl.1 hP hD hS dX7_nextCheck_1 (fun H locs hP hD hS => ?_)
  obtain rfl := zo hf
  exact hret _ _ _ _ _ hP hD hS rfl dX7_nextCheck_4
noncomputable def q_X7_checkedIn_J61 (r19 : (Nat → Int32)) (x61_2 : Int32) (w61_0 : Nat → Int32) : Option (Int32 × (Nat → Int32) × (Nat → Int32)) :=
  zb (q_X7_copies 104 104 r19 w61_0 0 0) fun r71 => some (x61_2, r71, r19)
noncomputable def q_X7_checkedIn_L27 (u : tX7) (p1 : Int32) (r19 : (Nat → Int32)) (v27 : Int32 × Int32 × (Nat → Int32)) : Option ((Int32 × Int32 × (Nat → Int32)) ⊕ (Int32 × (Nat → Int32))) :=
  (if 3000 < v27.2.1 then some (Sum.inr (v27.1, v27.2.2)) else (if v27.1 = (-6) then zb (q_X7_passesTick (v27.2.2, r19, u.2.2.1, u.2.2.2.1, u.2.2.2.2.1, u.2.2.2.2.2.1, u.2.2.2.2.2.2.1, u.2.2.2.2.2.2.2.1, u.2.2.2.2.2.2.2.2.1, u.2.2.2.2.2.2.2.2.2.1, u.2.2.2.2.2.2.2.2.2.2)) fun r41 => (if r41.1 = p1 then some (Sum.inl (v27.2.1, (v27.2.1 + 1), r41.2)) else some (Sum.inl ((-6), (v27.2.1 + 1), r41.2))) else some (Sum.inr (v27.1, v27.2.2))))
noncomputable def q_X7_checkedIn (u : tX7) (p1 : Int32) : Option (Int32 × (Nat → Int32) × (Nat → Int32)) :=
  zb (q_X7_isSpan p1) fun r1 => (if r1 = 0 then some ((-1), u.1, u.2.1) else zb (q_X7_copies 104 104 u.1 u.2.1 0 0) fun r19 => zb (zl 1000000 (q_X7_checkedIn_L27 u p1 r19) ((-6), 1, u.1)) (fun b27 => q_X7_checkedIn_J61 r19 b27.1 b27.2))
set_option maxRecDepth 100000 in
set_option maxHeartbeats 4000000 in
theorem c_X7_checkedIn (l : Launch) (D : va_G) (G : zG) (ad : Nat → Nat) (b : Nat) (u : tX7) (p1 : Int32) (res : Int32 × (Nat → Int32) × (Nat → Int32)) (hf : q_X7_checkedIn u p1 = some res) : zMi l yX7_checkedIn cX7_checkedIn 4 (some .int) 6 133 D G (wX7 G ad b u) (wX7 G ad b (res.2.1, res.2.2, u.2.2.1, u.2.2.2.1, u.2.2.2.2.1, u.2.2.2.2.2.1, u.2.2.2.2.2.2.1, u.2.2.2.2.2.2.2.1, u.2.2.2.2.2.2.2.2.1, u.2.2.2.2.2.2.2.2.2.1, u.2.2.2.2.2.2.2.2.2.2)) [.ref (ad b), .int p1] res.1 := by
  refine zs_i (plainFor_of_name (by decide)) (Nat.le_of_ble_eq_true rfl) ?_
  intro p e s m args below meth c A Q H ls C0 hret hP hD hS hl
  obtain ⟨hx, hb, hml, hown, hW, hK, hlocks, hF, hr, hA⟩ := id C0
  replace hl : lv_has ls 4 [(0, .ref (ad b)), (1, .int p1)] := hl
  unfold q_X7_checkedIn at hf
  refine lv_iload_n hx hb dX7_checkedIn_0 rfl (lv_at hl 1 rfl) ?_
  replace hf := zb_s hf
  obtain ⟨r1, hr1, hf⟩ := hf
  refine z_Si (rest := []) C0 kX7_125 (c_X7_isSpan l D G p1 r1 hr1) (List.Perm.refl _) (List.Perm.refl _) rfl ⟨Nat.le_of_ble_eq_true rfl, Nat.le_of_ble_eq_true rfl⟩ (Nat.le_of_ble_eq_true rfl) rfl hl.1 hP hD hS dX7_checkedIn_1 (fun H locs hP hD hS => ?_)
  refine lv_if_ne (tgt := 9) hx hb dX7_checkedIn_4 (by decide) (fun c4 => ?_) (fun c4 => ?_)
  · replace hf := zi_n hf c4
    refine lv_aload_n hx hb dX7_checkedIn_9 rfl (lv_at hl 0 rfl) ?_
    refine va_get (D := D) (ci := 8) (v := .ref (ad (b + 1))) (C := RX7) (T := TX7) (N := 11) hx hb hW inlX7 hown hK hP 0 rfl rfl 0 (by decide) (hW _ wd_127) (fun _ h9 => h9) rfl dX7_checkedIn_10 ?_
    refine lv_iconst (v := 0) hx hb dX7_checkedIn_13 (by decide) ?_
    refine lv_aload_n hx hb dX7_checkedIn_14 rfl (lv_at hl 0 rfl) ?_
    refine va_get (D := D) (ci := 8) (v := .ref (ad (b + 2))) (C := RX7) (T := TX7) (N := 11) hx hb hW inlX7 hown hK hP 0 rfl rfl 1 (by decide) (hW _ wd_128) (fun _ h9 => h9) rfl dX7_checkedIn_15 ?_
    refine lv_iconst (v := 0) hx hb dX7_checkedIn_18 (by decide) ?_
    replace hf := zb_s hf
    obtain ⟨r19, hr19, hf⟩ := hf
    refine z_Sv (rest := []) C0 kX7_26 (c_X7_copies l D G ad (b + 1) ad (b + 2) 104 104 u.1 u.2.1 0 0 r19 hr19) (pmX7_state_kept G ad b u) (pnX7_state_kept G ad b u r19) rfl ⟨Nat.le_of_ble_eq_true rfl, Nat.le_of_ble_eq_true rfl⟩ (Nat.le_of_ble_eq_true rfl) rfl hl.1 hP hD hS dX7_checkedIn_19 (fun H locs hP hD hS => ?_)
    replace hP : va_P D vwCl (wX7 G ad b (u.1, r19, u.2.2.1, u.2.2.2.1, u.2.2.2.2.1, u.2.2.2.2.2.1, u.2.2.2.2.2.2.1, u.2.2.2.2.2.2.2.1, u.2.2.2.2.2.2.2.2.1, u.2.2.2.2.2.2.2.2.2.1, u.2.2.2.2.2.2.2.2.2.2)) H := hP
    replace hD : va_D A (wX7 G ad b (u.1, r19, u.2.2.1, u.2.2.2.1, u.2.2.2.2.1, u.2.2.2.2.2.1, u.2.2.2.2.2.2.1, u.2.2.2.2.2.2.2.1, u.2.2.2.2.2.2.2.2.1, u.2.2.2.2.2.2.2.2.2.1, u.2.2.2.2.2.2.2.2.2.2)) := hD
    refine lv_bipush (v := (-6)) hx hb dX7_checkedIn_22 (by decide) ?_
    refine lv_istore_n (lv' := [(2, .int (-6)), (0, .ref (ad b)), (1, .int p1)]) hx hb dX7_checkedIn_24 rfl hl (by decide) rfl (fun ls hl => ?_)
    refine lv_iconst (v := 1) hx hb dX7_checkedIn_25 (by decide) ?_
    refine lv_istore_n (lv' := [(3, .int 1), (2, .int (-6)), (0, .ref (ad b)), (1, .int p1)]) hx hb dX7_checkedIn_26 rfl hl (by decide) rfl (fun ls hl => ?_)
    have J61 : ∀ (x61_2 : Int32) (w61_0 : Nat → Int32) (hf : q_X7_checkedIn_J61 r19 x61_2 w61_0 = some res) (H : Heap) (locs : List Loc) (hP : va_P D vwCl (wX7 G ad b (w61_0, r19, u.2.2.1, u.2.2.2.1, u.2.2.2.2.1, u.2.2.2.2.2.1, u.2.2.2.2.2.2.1, u.2.2.2.2.2.2.2.1, u.2.2.2.2.2.2.2.2.1, u.2.2.2.2.2.2.2.2.2.1, u.2.2.2.2.2.2.2.2.2.2)) H) (hD : va_D A (wX7 G ad b (w61_0, r19, u.2.2.1, u.2.2.2.1, u.2.2.2.2.1, u.2.2.2.2.2.1, u.2.2.2.2.2.2.1, u.2.2.2.2.2.2.2.1, u.2.2.2.2.2.2.2.2.1, u.2.2.2.2.2.2.2.2.2.1, u.2.2.2.2.2.2.2.2.2.2))) (hS : va_S A s.heap H locs) (ls : Array Slot) (hl : lv_has ls 4 [(0, .ref (ad b)), (2, .int x61_2)]), W p l e (zRm 6 133) s m args below meth c H locs 0 0 Q (F0 m 61 ls []) := by
      intro x61_2 w61_0 hf H locs hP hD hS ls hl
      unfold q_X7_checkedIn_J61 at hf
      refine lv_aload_n hx hb dX7_checkedIn_61 rfl (lv_at hl 0 rfl) ?_
      refine va_get (D := D) (ci := 8) (v := .ref (ad (b + 2))) (C := RX7) (T := TX7) (N := 11) hx hb hW inlX7 hown hK hP 0 rfl rfl 1 (by decide) (hW _ wd_128) (fun _ h9 => h9) rfl dX7_checkedIn_62 ?_
      refine lv_iconst (v := 0) hx hb dX7_checkedIn_65 (by decide) ?_
      refine lv_aload_n hx hb dX7_checkedIn_66 rfl (lv_at hl 0 rfl) ?_
      refine va_get (D := D) (ci := 8) (v := .ref (ad (b + 1))) (C := RX7) (T := TX7) (N := 11) hx hb hW inlX7 hown hK hP 0 rfl rfl 0 (by decide) (hW _ wd_127) (fun _ h9 => h9) rfl dX7_checkedIn_67 ?_
      refine lv_iconst (v := 0) hx hb dX7_checkedIn_70 (by decide) ?_
      replace hf := zb_s hf
      obtain ⟨r71, hr71, hf⟩ := hf
      refine z_Sv (rest := []) C0 kX7_26 (c_X7_copies l D G ad (b + 2) ad (b + 1) 104 104 r19 w61_0 0 0 r71 hr71) (pmX7_kept_state G ad b (w61_0, r19, u.2.2.1, u.2.2.2.1, u.2.2.2.2.1, u.2.2.2.2.2.1, u.2.2.2.2.2.2.1, u.2.2.2.2.2.2.2.1, u.2.2.2.2.2.2.2.2.1, u.2.2.2.2.2.2.2.2.2.1, u.2.2.2.2.2.2.2.2.2.2)) (pnX7_kept_state G ad b (w61_0, r19, u.2.2.1, u.2.2.2.1, u.2.2.2.2.1, u.2.2.2.2.2.1, u.2.2.2.2.2.2.1, u.2.2.2.2.2.2.2.1, u.2.2.2.2.2.2.2.2.1, u.2.2.2.2.2.2.2.2.2.1, u.2.2.2.2.2.2.2.2.2.2) r71) rfl ⟨Nat.le_of_ble_eq_true rfl, Nat.le_of_ble_eq_true rfl⟩ (Nat.le_of_ble_eq_true rfl) rfl hl.1 hP hD hS dX7_checkedIn_71 (fun H locs hP hD hS => ?_)
      replace hP : va_P D vwCl (wX7 G ad b (r71, r19, u.2.2.1, u.2.2.2.1, u.2.2.2.2.1, u.2.2.2.2.2.1, u.2.2.2.2.2.2.1, u.2.2.2.2.2.2.2.1, u.2.2.2.2.2.2.2.2.1, u.2.2.2.2.2.2.2.2.2.1, u.2.2.2.2.2.2.2.2.2.2)) H := hP
      replace hD : va_D A (wX7 G ad b (r71, r19, u.2.2.1, u.2.2.2.1, u.2.2.2.2.1, u.2.2.2.2.2.1, u.2.2.2.2.2.2.1, u.2.2.2.2.2.2.2.1, u.2.2.2.2.2.2.2.2.1, u.2.2.2.2.2.2.2.2.2.1, u.2.2.2.2.2.2.2.2.2.2)) := hD
      refine lv_iload_n hx hb dX7_checkedIn_74 rfl (lv_at hl 1 rfl) ?_
      obtain rfl := zo hf
      exact hret _ _ _ _ _ hP hD hS rfl dX7_checkedIn_75
    replace hf := zb_s hf
    obtain ⟨b27, hz27, hk27⟩ := hf
    have L27 : ∀ (n27 : Nat) (v27 : Int32 × Int32 × (Nat → Int32)) (hz27 : zl n27 (q_X7_checkedIn_L27 u p1 r19) v27 = some b27) (H : Heap) (locs : List Loc) (hP : va_P D vwCl (wX7 G ad b (v27.2.2, r19, u.2.2.1, u.2.2.2.1, u.2.2.2.2.1, u.2.2.2.2.2.1, u.2.2.2.2.2.2.1, u.2.2.2.2.2.2.2.1, u.2.2.2.2.2.2.2.2.1, u.2.2.2.2.2.2.2.2.2.1, u.2.2.2.2.2.2.2.2.2.2)) H) (hD : va_D A (wX7 G ad b (v27.2.2, r19, u.2.2.1, u.2.2.2.1, u.2.2.2.2.1, u.2.2.2.2.2.1, u.2.2.2.2.2.2.1, u.2.2.2.2.2.2.2.1, u.2.2.2.2.2.2.2.2.1, u.2.2.2.2.2.2.2.2.2.1, u.2.2.2.2.2.2.2.2.2.2))) (hS : va_S A s.heap H locs) (ls : Array Slot) (hl : lv_has ls 4 [(0, .ref (ad b)), (1, .int p1), (2, .int v27.1), (3, .int v27.2.1)]), W p l e (zRm 6 133) s m args below meth c H locs 0 0 Q (F0 m 27 ls []) := by
      intro n27
      induction n27 with
      | zero => intro v27 hz27; exact (zl_0 hz27).elim
      | succ n27 ih27 =>
        intro v27 hz27 H locs hP hD hS ls hl
        obtain ⟨o27, hf, hz27⟩ := zl_s hz27
        unfold q_X7_checkedIn_L27 at hf
        refine lv_iload_n hx hb dX7_checkedIn_27 rfl (lv_at hl 3 rfl) ?_
        refine lv_sipush (v := 3000) hx hb dX7_checkedIn_28 (by decide) ?_
        refine lv_icmp_gt (tgt := 61) hx hb dX7_checkedIn_31 (by decide) (fun c31 => ?_) (fun c31 => ?_)
        · replace hf := zi_p hf c31
          have hb27 := zk_r hf hz27
          subst hb27
          replace hf := hk27
          exact J61 v27.1 v27.2.2 hf _ _ hP hD hS _ (lv_sub hl [0, 2] rfl)
        · replace hf := zi_n hf c31
          refine lv_iload_n hx hb dX7_checkedIn_34 rfl (lv_at hl 2 rfl) ?_
          refine lv_bipush (v := (-6)) hx hb dX7_checkedIn_35 (by decide) ?_
          refine lv_icmp_ne (tgt := 61) hx hb dX7_checkedIn_37 (by decide) (fun c37 => ?_) (fun c37 => ?_)
          · replace hf := zi_n hf c37
            have hb27 := zk_r hf hz27
            subst hb27
            replace hf := hk27
            exact J61 v27.1 v27.2.2 hf _ _ hP hD hS _ (lv_sub hl [0, 2] rfl)
          · replace hf := zi_p hf c37
            refine lv_aload_n hx hb dX7_checkedIn_40 rfl (lv_at hl 0 rfl) ?_
            replace hf := zb_s hf
            obtain ⟨r41, hr41, hf⟩ := hf
            refine z_Vi (rest := []) C0 kX7_109 (c_X7_passesTick l D G ad (b) (v27.2.2, r19, u.2.2.1, u.2.2.2.1, u.2.2.2.2.1, u.2.2.2.2.2.1, u.2.2.2.2.2.2.1, u.2.2.2.2.2.2.2.1, u.2.2.2.2.2.2.2.2.1, u.2.2.2.2.2.2.2.2.2.1, u.2.2.2.2.2.2.2.2.2.2) r41 hr41) z_pall z_pall.symm (ci := 8) (T := TX7) (N := 11) rfl rfl rfl ⟨Nat.le_of_ble_eq_true rfl, Nat.le_of_ble_eq_true rfl⟩ (Nat.le_of_ble_eq_true rfl) rfl hl.1 hP hD hS dX7_checkedIn_41 (fun H locs hP hD hS => ?_)
            replace hP : va_P D vwCl (wX7 G ad b (r41.2, r19, u.2.2.1, u.2.2.2.1, u.2.2.2.2.1, u.2.2.2.2.2.1, u.2.2.2.2.2.2.1, u.2.2.2.2.2.2.2.1, u.2.2.2.2.2.2.2.2.1, u.2.2.2.2.2.2.2.2.2.1, u.2.2.2.2.2.2.2.2.2.2)) H := hP
            replace hD : va_D A (wX7 G ad b (r41.2, r19, u.2.2.1, u.2.2.2.1, u.2.2.2.2.1, u.2.2.2.2.2.1, u.2.2.2.2.2.2.1, u.2.2.2.2.2.2.2.1, u.2.2.2.2.2.2.2.2.1, u.2.2.2.2.2.2.2.2.2.1, u.2.2.2.2.2.2.2.2.2.2)) := hD
            refine lv_iload_n hx hb dX7_checkedIn_44 rfl (lv_at hl 1 rfl) ?_
            refine lv_icmp_ne (tgt := 52) hx hb dX7_checkedIn_45 (by decide) (fun c45 => ?_) (fun c45 => ?_)
            · replace hf := zi_n hf c45
              refine lv_bipush (v := (-6)) hx hb dX7_checkedIn_52 (by decide) ?_
              refine lv_istore_n (lv' := [(2, .int (-6)), (0, .ref (ad b)), (1, .int p1), (3, .int v27.2.1)]) hx hb dX7_checkedIn_54 rfl hl (by decide) rfl (fun ls hl => ?_)
              refine lv_iinc (v := (v27.2.1 + 1)) (lv' := [(3, .int (v27.2.1 + 1)), (2, .int (-6)), (0, .ref (ad b)), (1, .int p1)]) hx hb dX7_checkedIn_55 hl (k := 3) rfl rfl (by decide) rfl (fun ls hl => ?_)
              refine lv_goto (tgt := 27) hx hb dX7_checkedIn_58 (by decide) ?_
              exact ih27 _ (zk_l hf hz27) _ _ hP hD hS _ (lv_sub hl [2, 3, 1, 0] rfl)
            · replace hf := zi_p hf c45
              refine lv_iload_n hx hb dX7_checkedIn_48 rfl (lv_at hl 3 rfl) ?_
              refine lv_goto (tgt := 54) hx hb dX7_checkedIn_49 (by decide) ?_
              refine lv_istore_n (lv' := [(2, .int v27.2.1), (0, .ref (ad b)), (1, .int p1), (3, .int v27.2.1)]) hx hb dX7_checkedIn_54 rfl hl (by decide) rfl (fun ls hl => ?_)
              refine lv_iinc (v := (v27.2.1 + 1)) (lv' := [(3, .int (v27.2.1 + 1)), (2, .int v27.2.1), (0, .ref (ad b)), (1, .int p1)]) hx hb dX7_checkedIn_55 hl (k := 3) rfl rfl (by decide) rfl (fun ls hl => ?_)
              refine lv_goto (tgt := 27) hx hb dX7_checkedIn_58 (by decide) ?_
              exact ih27 _ (zk_l hf hz27) _ _ hP hD hS _ (lv_sub hl [2, 3, 1, 0] rfl)
    exact L27 _ _ hz27 _ _ hP hD hS _ (lv_sub hl [2, 3, 1, 0] rfl)
  · replace hf := zi_p hf c4
    refine lv_iconst (v := (-1)) hx hb dX7_checkedIn_7 (by decide) ?_
    obtain rfl := zo hf
    exact hret _ _ _ _ _ hP hD hS rfl dX7_checkedIn_8
noncomputable def q_X7_overdueIn (u : tX7) (p1 : Int32) (p2 : Int32) : Option (Int32 × (Nat → Int32) × (Nat → Int32)) :=
  zb (q_X7_copies 104 104 u.1 u.2.1 0 0) fun r10 => zn (upd u.1 4 p2) fun s19 => zb (q_X7_passes (s19, r10, u.2.2.1, u.2.2.2.1, u.2.2.2.2.1, u.2.2.2.2.2.1, u.2.2.2.2.2.2.1, u.2.2.2.2.2.2.2.1, u.2.2.2.2.2.2.2.2.1, u.2.2.2.2.2.2.2.2.2.1, u.2.2.2.2.2.2.2.2.2.2) p1) fun r22 => zb (q_X7_overdueMany (r22.2, r10, u.2.2.1, u.2.2.2.1, u.2.2.2.2.1, u.2.2.2.2.2.1, u.2.2.2.2.2.2.1, u.2.2.2.2.2.2.2.1, u.2.2.2.2.2.2.2.2.1, u.2.2.2.2.2.2.2.2.2.1, u.2.2.2.2.2.2.2.2.2.2)) fun r27 => zb (q_X7_copies 104 104 r10 r22.2 0 0) fun r41 => some (r27, r41, r10)
set_option maxRecDepth 100000 in
set_option maxHeartbeats 4000000 in
theorem c_X7_overdueIn (l : Launch) (D : va_G) (G : zG) (ad : Nat → Nat) (b : Nat) (u : tX7) (p1 : Int32) (p2 : Int32) (res : Int32 × (Nat → Int32) × (Nat → Int32)) (hf : q_X7_overdueIn u p1 p2 = some res) : zMi l yX7_overdueIn cX7_overdueIn 4 (some .int) 7 156 D G (wX7 G ad b u) (wX7 G ad b (res.2.1, res.2.2, u.2.2.1, u.2.2.2.1, u.2.2.2.2.1, u.2.2.2.2.2.1, u.2.2.2.2.2.2.1, u.2.2.2.2.2.2.2.1, u.2.2.2.2.2.2.2.2.1, u.2.2.2.2.2.2.2.2.2.1, u.2.2.2.2.2.2.2.2.2.2)) [.ref (ad b), .int p1, .int p2] res.1 := by
  refine zs_i (plainFor_of_name (by decide)) (Nat.le_of_ble_eq_true rfl) ?_
  intro p e s m args below meth c A Q H ls C0 hret hP hD hS hl
  obtain ⟨hx, hb, hml, hown, hW, hK, hlocks, hF, hr, hA⟩ := id C0
  replace hl : lv_has ls 4 [(0, .ref (ad b)), (1, .int p1), (2, .int p2)] := hl
  unfold q_X7_overdueIn at hf
  refine lv_aload_n hx hb dX7_overdueIn_0 rfl (lv_at hl 0 rfl) ?_
  refine va_get (D := D) (ci := 8) (v := .ref (ad (b + 1))) (C := RX7) (T := TX7) (N := 11) hx hb hW inlX7 hown hK hP 0 rfl rfl 0 (by decide) (hW _ wd_127) (fun _ h9 => h9) rfl dX7_overdueIn_1 ?_
  refine lv_iconst (v := 0) hx hb dX7_overdueIn_4 (by decide) ?_
  refine lv_aload_n hx hb dX7_overdueIn_5 rfl (lv_at hl 0 rfl) ?_
  refine va_get (D := D) (ci := 8) (v := .ref (ad (b + 2))) (C := RX7) (T := TX7) (N := 11) hx hb hW inlX7 hown hK hP 0 rfl rfl 1 (by decide) (hW _ wd_128) (fun _ h9 => h9) rfl dX7_overdueIn_6 ?_
  refine lv_iconst (v := 0) hx hb dX7_overdueIn_9 (by decide) ?_
  replace hf := zb_s hf
  obtain ⟨r10, hr10, hf⟩ := hf
  refine z_Sv (rest := []) C0 kX7_26 (c_X7_copies l D G ad (b + 1) ad (b + 2) 104 104 u.1 u.2.1 0 0 r10 hr10) (pmX7_state_kept G ad b u) (pnX7_state_kept G ad b u r10) rfl ⟨Nat.le_of_ble_eq_true rfl, Nat.le_of_ble_eq_true rfl⟩ (Nat.le_of_ble_eq_true rfl) rfl hl.1 hP hD hS dX7_overdueIn_10 (fun H locs hP hD hS => ?_)
  replace hP : va_P D vwCl (wX7 G ad b (u.1, r10, u.2.2.1, u.2.2.2.1, u.2.2.2.2.1, u.2.2.2.2.2.1, u.2.2.2.2.2.2.1, u.2.2.2.2.2.2.2.1, u.2.2.2.2.2.2.2.2.1, u.2.2.2.2.2.2.2.2.2.1, u.2.2.2.2.2.2.2.2.2.2)) H := hP
  replace hD : va_D A (wX7 G ad b (u.1, r10, u.2.2.1, u.2.2.2.1, u.2.2.2.2.1, u.2.2.2.2.2.1, u.2.2.2.2.2.2.1, u.2.2.2.2.2.2.2.1, u.2.2.2.2.2.2.2.2.1, u.2.2.2.2.2.2.2.2.2.1, u.2.2.2.2.2.2.2.2.2.2)) := hD
  refine lv_aload_n hx hb dX7_overdueIn_13 rfl (lv_at hl 0 rfl) ?_
  refine va_get (D := D) (ci := 8) (v := .ref (ad (b + 1))) (C := RX7) (T := TX7) (N := 11) hx hb hW inlX7 hown hK hP 0 rfl rfl 0 (by decide) (hW _ wd_127) (fun _ h9 => h9) rfl dX7_overdueIn_14 ?_
  refine lv_iconst (v := 4) hx hb dX7_overdueIn_17 (by decide) ?_
  refine lv_iload_n hx hb dX7_overdueIn_18 rfl (lv_at hl 2 rfl) ?_
  replace hf := zn_s hf
  obtain ⟨s19, es19, hf⟩ := hf
  refine z_iast (ws' := wX7 G ad b (s19, r10, u.2.2.1, u.2.2.2.1, u.2.2.2.2.1, u.2.2.2.2.2.1, u.2.2.2.2.2.2.1, u.2.2.2.2.2.2.2.1, u.2.2.2.2.2.2.2.2.1, u.2.2.2.2.2.2.2.2.2.1, u.2.2.2.2.2.2.2.2.2.2)) hx hb hK hP hD hS 1 0 rfl rfl (z_in rfl) es19 rfl dX7_overdueIn_19 (fun H locs hP hD hS => ?_)
  refine lv_aload_n hx hb dX7_overdueIn_20 rfl (lv_at hl 0 rfl) ?_
  refine lv_iload_n hx hb dX7_overdueIn_21 rfl (lv_at hl 1 rfl) ?_
  replace hf := zb_s hf
  obtain ⟨r22, hr22, hf⟩ := hf
  refine z_Vi (rest := []) C0 kX7_159 (c_X7_passes l D G ad (b) (s19, r10, u.2.2.1, u.2.2.2.1, u.2.2.2.2.1, u.2.2.2.2.2.1, u.2.2.2.2.2.2.1, u.2.2.2.2.2.2.2.1, u.2.2.2.2.2.2.2.2.1, u.2.2.2.2.2.2.2.2.2.1, u.2.2.2.2.2.2.2.2.2.2) p1 r22 hr22) z_pall z_pall.symm (ci := 8) (T := TX7) (N := 11) rfl rfl rfl ⟨Nat.le_of_ble_eq_true rfl, Nat.le_of_ble_eq_true rfl⟩ (Nat.le_of_ble_eq_true rfl) rfl hl.1 hP hD hS dX7_overdueIn_22 (fun H locs hP hD hS => ?_)
  replace hP : va_P D vwCl (wX7 G ad b (r22.2, r10, u.2.2.1, u.2.2.2.1, u.2.2.2.2.1, u.2.2.2.2.2.1, u.2.2.2.2.2.2.1, u.2.2.2.2.2.2.2.1, u.2.2.2.2.2.2.2.2.1, u.2.2.2.2.2.2.2.2.2.1, u.2.2.2.2.2.2.2.2.2.2)) H := hP
  replace hD : va_D A (wX7 G ad b (r22.2, r10, u.2.2.1, u.2.2.2.1, u.2.2.2.2.1, u.2.2.2.2.2.1, u.2.2.2.2.2.2.1, u.2.2.2.2.2.2.2.1, u.2.2.2.2.2.2.2.2.1, u.2.2.2.2.2.2.2.2.2.1, u.2.2.2.2.2.2.2.2.2.2)) := hD
  refine lv_pop hx hb dX7_overdueIn_25 rfl ?_
  refine lv_aload_n hx hb dX7_overdueIn_26 rfl (lv_at hl 0 rfl) ?_
  replace hf := zb_s hf
  obtain ⟨r27, hr27, hf⟩ := hf
  refine z_Vi (rest := []) C0 kX7_174 (c_X7_overdueMany l D G ad (b) (r22.2, r10, u.2.2.1, u.2.2.2.1, u.2.2.2.2.1, u.2.2.2.2.2.1, u.2.2.2.2.2.2.1, u.2.2.2.2.2.2.2.1, u.2.2.2.2.2.2.2.2.1, u.2.2.2.2.2.2.2.2.2.1, u.2.2.2.2.2.2.2.2.2.2) r27 hr27) z_pall z_pall.symm (ci := 8) (T := TX7) (N := 11) rfl rfl rfl ⟨Nat.le_of_ble_eq_true rfl, Nat.le_of_ble_eq_true rfl⟩ (Nat.le_of_ble_eq_true rfl) rfl hl.1 hP hD hS dX7_overdueIn_27 (fun H locs hP hD hS => ?_)
  refine lv_istore_n (lv' := [(3, .int r27), (0, .ref (ad b)), (1, .int p1), (2, .int p2)]) hx hb dX7_overdueIn_30 rfl hl (by decide) rfl (fun ls hl => ?_)
  refine lv_aload_n hx hb dX7_overdueIn_31 rfl (lv_at hl 1 rfl) ?_
  refine va_get (D := D) (ci := 8) (v := .ref (ad (b + 2))) (C := RX7) (T := TX7) (N := 11) hx hb hW inlX7 hown hK hP 0 rfl rfl 1 (by decide) (hW _ wd_128) (fun _ h9 => h9) rfl dX7_overdueIn_32 ?_
  refine lv_iconst (v := 0) hx hb dX7_overdueIn_35 (by decide) ?_
  refine lv_aload_n hx hb dX7_overdueIn_36 rfl (lv_at hl 1 rfl) ?_
  refine va_get (D := D) (ci := 8) (v := .ref (ad (b + 1))) (C := RX7) (T := TX7) (N := 11) hx hb hW inlX7 hown hK hP 0 rfl rfl 0 (by decide) (hW _ wd_127) (fun _ h9 => h9) rfl dX7_overdueIn_37 ?_
  refine lv_iconst (v := 0) hx hb dX7_overdueIn_40 (by decide) ?_
  replace hf := zb_s hf
  obtain ⟨r41, hr41, hf⟩ := hf
  refine z_Sv (rest := []) C0 kX7_26 (c_X7_copies l D G ad (b + 2) ad (b + 1) 104 104 r10 r22.2 0 0 r41 hr41) (pmX7_kept_state G ad b (r22.2, r10, u.2.2.1, u.2.2.2.1, u.2.2.2.2.1, u.2.2.2.2.2.1, u.2.2.2.2.2.2.1, u.2.2.2.2.2.2.2.1, u.2.2.2.2.2.2.2.2.1, u.2.2.2.2.2.2.2.2.2.1, u.2.2.2.2.2.2.2.2.2.2)) (pnX7_kept_state G ad b (r22.2, r10, u.2.2.1, u.2.2.2.1, u.2.2.2.2.1, u.2.2.2.2.2.1, u.2.2.2.2.2.2.1, u.2.2.2.2.2.2.2.1, u.2.2.2.2.2.2.2.2.1, u.2.2.2.2.2.2.2.2.2.1, u.2.2.2.2.2.2.2.2.2.2) r41) rfl ⟨Nat.le_of_ble_eq_true rfl, Nat.le_of_ble_eq_true rfl⟩ (Nat.le_of_ble_eq_true rfl) rfl hl.1 hP hD hS dX7_overdueIn_41 (fun H locs hP hD hS => ?_)
  replace hP : va_P D vwCl (wX7 G ad b (r41, r10, u.2.2.1, u.2.2.2.1, u.2.2.2.2.1, u.2.2.2.2.2.1, u.2.2.2.2.2.2.1, u.2.2.2.2.2.2.2.1, u.2.2.2.2.2.2.2.2.1, u.2.2.2.2.2.2.2.2.2.1, u.2.2.2.2.2.2.2.2.2.2)) H := hP
  replace hD : va_D A (wX7 G ad b (r41, r10, u.2.2.1, u.2.2.2.1, u.2.2.2.2.1, u.2.2.2.2.2.1, u.2.2.2.2.2.2.1, u.2.2.2.2.2.2.2.1, u.2.2.2.2.2.2.2.2.1, u.2.2.2.2.2.2.2.2.2.1, u.2.2.2.2.2.2.2.2.2.2)) := hD
  refine lv_iload_n hx hb dX7_overdueIn_44 rfl (lv_at hl 0 rfl) ?_
  obtain rfl := zo hf
  exact hret _ _ _ _ _ hP hD hS rfl dX7_overdueIn_45
theorem kX7_177 : zLkV RX7 177 yX7_overdueIn cX7_overdueIn 4 (some .int) 2 := ⟨⟨wd_897, wd_898, wd_899, wd_5, wd_900⟩, by decide +kernel⟩
noncomputable def q_X7_ifQuiet (u : tX7) (p1 : Int32) : Option (Int32 × (Nat → Int32) × (Nat → Int32)) :=
  zb (q_X7_within p1 0 3000) fun r5 => (if r5 = 0 then some ((-2), u.1, u.2.1) else zb (q_X7_overdueIn u p1 (u.1 4)) fun r19 => some (r19.1, r19.2.1, r19.2.2))
set_option maxRecDepth 100000 in
set_option maxHeartbeats 4000000 in
theorem c_X7_ifQuiet (l : Launch) (D : va_G) (G : zG) (ad : Nat → Nat) (b : Nat) (u : tX7) (p1 : Int32) (res : Int32 × (Nat → Int32) × (Nat → Int32)) (hf : q_X7_ifQuiet u p1 = some res) : zMi l yX7_ifQuiet cX7_ifQuiet 2 (some .int) 8 179 D G (wX7 G ad b u) (wX7 G ad b (res.2.1, res.2.2, u.2.2.1, u.2.2.2.1, u.2.2.2.2.1, u.2.2.2.2.2.1, u.2.2.2.2.2.2.1, u.2.2.2.2.2.2.2.1, u.2.2.2.2.2.2.2.2.1, u.2.2.2.2.2.2.2.2.2.1, u.2.2.2.2.2.2.2.2.2.2)) [.ref (ad b), .int p1] res.1 := by
  refine zs_i (plainFor_of_name (by decide)) (Nat.le_of_ble_eq_true rfl) ?_
  intro p e s m args below meth c A Q H ls C0 hret hP hD hS hl
  obtain ⟨hx, hb, hml, hown, hW, hK, hlocks, hF, hr, hA⟩ := id C0
  replace hl : lv_has ls 2 [(0, .ref (ad b)), (1, .int p1)] := hl
  unfold q_X7_ifQuiet at hf
  refine lv_iload_n hx hb dX7_ifQuiet_0 rfl (lv_at hl 1 rfl) ?_
  refine lv_iconst (v := 0) hx hb dX7_ifQuiet_1 (by decide) ?_
  refine lv_sipush (v := 3000) hx hb dX7_ifQuiet_2 (by decide) ?_
  replace hf := zb_s hf
  obtain ⟨r5, hr5, hf⟩ := hf
  refine z_Si (rest := []) C0 kX7_30 (c_X7_within l D G p1 0 3000 r5 hr5) (List.Perm.refl _) (List.Perm.refl _) rfl ⟨Nat.le_of_ble_eq_true rfl, Nat.le_of_ble_eq_true rfl⟩ (Nat.le_of_ble_eq_true rfl) rfl hl.1 hP hD hS dX7_ifQuiet_5 (fun H locs hP hD hS => ?_)
  refine lv_if_eq (tgt := 25) hx hb dX7_ifQuiet_8 (by decide) (fun c8 => ?_) (fun c8 => ?_)
  · replace hf := zi_p hf c8
    refine lv_bipush (v := (-2)) hx hb dX7_ifQuiet_25 (by decide) ?_
    obtain rfl := zo hf
    exact hret _ _ _ _ _ hP hD hS rfl dX7_ifQuiet_27
  · replace hf := zi_n hf c8
    refine lv_aload_n hx hb dX7_ifQuiet_11 rfl (lv_at hl 0 rfl) ?_
    refine lv_iload_n hx hb dX7_ifQuiet_12 rfl (lv_at hl 1 rfl) ?_
    refine lv_aload_n hx hb dX7_ifQuiet_13 rfl (lv_at hl 0 rfl) ?_
    refine va_get (D := D) (ci := 8) (v := .ref (ad (b + 1))) (C := RX7) (T := TX7) (N := 11) hx hb hW inlX7 hown hK hP 0 rfl rfl 0 (by decide) (hW _ wd_127) (fun _ h9 => h9) rfl dX7_ifQuiet_14 ?_
    refine lv_iconst (v := 4) hx hb dX7_ifQuiet_17 (by decide) ?_
    refine z_iald (v := (u.1 4)) hx hb hK hP 1 0 rfl rfl (z_in rfl) rfl dX7_ifQuiet_18 ?_
    replace hf := zb_s hf
    obtain ⟨r19, hr19, hf⟩ := hf
    refine z_Vi (rest := []) C0 kX7_177 (c_X7_overdueIn l D G ad (b) u p1 (u.1 4) r19 hr19) z_pall z_pall.symm (ci := 8) (T := TX7) (N := 11) rfl rfl rfl ⟨Nat.le_of_ble_eq_true rfl, Nat.le_of_ble_eq_true rfl⟩ (Nat.le_of_ble_eq_true rfl) rfl hl.1 hP hD hS dX7_ifQuiet_19 (fun H locs hP hD hS => ?_)
    replace hP : va_P D vwCl (wX7 G ad b (r19.2.1, r19.2.2, u.2.2.1, u.2.2.2.1, u.2.2.2.2.1, u.2.2.2.2.2.1, u.2.2.2.2.2.2.1, u.2.2.2.2.2.2.2.1, u.2.2.2.2.2.2.2.2.1, u.2.2.2.2.2.2.2.2.2.1, u.2.2.2.2.2.2.2.2.2.2)) H := hP
    replace hD : va_D A (wX7 G ad b (r19.2.1, r19.2.2, u.2.2.1, u.2.2.2.1, u.2.2.2.2.1, u.2.2.2.2.2.1, u.2.2.2.2.2.2.1, u.2.2.2.2.2.2.2.1, u.2.2.2.2.2.2.2.2.1, u.2.2.2.2.2.2.2.2.2.1, u.2.2.2.2.2.2.2.2.2.2)) := hD
    refine lv_goto (tgt := 27) hx hb dX7_ifQuiet_22 (by decide) ?_
    obtain rfl := zo hf
    exact hret _ _ _ _ _ hP hD hS rfl dX7_ifQuiet_27
noncomputable def q_X7_bestWay_J53 (v26 : Int32 × Int32 × Int32 × (Nat → Int32) × (Nat → Int32)) (r36 : Int32 × (Nat → Int32) × (Nat → Int32)) (y53_0 : Int32) : Option ((Int32 × Int32 × Int32 × (Nat → Int32) × (Nat → Int32)) ⊕ (Int32 × (Nat → Int32) × (Nat → Int32))) :=
  (if v26.2.1 ≤ r36.1 then some (Sum.inl (y53_0, v26.2.1, (v26.2.2.1 + 1), r36.2.1, r36.2.2)) else some (Sum.inl (y53_0, r36.1, (v26.2.2.1 + 1), r36.2.1, r36.2.2)))
noncomputable def q_X7_bestWay_L26 (u : tX7) (p1 : Int32) (v26 : Int32 × Int32 × Int32 × (Nat → Int32) × (Nat → Int32)) : Option ((Int32 × Int32 × Int32 × (Nat → Int32) × (Nat → Int32)) ⊕ (Int32 × (Nat → Int32) × (Nat → Int32))) :=
  (if 2 < v26.2.2.1 then some (Sum.inr (v26.1, v26.2.2.2.1, v26.2.2.2.2)) else zb (q_X7_overdueIn (v26.2.2.2.1, v26.2.2.2.2, u.2.2.1, u.2.2.2.1, u.2.2.2.2.1, u.2.2.2.2.2.1, u.2.2.2.2.2.2.1, u.2.2.2.2.2.2.2.1, u.2.2.2.2.2.2.2.2.1, u.2.2.2.2.2.2.2.2.2.1, u.2.2.2.2.2.2.2.2.2.2) p1 v26.2.2.1) fun r36 => (if v26.2.1 ≤ r36.1 then q_X7_bestWay_J53 v26 r36 v26.1 else q_X7_bestWay_J53 v26 r36 v26.2.2.1))
noncomputable def q_X7_bestWay (u : tX7) (p1 : Int32) : Option (Int32 × (Nat → Int32) × (Nat → Int32)) :=
  zb (q_X7_within p1 0 3000) fun r5 => (if r5 = 0 then some ((-2), u.1, u.2.1) else zb (q_X7_overdueIn u p1 0) fun r19 => zb (zl 1000000 (q_X7_bestWay_L26 u p1) (0, r19.1, 1, r19.2.1, r19.2.2)) (fun b26 => some (b26.1, b26.2.1, b26.2.2)))
set_option maxRecDepth 100000 in
set_option maxHeartbeats 4000000 in
theorem c_X7_bestWay (l : Launch) (D : va_G) (G : zG) (ad : Nat → Nat) (b : Nat) (u : tX7) (p1 : Int32) (res : Int32 × (Nat → Int32) × (Nat → Int32)) (hf : q_X7_bestWay u p1 = some res) : zMi l yX7_bestWay cX7_bestWay 6 (some .int) 8 179 D G (wX7 G ad b u) (wX7 G ad b (res.2.1, res.2.2, u.2.2.1, u.2.2.2.1, u.2.2.2.2.1, u.2.2.2.2.2.1, u.2.2.2.2.2.2.1, u.2.2.2.2.2.2.2.1, u.2.2.2.2.2.2.2.2.1, u.2.2.2.2.2.2.2.2.2.1, u.2.2.2.2.2.2.2.2.2.2)) [.ref (ad b), .int p1] res.1 := by
  refine zs_i (plainFor_of_name (by decide)) (Nat.le_of_ble_eq_true rfl) ?_
  intro p e s m args below meth c A Q H ls C0 hret hP hD hS hl
  obtain ⟨hx, hb, hml, hown, hW, hK, hlocks, hF, hr, hA⟩ := id C0
  replace hl : lv_has ls 6 [(0, .ref (ad b)), (1, .int p1)] := hl
  unfold q_X7_bestWay at hf
  refine lv_iload_n hx hb dX7_bestWay_0 rfl (lv_at hl 1 rfl) ?_
  refine lv_iconst (v := 0) hx hb dX7_bestWay_1 (by decide) ?_
  refine lv_sipush (v := 3000) hx hb dX7_bestWay_2 (by decide) ?_
  replace hf := zb_s hf
  obtain ⟨r5, hr5, hf⟩ := hf
  refine z_Si (rest := []) C0 kX7_30 (c_X7_within l D G p1 0 3000 r5 hr5) (List.Perm.refl _) (List.Perm.refl _) rfl ⟨Nat.le_of_ble_eq_true rfl, Nat.le_of_ble_eq_true rfl⟩ (Nat.le_of_ble_eq_true rfl) rfl hl.1 hP hD hS dX7_bestWay_5 (fun H locs hP hD hS => ?_)
  refine lv_if_ne (tgt := 14) hx hb dX7_bestWay_8 (by decide) (fun c8 => ?_) (fun c8 => ?_)
  · replace hf := zi_n hf c8
    refine lv_iconst (v := 0) hx hb dX7_bestWay_14 (by decide) ?_
    refine lv_istore_n (lv' := [(2, .int 0), (0, .ref (ad b)), (1, .int p1)]) hx hb dX7_bestWay_15 rfl hl (by decide) rfl (fun ls hl => ?_)
    refine lv_aload_n hx hb dX7_bestWay_16 rfl (lv_at hl 1 rfl) ?_
    refine lv_iload_n hx hb dX7_bestWay_17 rfl (lv_at hl 2 rfl) ?_
    refine lv_iconst (v := 0) hx hb dX7_bestWay_18 (by decide) ?_
    replace hf := zb_s hf
    obtain ⟨r19, hr19, hf⟩ := hf
    refine z_Vi (rest := []) C0 kX7_177 (c_X7_overdueIn l D G ad (b) u p1 0 r19 hr19) z_pall z_pall.symm (ci := 8) (T := TX7) (N := 11) rfl rfl rfl ⟨Nat.le_of_ble_eq_true rfl, Nat.le_of_ble_eq_true rfl⟩ (Nat.le_of_ble_eq_true rfl) rfl hl.1 hP hD hS dX7_bestWay_19 (fun H locs hP hD hS => ?_)
    replace hP : va_P D vwCl (wX7 G ad b (r19.2.1, r19.2.2, u.2.2.1, u.2.2.2.1, u.2.2.2.2.1, u.2.2.2.2.2.1, u.2.2.2.2.2.2.1, u.2.2.2.2.2.2.2.1, u.2.2.2.2.2.2.2.2.1, u.2.2.2.2.2.2.2.2.2.1, u.2.2.2.2.2.2.2.2.2.2)) H := hP
    replace hD : va_D A (wX7 G ad b (r19.2.1, r19.2.2, u.2.2.1, u.2.2.2.1, u.2.2.2.2.1, u.2.2.2.2.2.1, u.2.2.2.2.2.2.1, u.2.2.2.2.2.2.2.1, u.2.2.2.2.2.2.2.2.1, u.2.2.2.2.2.2.2.2.2.1, u.2.2.2.2.2.2.2.2.2.2)) := hD
    refine lv_istore_n (lv' := [(3, .int r19.1), (2, .int 0), (0, .ref (ad b)), (1, .int p1)]) hx hb dX7_bestWay_22 rfl hl (by decide) rfl (fun ls hl => ?_)
    refine lv_iconst (v := 1) hx hb dX7_bestWay_23 (by decide) ?_
    refine lv_istore (lv' := [(4, .int 1), (3, .int r19.1), (2, .int 0), (0, .ref (ad b)), (1, .int p1)]) hx hb dX7_bestWay_24 hl (by decide) rfl (fun ls hl => ?_)
    replace hf := zb_s hf
    obtain ⟨b26, hz26, hk26⟩ := hf
    have L26 : ∀ (n26 : Nat) (v26 : Int32 × Int32 × Int32 × (Nat → Int32) × (Nat → Int32)) (hz26 : zl n26 (q_X7_bestWay_L26 u p1) v26 = some b26) (H : Heap) (locs : List Loc) (hP : va_P D vwCl (wX7 G ad b (v26.2.2.2.1, v26.2.2.2.2, u.2.2.1, u.2.2.2.1, u.2.2.2.2.1, u.2.2.2.2.2.1, u.2.2.2.2.2.2.1, u.2.2.2.2.2.2.2.1, u.2.2.2.2.2.2.2.2.1, u.2.2.2.2.2.2.2.2.2.1, u.2.2.2.2.2.2.2.2.2.2)) H) (hD : va_D A (wX7 G ad b (v26.2.2.2.1, v26.2.2.2.2, u.2.2.1, u.2.2.2.1, u.2.2.2.2.1, u.2.2.2.2.2.1, u.2.2.2.2.2.2.1, u.2.2.2.2.2.2.2.1, u.2.2.2.2.2.2.2.2.1, u.2.2.2.2.2.2.2.2.2.1, u.2.2.2.2.2.2.2.2.2.2))) (hS : va_S A s.heap H locs) (ls : Array Slot) (hl : lv_has ls 6 [(0, .ref (ad b)), (1, .int p1), (2, .int v26.1), (3, .int v26.2.1), (4, .int v26.2.2.1)]), W p l e (zRm 8 179) s m args below meth c H locs 0 0 Q (F0 m 26 ls []) := by
      intro n26
      induction n26 with
      | zero => intro v26 hz26; exact (zl_0 hz26).elim
      | succ n26 ih26 =>
        intro v26 hz26 H locs hP hD hS ls hl
        obtain ⟨o26, hf, hz26⟩ := zl_s hz26
        unfold q_X7_bestWay_L26 at hf
        refine lv_iload hx hb dX7_bestWay_26 (lv_at hl 4 rfl) ?_
        refine lv_iconst (v := 2) hx hb dX7_bestWay_28 (by decide) ?_
        refine lv_icmp_gt (tgt := 73) hx hb dX7_bestWay_29 (by decide) (fun c29 => ?_) (fun c29 => ?_)
        · replace hf := zi_p hf c29
          have hb26 := zk_r hf hz26
          subst hb26
          replace hf := hk26
          refine lv_iload_n hx hb dX7_bestWay_73 rfl (lv_at hl 2 rfl) ?_
          obtain rfl := zo hf
          exact hret _ _ _ _ _ hP hD hS rfl dX7_bestWay_74
        · replace hf := zi_n hf c29
          refine lv_aload_n hx hb dX7_bestWay_32 rfl (lv_at hl 0 rfl) ?_
          refine lv_iload_n hx hb dX7_bestWay_33 rfl (lv_at hl 1 rfl) ?_
          refine lv_iload hx hb dX7_bestWay_34 (lv_at hl 4 rfl) ?_
          replace hf := zb_s hf
          obtain ⟨r36, hr36, hf⟩ := hf
          refine z_Vi (rest := []) C0 kX7_177 (c_X7_overdueIn l D G ad (b) (v26.2.2.2.1, v26.2.2.2.2, u.2.2.1, u.2.2.2.1, u.2.2.2.2.1, u.2.2.2.2.2.1, u.2.2.2.2.2.2.1, u.2.2.2.2.2.2.2.1, u.2.2.2.2.2.2.2.2.1, u.2.2.2.2.2.2.2.2.2.1, u.2.2.2.2.2.2.2.2.2.2) p1 v26.2.2.1 r36 hr36) z_pall z_pall.symm (ci := 8) (T := TX7) (N := 11) rfl rfl rfl ⟨Nat.le_of_ble_eq_true rfl, Nat.le_of_ble_eq_true rfl⟩ (Nat.le_of_ble_eq_true rfl) rfl hl.1 hP hD hS dX7_bestWay_36 (fun H locs hP hD hS => ?_)
          replace hP : va_P D vwCl (wX7 G ad b (r36.2.1, r36.2.2, u.2.2.1, u.2.2.2.1, u.2.2.2.2.1, u.2.2.2.2.2.1, u.2.2.2.2.2.2.1, u.2.2.2.2.2.2.2.1, u.2.2.2.2.2.2.2.2.1, u.2.2.2.2.2.2.2.2.2.1, u.2.2.2.2.2.2.2.2.2.2)) H := hP
          replace hD : va_D A (wX7 G ad b (r36.2.1, r36.2.2, u.2.2.1, u.2.2.2.1, u.2.2.2.2.1, u.2.2.2.2.2.1, u.2.2.2.2.2.2.1, u.2.2.2.2.2.2.2.1, u.2.2.2.2.2.2.2.2.1, u.2.2.2.2.2.2.2.2.2.1, u.2.2.2.2.2.2.2.2.2.2)) := hD
          refine lv_istore (lv' := [(5, .int r36.1), (0, .ref (ad b)), (1, .int p1), (2, .int v26.1), (3, .int v26.2.1), (4, .int v26.2.2.1)]) hx hb dX7_bestWay_39 hl (by decide) rfl (fun ls hl => ?_)
          refine lv_iload hx hb dX7_bestWay_41 (lv_at hl 0 rfl) ?_
          refine lv_iload_n hx hb dX7_bestWay_43 rfl (lv_at hl 4 rfl) ?_
          have J53 : ∀ (y53_0 : Int32) (hf : q_X7_bestWay_J53 v26 r36 y53_0 = some o26) (H : Heap) (locs : List Loc) (hP : va_P D vwCl (wX7 G ad b (r36.2.1, r36.2.2, u.2.2.1, u.2.2.2.1, u.2.2.2.2.1, u.2.2.2.2.2.1, u.2.2.2.2.2.2.1, u.2.2.2.2.2.2.2.1, u.2.2.2.2.2.2.2.2.1, u.2.2.2.2.2.2.2.2.2.1, u.2.2.2.2.2.2.2.2.2.2)) H) (hD : va_D A (wX7 G ad b (r36.2.1, r36.2.2, u.2.2.1, u.2.2.2.1, u.2.2.2.2.1, u.2.2.2.2.2.1, u.2.2.2.2.2.2.1, u.2.2.2.2.2.2.2.1, u.2.2.2.2.2.2.2.2.1, u.2.2.2.2.2.2.2.2.2.1, u.2.2.2.2.2.2.2.2.2.2))) (hS : va_S A s.heap H locs) (ls : Array Slot) (hl : lv_has ls 6 [(0, .ref (ad b)), (1, .int p1), (3, .int v26.2.1), (4, .int v26.2.2.1), (5, .int r36.1)]), W p l e (zRm 8 179) s m args below meth c H locs 0 0 Q (F0 m 53 ls [.int y53_0]) := by
            intro y53_0 hf H locs hP hD hS ls hl
            unfold q_X7_bestWay_J53 at hf
            refine lv_istore_n (lv' := [(2, .int y53_0), (0, .ref (ad b)), (1, .int p1), (3, .int v26.2.1), (4, .int v26.2.2.1), (5, .int r36.1)]) hx hb dX7_bestWay_53 rfl hl (by decide) rfl (fun ls hl => ?_)
            refine lv_iload hx hb dX7_bestWay_54 (lv_at hl 5 rfl) ?_
            refine lv_iload_n hx hb dX7_bestWay_56 rfl (lv_at hl 3 rfl) ?_
            refine lv_icmp_ge (tgt := 65) hx hb dX7_bestWay_57 (by decide) (fun c57 => ?_) (fun c57 => ?_)
            · replace hf := zi_p hf c57
              refine lv_iload_n hx hb dX7_bestWay_65 rfl (lv_at hl 3 rfl) ?_
              refine lv_istore_n (lv' := [(3, .int v26.2.1), (2, .int y53_0), (0, .ref (ad b)), (1, .int p1), (4, .int v26.2.2.1), (5, .int r36.1)]) hx hb dX7_bestWay_66 rfl hl (by decide) rfl (fun ls hl => ?_)
              refine lv_iinc (v := (v26.2.2.1 + 1)) (lv' := [(4, .int (v26.2.2.1 + 1)), (3, .int v26.2.1), (2, .int y53_0), (0, .ref (ad b)), (1, .int p1), (5, .int r36.1)]) hx hb dX7_bestWay_67 hl (k := 4) rfl rfl (by decide) rfl (fun ls hl => ?_)
              refine lv_goto (tgt := 26) hx hb dX7_bestWay_70 (by decide) ?_
              exact ih26 _ (zk_l hf hz26) _ _ hP hD hS _ (lv_sub hl [3, 4, 2, 1, 0] rfl)
            · replace hf := zi_n hf c57
              refine lv_iload hx hb dX7_bestWay_60 (lv_at hl 5 rfl) ?_
              refine lv_goto (tgt := 66) hx hb dX7_bestWay_62 (by decide) ?_
              refine lv_istore_n (lv' := [(3, .int r36.1), (2, .int y53_0), (0, .ref (ad b)), (1, .int p1), (4, .int v26.2.2.1), (5, .int r36.1)]) hx hb dX7_bestWay_66 rfl hl (by decide) rfl (fun ls hl => ?_)
              refine lv_iinc (v := (v26.2.2.1 + 1)) (lv' := [(4, .int (v26.2.2.1 + 1)), (3, .int r36.1), (2, .int y53_0), (0, .ref (ad b)), (1, .int p1), (5, .int r36.1)]) hx hb dX7_bestWay_67 hl (k := 4) rfl rfl (by decide) rfl (fun ls hl => ?_)
              refine lv_goto (tgt := 26) hx hb dX7_bestWay_70 (by decide) ?_
              exact ih26 _ (zk_l hf hz26) _ _ hP hD hS _ (lv_sub hl [3, 4, 2, 1, 0] rfl)
          refine lv_icmp_ge (tgt := 52) hx hb dX7_bestWay_44 (by decide) (fun c44 => ?_) (fun c44 => ?_)
          · replace hf := zi_p hf c44
            refine lv_iload_n hx hb dX7_bestWay_52 rfl (lv_at hl 3 rfl) ?_
            exact J53 v26.1 hf _ _ hP hD hS _ (lv_sub hl [1, 2, 4, 5, 0] rfl)
          · replace hf := zi_n hf c44
            refine lv_iload hx hb dX7_bestWay_47 (lv_at hl 5 rfl) ?_
            refine lv_goto (tgt := 53) hx hb dX7_bestWay_49 (by decide) ?_
            exact J53 v26.2.2.1 hf _ _ hP hD hS _ (lv_sub hl [1, 2, 4, 5, 0] rfl)
    exact L26 _ _ hz26 _ _ hP hD hS _ (lv_sub hl [3, 4, 2, 1, 0] rfl)
  · replace hf := zi_p hf c8
    refine lv_bipush (v := (-2)) hx hb dX7_bestWay_11 (by decide) ?_
    obtain rfl := zo hf
    exact hret _ _ _ _ _ hP hD hS rfl dX7_bestWay_13
noncomputable def q_X7_type (u : tX7) (p1 : Int32) : Option (Int32 × (Nat → Int32) × Int32) :=
  zb (q_X7_within p1 32 126) fun r5 => (if r5 = 0 then some ((-2), u.2.2.2.2.1, u.2.2.2.2.2.1) else (if u.2.2.2.2.2.1 = 80 then some ((-4), u.2.2.2.2.1, u.2.2.2.2.2.1) else zs 80 u.2.2.2.2.1 u.2.2.2.2.2.1 p1 fun s35 => zn (u.2.2.2.2.2.1 + 1) fun k43 => some (k43, s35, k43)))
set_option maxRecDepth 100000 in
set_option maxHeartbeats 4000000 in
theorem c_X7_type (l : Launch) (D : va_G) (G : zG) (ad : Nat → Nat) (b : Nat) (u : tX7) (p1 : Int32) (res : Int32 × (Nat → Int32) × Int32) (hf : q_X7_type u p1 = some res) : zMi l yX7_type cX7_type 2 (some .int) 1 22 D G (wX7 G ad b u) (wX7 G ad b (u.1, u.2.1, u.2.2.1, u.2.2.2.1, res.2.1, res.2.2, u.2.2.2.2.2.2.1, u.2.2.2.2.2.2.2.1, u.2.2.2.2.2.2.2.2.1, u.2.2.2.2.2.2.2.2.2.1, u.2.2.2.2.2.2.2.2.2.2)) [.ref (ad b), .int p1] res.1 := by
  refine zs_i (plainFor_of_name (by decide)) (Nat.le_of_ble_eq_true rfl) ?_
  intro p e s m args below meth c A Q H ls C0 hret hP hD hS hl
  obtain ⟨hx, hb, hml, hown, hW, hK, hlocks, hF, hr, hA⟩ := id C0
  replace hl : lv_has ls 2 [(0, .ref (ad b)), (1, .int p1)] := hl
  unfold q_X7_type at hf
  refine lv_iload_n hx hb dX7_type_0 rfl (lv_at hl 1 rfl) ?_
  refine lv_bipush (v := 32) hx hb dX7_type_1 (by decide) ?_
  refine lv_bipush (v := 126) hx hb dX7_type_3 (by decide) ?_
  replace hf := zb_s hf
  obtain ⟨r5, hr5, hf⟩ := hf
  refine z_Si (rest := []) C0 kX7_30 (c_X7_within l D G p1 32 126 r5 hr5) (List.Perm.refl _) (List.Perm.refl _) rfl ⟨Nat.le_of_ble_eq_true rfl, Nat.le_of_ble_eq_true rfl⟩ (Nat.le_of_ble_eq_true rfl) rfl hl.1 hP hD hS dX7_type_5 (fun H locs hP hD hS => ?_)
  refine lv_if_ne (tgt := 14) hx hb dX7_type_8 (by decide) (fun c8 => ?_) (fun c8 => ?_)
  · replace hf := zi_n hf c8
    refine lv_aload_n hx hb dX7_type_14 rfl (lv_at hl 0 rfl) ?_
    refine va_get (D := D) (ci := 8) (v := .int u.2.2.2.2.2.1) (C := RX7) (T := TX7) (N := 11) hx hb hW inlX7 hown hK hP 0 rfl rfl 5 (by decide) (hW _ wd_921) (fun _ h9 => h9) rfl dX7_type_15 ?_
    refine lv_bipush (v := 80) hx hb dX7_type_18 (by decide) ?_
    refine lv_icmp_ne (tgt := 26) hx hb dX7_type_20 (by decide) (fun c20 => ?_) (fun c20 => ?_)
    · replace hf := zi_n hf c20
      refine lv_aload_n hx hb dX7_type_26 rfl (lv_at hl 0 rfl) ?_
      refine va_get (D := D) (ci := 8) (v := .ref (ad (b + 4))) (C := RX7) (T := TX7) (N := 11) hx hb hW inlX7 hown hK hP 0 rfl rfl 4 (by decide) (hW _ wd_130) (fun _ h9 => h9) rfl dX7_type_27 ?_
      refine lv_aload_n hx hb dX7_type_30 rfl (lv_at hl 0 rfl) ?_
      refine va_get (D := D) (ci := 8) (v := .int u.2.2.2.2.2.1) (C := RX7) (T := TX7) (N := 11) hx hb hW inlX7 hown hK hP 0 rfl rfl 5 (by decide) (hW _ wd_921) (fun _ h9 => h9) rfl dX7_type_31 ?_
      refine lv_iload_n hx hb dX7_type_34 rfl (lv_at hl 1 rfl) ?_
      replace hf := zs_s hf
      obtain ⟨hi35, s35, es35, hf⟩ := hf
      refine z_iast (ws' := wX7 G ad b (u.1, u.2.1, u.2.2.1, u.2.2.2.1, s35, u.2.2.2.2.2.1, u.2.2.2.2.2.2.1, u.2.2.2.2.2.2.2.1, u.2.2.2.2.2.2.2.2.1, u.2.2.2.2.2.2.2.2.2.1, u.2.2.2.2.2.2.2.2.2.2)) hx hb hK hP hD hS 4 0 rfl rfl hi35 es35 rfl dX7_type_35 (fun H locs hP hD hS => ?_)
      refine lv_aload_n hx hb dX7_type_36 rfl (lv_at hl 0 rfl) ?_
      refine lv_dup hx hb dX7_type_37 rfl ?_
      refine va_get (D := D) (ci := 8) (v := .int u.2.2.2.2.2.1) (C := RX7) (T := TX7) (N := 11) hx hb hW inlX7 hown hK hP 0 rfl rfl 5 (by decide) (hW _ wd_921) (fun _ h9 => h9) rfl dX7_type_38 ?_
      refine lv_iconst (v := 1) hx hb dX7_type_41 (by decide) ?_
      refine lv_iadd hx hb dX7_type_42 ?_
      replace hf := zn_s hf
      obtain ⟨k43, ek43, hf⟩ := hf
      refine z_top ek43 ?_
      refine z_put (ws' := wX7 G ad b (u.1, u.2.1, u.2.2.1, u.2.2.2.1, s35, k43, u.2.2.2.2.2.2.1, u.2.2.2.2.2.2.2.1, u.2.2.2.2.2.2.2.2.1, u.2.2.2.2.2.2.2.2.2.1, u.2.2.2.2.2.2.2.2.2.2)) (ci := 8) (C := RX7) (T := TX7) (N := 11) hx hb hW inlX7 tyX7 tyX7_ok nmX7 hown hK hP hD hS 0 rfl rfl 5 (by decide) (hW _ wd_921) rfl rfl (Nat.le_of_ble_eq_true rfl) rfl dX7_type_43 (fun H locs hP hD hS => ?_)
      refine lv_aload_n hx hb dX7_type_46 rfl (lv_at hl 0 rfl) ?_
      refine va_get (D := D) (ci := 8) (v := .int k43) (C := RX7) (T := TX7) (N := 11) hx hb hW inlX7 hown hK hP 0 rfl rfl 5 (by decide) (hW _ wd_921) (fun _ h9 => h9) rfl dX7_type_47 ?_
      obtain rfl := zo hf
      exact hret _ _ _ _ _ hP hD hS rfl dX7_type_50
    · replace hf := zi_p hf c20
      refine lv_bipush (v := (-4)) hx hb dX7_type_23 (by decide) ?_
      obtain rfl := zo hf
      exact hret _ _ _ _ _ hP hD hS rfl dX7_type_25
  · replace hf := zi_p hf c8
    refine lv_bipush (v := (-2)) hx hb dX7_type_11 (by decide) ?_
    obtain rfl := zo hf
    exact hret _ _ _ _ _ hP hD hS rfl dX7_type_13
noncomputable def q_X7_clearText (u : tX7) : Option (Int32 × Int32) :=
  some (u.2.2.2.2.2.1, 0)
set_option maxRecDepth 100000 in
set_option maxHeartbeats 4000000 in
theorem c_X7_clearText (l : Launch) (D : va_G) (G : zG) (ad : Nat → Nat) (b : Nat) (u : tX7) (res : Int32 × Int32) (hf : q_X7_clearText u = some res) : zMi l yX7_clearText cX7_clearText 2 (some .int) 0 0 D G (wX7 G ad b u) (wX7 G ad b (u.1, u.2.1, u.2.2.1, u.2.2.2.1, u.2.2.2.2.1, res.2, u.2.2.2.2.2.2.1, u.2.2.2.2.2.2.2.1, u.2.2.2.2.2.2.2.2.1, u.2.2.2.2.2.2.2.2.2.1, u.2.2.2.2.2.2.2.2.2.2)) [.ref (ad b)] res.1 := by
  refine zs_i (plainFor_of_name (by decide)) (Nat.le_of_ble_eq_true rfl) ?_
  intro p e s m args below meth c A Q H ls C0 hret hP hD hS hl
  obtain ⟨hx, hb, hml, hown, hW, hK, hlocks, hF, hr, hA⟩ := id C0
  replace hl : lv_has ls 2 [(0, .ref (ad b))] := hl
  unfold q_X7_clearText at hf
  refine lv_aload_n hx hb dX7_clearText_0 rfl (lv_at hl 0 rfl) ?_
  refine va_get (D := D) (ci := 8) (v := .int u.2.2.2.2.2.1) (C := RX7) (T := TX7) (N := 11) hx hb hW inlX7 hown hK hP 0 rfl rfl 5 (by decide) (hW _ wd_921) (fun _ h9 => h9) rfl dX7_clearText_1 ?_
  refine lv_istore_n (lv' := [(1, .int u.2.2.2.2.2.1), (0, .ref (ad b))]) hx hb dX7_clearText_4 rfl hl (by decide) rfl (fun ls hl => ?_)
  refine lv_aload_n hx hb dX7_clearText_5 rfl (lv_at hl 1 rfl) ?_
  refine lv_iconst (v := 0) hx hb dX7_clearText_6 (by decide) ?_
  refine z_put (ws' := wX7 G ad b (u.1, u.2.1, u.2.2.1, u.2.2.2.1, u.2.2.2.2.1, 0, u.2.2.2.2.2.2.1, u.2.2.2.2.2.2.2.1, u.2.2.2.2.2.2.2.2.1, u.2.2.2.2.2.2.2.2.2.1, u.2.2.2.2.2.2.2.2.2.2)) (ci := 8) (C := RX7) (T := TX7) (N := 11) hx hb hW inlX7 tyX7 tyX7_ok nmX7 hown hK hP hD hS 0 rfl rfl 5 (by decide) (hW _ wd_921) rfl rfl (Nat.le_of_ble_eq_true rfl) rfl dX7_clearText_7 (fun H locs hP hD hS => ?_)
  refine lv_iload_n hx hb dX7_clearText_10 rfl (lv_at hl 0 rfl) ?_
  obtain rfl := zo hf
  exact hret _ _ _ _ _ hP hD hS rfl dX7_clearText_11
theorem kX7_240 : zLkV RX7 240 yX7_findError cX7_findError 1 (some .int) 0 := ⟨⟨wd_1003, wd_1004, wd_1005, wd_5, wd_1006⟩, by decide +kernel⟩
noncomputable def q_X7_syntaxError (u : tX7) : Option (Int32 × Int32 × Int32 × Int32 × Int32 × Int32) :=
  zb (q_X7_findError u) fun r1 => some (r1.1, r1.2.1, r1.2.2.1, r1.2.2.2.1, r1.2.2.2.2.1, r1.2.2.2.2.2)
set_option maxRecDepth 100000 in
set_option maxHeartbeats 4000000 in
theorem c_X7_syntaxError (l : Launch) (D : va_G) (G : zG) (ad : Nat → Nat) (b : Nat) (u : tX7) (res : Int32 × Int32 × Int32 × Int32 × Int32 × Int32) (hf : q_X7_syntaxError u = some res) : zMi l yX7_syntaxError cX7_syntaxError 1 (some .int) 6 130 D G (wX7 G ad b u) (wX7 G ad b (u.1, u.2.1, u.2.2.1, u.2.2.2.1, u.2.2.2.2.1, u.2.2.2.2.2.1, res.2.1, res.2.2.1, res.2.2.2.1, res.2.2.2.2.1, res.2.2.2.2.2)) [.ref (ad b)] res.1 := by
  refine zs_i (plainFor_of_name (by decide)) (Nat.le_of_ble_eq_true rfl) ?_
  intro p e s m args below meth c A Q H ls C0 hret hP hD hS hl
  obtain ⟨hx, hb, hml, hown, hW, hK, hlocks, hF, hr, hA⟩ := id C0
  replace hl : lv_has ls 1 [(0, .ref (ad b))] := hl
  unfold q_X7_syntaxError at hf
  refine lv_aload_n hx hb dX7_syntaxError_0 rfl (lv_at hl 0 rfl) ?_
  replace hf := zb_s hf
  obtain ⟨r1, hr1, hf⟩ := hf
  refine z_Vi (rest := []) C0 kX7_240 (c_X7_findError l D G ad (b) u r1 hr1) z_pall z_pall.symm (ci := 8) (T := TX7) (N := 11) rfl rfl rfl ⟨Nat.le_of_ble_eq_true rfl, Nat.le_of_ble_eq_true rfl⟩ (Nat.le_of_ble_eq_true rfl) rfl hl.1 hP hD hS dX7_syntaxError_1 (fun H locs hP hD hS => ?_)
  replace hP : va_P D vwCl (wX7 G ad b (u.1, u.2.1, u.2.2.1, u.2.2.2.1, u.2.2.2.2.1, u.2.2.2.2.2.1, r1.2.1, r1.2.2.1, r1.2.2.2.1, r1.2.2.2.2.1, r1.2.2.2.2.2)) H := hP
  replace hD : va_D A (wX7 G ad b (u.1, u.2.1, u.2.2.1, u.2.2.2.1, u.2.2.2.2.1, u.2.2.2.2.2.1, r1.2.1, r1.2.2.1, r1.2.2.2.1, r1.2.2.2.2.1, r1.2.2.2.2.2)) := hD
  obtain rfl := zo hf
  exact hret _ _ _ _ _ hP hD hS rfl dX7_syntaxError_4
theorem kX7_243 : zLkV RX7 243 yX7_whyNotDone cX7_whyNotDone 1 (some .int) 0 := ⟨⟨wd_1064, wd_1065, wd_1066, wd_5, wd_1067⟩, by decide +kernel⟩
theorem kX7_246 : zLkV RX7 246 yX7_does cX7_does 1 none 0 := ⟨⟨wd_1068, wd_1069, wd_1070, wd_5, wd_1071⟩, by decide +kernel⟩
noncomputable def q_X7_carryOut_J79  (x79_1 : Int32) (w79_0 : tX7) : Option (Int32 × tX7) :=
  some (x79_1, (w79_0.1, w79_0.2.1, w79_0.2.2.1, w79_0.2.2.2.1, w79_0.2.2.2.2.1, 0, w79_0.2.2.2.2.2.2.1, w79_0.2.2.2.2.2.2.2.1, w79_0.2.2.2.2.2.2.2.2.1, w79_0.2.2.2.2.2.2.2.2.2.1, w79_0.2.2.2.2.2.2.2.2.2.2))
noncomputable def q_X7_carryOut_J64 (v25 : Int32 × Int32 × tX7) (r41 : Int32 × Int32 × Int32 × Int32 × Int32 × Int32) (r48 : Int32 × Int32) (y64_0 : Int32) : Option ((Int32 × Int32 × tX7) ⊕ (Int32 × tX7)) :=
  (if y64_0 = 0 then some (Sum.inl (v25.1, y64_0, (v25.2.2.1, v25.2.2.2.1, v25.2.2.2.2.1, v25.2.2.2.2.2.1, v25.2.2.2.2.2.2.1, v25.2.2.2.2.2.2.2.1, r48.2, r41.2.2.1, r41.2.2.2.1, r41.2.2.2.2.1, r41.2.2.2.2.2))) else zb (q_X7_does (v25.2.2.1, v25.2.2.2.1, v25.2.2.2.2.1, v25.2.2.2.2.2.1, v25.2.2.2.2.2.2.1, v25.2.2.2.2.2.2.2.1, r48.2, r41.2.2.1, r41.2.2.2.1, r41.2.2.2.2.1, r41.2.2.2.2.2)) fun r70 => some (Sum.inl ((v25.1 + 1), y64_0, (r70, v25.2.2.2.1, v25.2.2.2.2.1, v25.2.2.2.2.2.1, v25.2.2.2.2.2.2.1, v25.2.2.2.2.2.2.2.1, r48.2, r41.2.2.1, r41.2.2.2.1, r41.2.2.2.2.1, r41.2.2.2.2.2))))
noncomputable def q_X7_carryOut_L25  (v25 : Int32 × Int32 × tX7) : Option ((Int32 × Int32 × tX7) ⊕ (Int32 × tX7)) :=
  (if v25.2.1 = 0 then some (Sum.inr (v25.1, v25.2.2)) else (if v25.2.2.2.2.2.2.2.1 ≤ v25.2.2.2.2.2.2.2.2.1 then some (Sum.inr (v25.1, v25.2.2)) else zb (q_X7_readsCommand v25.2.2) fun r41 => zb (q_X7_isNext (v25.2.2.1, v25.2.2.2.1, v25.2.2.2.2.1, v25.2.2.2.2.2.1, v25.2.2.2.2.2.2.1, v25.2.2.2.2.2.2.2.1, r41.2.1, r41.2.2.1, r41.2.2.2.1, r41.2.2.2.2.1, r41.2.2.2.2.2) 59) fun r48 => zb (q_X7_whyNotDone (v25.2.2.1, v25.2.2.2.1, v25.2.2.2.2.1, v25.2.2.2.2.2.1, v25.2.2.2.2.2.2.1, v25.2.2.2.2.2.2.2.1, r48.2, r41.2.2.1, r41.2.2.2.1, r41.2.2.2.2.1, r41.2.2.2.2.2)) fun r53 => (if r53 = 0 then q_X7_carryOut_J64 v25 r41 r48 1 else q_X7_carryOut_J64 v25 r41 r48 0)))
noncomputable def q_X7_carryOut (u : tX7) : Option (Int32 × tX7) :=
  zb (q_X7_findError u) fun r1 => (if r1.1 = (-6) then zb (q_X7_record (u.1, u.2.1, u.2.2.1, u.2.2.2.1, u.2.2.2.2.1, u.2.2.2.2.2.1, r1.2.1, r1.2.2.1, r1.2.2.2.1, r1.2.2.2.2.1, r1.2.2.2.2.2)) fun r13 => zb (zl 1000000 q_X7_carryOut_L25 (0, 1, (u.1, u.2.1, r13.1, r13.2, u.2.2.2.2.1, u.2.2.2.2.2.1, 0, r1.2.2.1, r1.2.2.2.1, r1.2.2.2.2.1, r1.2.2.2.2.2))) (fun b25 => q_X7_carryOut_J79 b25.1 b25.2) else some ((-5), (u.1, u.2.1, u.2.2.1, u.2.2.2.1, u.2.2.2.2.1, u.2.2.2.2.2.1, r1.2.1, r1.2.2.1, r1.2.2.2.1, r1.2.2.2.2.1, r1.2.2.2.2.2)))
set_option maxRecDepth 100000 in
set_option maxHeartbeats 4000000 in
theorem c_X7_carryOut (l : Launch) (D : va_G) (G : zG) (ad : Nat → Nat) (b : Nat) (u : tX7) (res : Int32 × tX7) (hf : q_X7_carryOut u = some res) : zMi l yX7_carryOut cX7_carryOut 3 (some .int) 8 176 D G (wX7 G ad b u) (wX7 G ad b res.2) [.ref (ad b)] res.1 := by
  refine zs_i (plainFor_of_name (by decide)) (Nat.le_of_ble_eq_true rfl) ?_
  intro p e s m args below meth c A Q H ls C0 hret hP hD hS hl
  obtain ⟨hx, hb, hml, hown, hW, hK, hlocks, hF, hr, hA⟩ := id C0
  replace hl : lv_has ls 3 [(0, .ref (ad b))] := hl
  unfold q_X7_carryOut at hf
  refine lv_aload_n hx hb dX7_carryOut_0 rfl (lv_at hl 0 rfl) ?_
  replace hf := zb_s hf
  obtain ⟨r1, hr1, hf⟩ := hf
  refine z_Vi (rest := []) C0 kX7_240 (c_X7_findError l D G ad (b) u r1 hr1) z_pall z_pall.symm (ci := 8) (T := TX7) (N := 11) rfl rfl rfl ⟨Nat.le_of_ble_eq_true rfl, Nat.le_of_ble_eq_true rfl⟩ (Nat.le_of_ble_eq_true rfl) rfl hl.1 hP hD hS dX7_carryOut_1 (fun H locs hP hD hS => ?_)
  replace hP : va_P D vwCl (wX7 G ad b (u.1, u.2.1, u.2.2.1, u.2.2.2.1, u.2.2.2.2.1, u.2.2.2.2.2.1, r1.2.1, r1.2.2.1, r1.2.2.2.1, r1.2.2.2.2.1, r1.2.2.2.2.2)) H := hP
  replace hD : va_D A (wX7 G ad b (u.1, u.2.1, u.2.2.1, u.2.2.2.1, u.2.2.2.2.1, u.2.2.2.2.2.1, r1.2.1, r1.2.2.1, r1.2.2.2.1, r1.2.2.2.2.1, r1.2.2.2.2.2)) := hD
  refine lv_bipush (v := (-6)) hx hb dX7_carryOut_4 (by decide) ?_
  refine lv_icmp_eq (tgt := 12) hx hb dX7_carryOut_6 (by decide) (fun c6 => ?_) (fun c6 => ?_)
  · replace hf := zi_p hf c6
    refine lv_aload_n hx hb dX7_carryOut_12 rfl (lv_at hl 0 rfl) ?_
    replace hf := zb_s hf
    obtain ⟨r13, hr13, hf⟩ := hf
    refine z_Vv (rest := []) C0 kX7_112 (c_X7_record l D G ad (b) (u.1, u.2.1, u.2.2.1, u.2.2.2.1, u.2.2.2.2.1, u.2.2.2.2.2.1, r1.2.1, r1.2.2.1, r1.2.2.2.1, r1.2.2.2.2.1, r1.2.2.2.2.2) r13 hr13) z_pall z_pall.symm (ci := 8) (T := TX7) (N := 11) rfl rfl rfl ⟨Nat.le_of_ble_eq_true rfl, Nat.le_of_ble_eq_true rfl⟩ (Nat.le_of_ble_eq_true rfl) rfl hl.1 hP hD hS dX7_carryOut_13 (fun H locs hP hD hS => ?_)
    replace hP : va_P D vwCl (wX7 G ad b (u.1, u.2.1, r13.1, r13.2, u.2.2.2.2.1, u.2.2.2.2.2.1, r1.2.1, r1.2.2.1, r1.2.2.2.1, r1.2.2.2.2.1, r1.2.2.2.2.2)) H := hP
    replace hD : va_D A (wX7 G ad b (u.1, u.2.1, r13.1, r13.2, u.2.2.2.2.1, u.2.2.2.2.2.1, r1.2.1, r1.2.2.1, r1.2.2.2.1, r1.2.2.2.2.1, r1.2.2.2.2.2)) := hD
    refine lv_iconst (v := 0) hx hb dX7_carryOut_16 (by decide) ?_
    refine lv_istore_n (lv' := [(1, .int 0), (0, .ref (ad b))]) hx hb dX7_carryOut_17 rfl hl (by decide) rfl (fun ls hl => ?_)
    refine lv_aload_n hx hb dX7_carryOut_18 rfl (lv_at hl 1 rfl) ?_
    refine lv_iconst (v := 0) hx hb dX7_carryOut_19 (by decide) ?_
    refine z_put (ws' := wX7 G ad b (u.1, u.2.1, r13.1, r13.2, u.2.2.2.2.1, u.2.2.2.2.2.1, 0, r1.2.2.1, r1.2.2.2.1, r1.2.2.2.2.1, r1.2.2.2.2.2)) (ci := 8) (C := RX7) (T := TX7) (N := 11) hx hb hW inlX7 tyX7 tyX7_ok nmX7 hown hK hP hD hS 0 rfl rfl 6 (by decide) (hW _ wd_1007) rfl rfl (Nat.le_of_ble_eq_true rfl) rfl dX7_carryOut_20 (fun H locs hP hD hS => ?_)
    refine lv_iconst (v := 1) hx hb dX7_carryOut_23 (by decide) ?_
    refine lv_istore_n (lv' := [(2, .int 1), (1, .int 0), (0, .ref (ad b))]) hx hb dX7_carryOut_24 rfl hl (by decide) rfl (fun ls hl => ?_)
    have J79 : ∀ (x79_1 : Int32) (w79_0 : tX7) (hf : q_X7_carryOut_J79 x79_1 w79_0 = some res) (H : Heap) (locs : List Loc) (hP : va_P D vwCl (wX7 G ad b w79_0) H) (hD : va_D A (wX7 G ad b w79_0)) (hS : va_S A s.heap H locs) (ls : Array Slot) (hl : lv_has ls 3 [(0, .ref (ad b)), (1, .int x79_1)]), W p l e (zRm 8 176) s m args below meth c H locs 0 0 Q (F0 m 79 ls []) := by
      intro x79_1 w79_0 hf H locs hP hD hS ls hl
      unfold q_X7_carryOut_J79 at hf
      refine lv_aload_n hx hb dX7_carryOut_79 rfl (lv_at hl 0 rfl) ?_
      refine lv_iconst (v := 0) hx hb dX7_carryOut_80 (by decide) ?_
      refine z_put (ws' := wX7 G ad b (w79_0.1, w79_0.2.1, w79_0.2.2.1, w79_0.2.2.2.1, w79_0.2.2.2.2.1, 0, w79_0.2.2.2.2.2.2.1, w79_0.2.2.2.2.2.2.2.1, w79_0.2.2.2.2.2.2.2.2.1, w79_0.2.2.2.2.2.2.2.2.2.1, w79_0.2.2.2.2.2.2.2.2.2.2)) (ci := 8) (C := RX7) (T := TX7) (N := 11) hx hb hW inlX7 tyX7 tyX7_ok nmX7 hown hK hP hD hS 0 rfl rfl 5 (by decide) (hW _ wd_921) rfl rfl (Nat.le_of_ble_eq_true rfl) rfl dX7_carryOut_81 (fun H locs hP hD hS => ?_)
      refine lv_iload_n hx hb dX7_carryOut_84 rfl (lv_at hl 1 rfl) ?_
      obtain rfl := zo hf
      exact hret _ _ _ _ _ hP hD hS rfl dX7_carryOut_85
    replace hf := zb_s hf
    obtain ⟨b25, hz25, hk25⟩ := hf
    have L25 : ∀ (n25 : Nat) (v25 : Int32 × Int32 × tX7) (hz25 : zl n25 q_X7_carryOut_L25 v25 = some b25) (H : Heap) (locs : List Loc) (hP : va_P D vwCl (wX7 G ad b v25.2.2) H) (hD : va_D A (wX7 G ad b v25.2.2)) (hS : va_S A s.heap H locs) (ls : Array Slot) (hl : lv_has ls 3 [(0, .ref (ad b)), (1, .int v25.1), (2, .int v25.2.1)]), W p l e (zRm 8 176) s m args below meth c H locs 0 0 Q (F0 m 25 ls []) := by
      intro n25
      induction n25 with
      | zero => intro v25 hz25; exact (zl_0 hz25).elim
      | succ n25 ih25 =>
        intro v25 hz25 H locs hP hD hS ls hl
        obtain ⟨o25, hf, hz25⟩ := zl_s hz25
        unfold q_X7_carryOut_L25 at hf
        refine lv_iload_n hx hb dX7_carryOut_25 rfl (lv_at hl 2 rfl) ?_
        refine lv_if_eq (tgt := 79) hx hb dX7_carryOut_26 (by decide) (fun c26 => ?_) (fun c26 => ?_)
        · replace hf := zi_p hf c26
          have hb25 := zk_r hf hz25
          subst hb25
          replace hf := hk25
          exact J79 v25.1 v25.2.2 hf _ _ hP hD hS _ (lv_sub hl [0, 1] rfl)
        · replace hf := zi_n hf c26
          refine lv_aload_n hx hb dX7_carryOut_29 rfl (lv_at hl 0 rfl) ?_
          refine va_get (D := D) (ci := 8) (v := .int v25.2.2.2.2.2.2.2.2.1) (C := RX7) (T := TX7) (N := 11) hx hb hW inlX7 hown hK hP 0 rfl rfl 6 (by decide) (hW _ wd_1007) (fun _ h9 => h9) rfl dX7_carryOut_30 ?_
          refine lv_aload_n hx hb dX7_carryOut_33 rfl (lv_at hl 0 rfl) ?_
          refine va_get (D := D) (ci := 8) (v := .int v25.2.2.2.2.2.2.2.1) (C := RX7) (T := TX7) (N := 11) hx hb hW inlX7 hown hK hP 0 rfl rfl 5 (by decide) (hW _ wd_921) (fun _ h9 => h9) rfl dX7_carryOut_34 ?_
          refine lv_icmp_ge (tgt := 79) hx hb dX7_carryOut_37 (by decide) (fun c37 => ?_) (fun c37 => ?_)
          · replace hf := zi_p hf c37
            have hb25 := zk_r hf hz25
            subst hb25
            replace hf := hk25
            exact J79 v25.1 v25.2.2 hf _ _ hP hD hS _ (lv_sub hl [0, 1] rfl)
          · replace hf := zi_n hf c37
            refine lv_aload_n hx hb dX7_carryOut_40 rfl (lv_at hl 0 rfl) ?_
            replace hf := zb_s hf
            obtain ⟨r41, hr41, hf⟩ := hf
            refine z_Vi (rest := []) C0 kX7_237 (c_X7_readsCommand l D G ad (b) v25.2.2 r41 hr41) z_pall z_pall.symm (ci := 8) (T := TX7) (N := 11) rfl rfl rfl ⟨Nat.le_of_ble_eq_true rfl, Nat.le_of_ble_eq_true rfl⟩ (Nat.le_of_ble_eq_true rfl) rfl hl.1 hP hD hS dX7_carryOut_41 (fun H locs hP hD hS => ?_)
            replace hP : va_P D vwCl (wX7 G ad b (v25.2.2.1, v25.2.2.2.1, v25.2.2.2.2.1, v25.2.2.2.2.2.1, v25.2.2.2.2.2.2.1, v25.2.2.2.2.2.2.2.1, r41.2.1, r41.2.2.1, r41.2.2.2.1, r41.2.2.2.2.1, r41.2.2.2.2.2)) H := hP
            replace hD : va_D A (wX7 G ad b (v25.2.2.1, v25.2.2.2.1, v25.2.2.2.2.1, v25.2.2.2.2.2.1, v25.2.2.2.2.2.2.1, v25.2.2.2.2.2.2.2.1, r41.2.1, r41.2.2.1, r41.2.2.2.1, r41.2.2.2.2.1, r41.2.2.2.2.2)) := hD
            refine lv_pop hx hb dX7_carryOut_44 rfl ?_
            refine lv_aload_n hx hb dX7_carryOut_45 rfl (lv_at hl 0 rfl) ?_
            refine lv_bipush (v := 59) hx hb dX7_carryOut_46 (by decide) ?_
            replace hf := zb_s hf
            obtain ⟨r48, hr48, hf⟩ := hf
            refine z_Vi (rest := []) C0 kX7_189 (c_X7_isNext l D G ad (b) (v25.2.2.1, v25.2.2.2.1, v25.2.2.2.2.1, v25.2.2.2.2.2.1, v25.2.2.2.2.2.2.1, v25.2.2.2.2.2.2.2.1, r41.2.1, r41.2.2.1, r41.2.2.2.1, r41.2.2.2.2.1, r41.2.2.2.2.2) 59 r48 hr48) z_pall z_pall.symm (ci := 8) (T := TX7) (N := 11) rfl rfl rfl ⟨Nat.le_of_ble_eq_true rfl, Nat.le_of_ble_eq_true rfl⟩ (Nat.le_of_ble_eq_true rfl) rfl hl.1 hP hD hS dX7_carryOut_48 (fun H locs hP hD hS => ?_)
            replace hP : va_P D vwCl (wX7 G ad b (v25.2.2.1, v25.2.2.2.1, v25.2.2.2.2.1, v25.2.2.2.2.2.1, v25.2.2.2.2.2.2.1, v25.2.2.2.2.2.2.2.1, r48.2, r41.2.2.1, r41.2.2.2.1, r41.2.2.2.2.1, r41.2.2.2.2.2)) H := hP
            replace hD : va_D A (wX7 G ad b (v25.2.2.1, v25.2.2.2.1, v25.2.2.2.2.1, v25.2.2.2.2.2.1, v25.2.2.2.2.2.2.1, v25.2.2.2.2.2.2.2.1, r48.2, r41.2.2.1, r41.2.2.2.1, r41.2.2.2.2.1, r41.2.2.2.2.2)) := hD
            refine lv_pop hx hb dX7_carryOut_51 rfl ?_
            refine lv_aload_n hx hb dX7_carryOut_52 rfl (lv_at hl 0 rfl) ?_
            replace hf := zb_s hf
            obtain ⟨r53, hr53, hf⟩ := hf
            refine z_Vi (rest := []) C0 kX7_243 (c_X7_whyNotDone l D G ad (b) (v25.2.2.1, v25.2.2.2.1, v25.2.2.2.2.1, v25.2.2.2.2.2.1, v25.2.2.2.2.2.2.1, v25.2.2.2.2.2.2.2.1, r48.2, r41.2.2.1, r41.2.2.2.1, r41.2.2.2.2.1, r41.2.2.2.2.2) r53 hr53) z_pall z_pall.symm (ci := 8) (T := TX7) (N := 11) rfl rfl rfl ⟨Nat.le_of_ble_eq_true rfl, Nat.le_of_ble_eq_true rfl⟩ (Nat.le_of_ble_eq_true rfl) rfl hl.1 hP hD hS dX7_carryOut_53 (fun H locs hP hD hS => ?_)
            have J64 : ∀ (y64_0 : Int32) (hf : q_X7_carryOut_J64 v25 r41 r48 y64_0 = some o25) (H : Heap) (locs : List Loc) (hP : va_P D vwCl (wX7 G ad b (v25.2.2.1, v25.2.2.2.1, v25.2.2.2.2.1, v25.2.2.2.2.2.1, v25.2.2.2.2.2.2.1, v25.2.2.2.2.2.2.2.1, r48.2, r41.2.2.1, r41.2.2.2.1, r41.2.2.2.2.1, r41.2.2.2.2.2)) H) (hD : va_D A (wX7 G ad b (v25.2.2.1, v25.2.2.2.1, v25.2.2.2.2.1, v25.2.2.2.2.2.1, v25.2.2.2.2.2.2.1, v25.2.2.2.2.2.2.2.1, r48.2, r41.2.2.1, r41.2.2.2.1, r41.2.2.2.2.1, r41.2.2.2.2.2))) (hS : va_S A s.heap H locs) (ls : Array Slot) (hl : lv_has ls 3 [(0, .ref (ad b)), (1, .int v25.1)]), W p l e (zRm 8 176) s m args below meth c H locs 0 0 Q (F0 m 64 ls [.int y64_0]) := by
              intro y64_0 hf H locs hP hD hS ls hl
              unfold q_X7_carryOut_J64 at hf
              refine lv_istore_n (lv' := [(2, .int y64_0), (0, .ref (ad b)), (1, .int v25.1)]) hx hb dX7_carryOut_64 rfl hl (by decide) rfl (fun ls hl => ?_)
              refine lv_iload_n hx hb dX7_carryOut_65 rfl (lv_at hl 0 rfl) ?_
              refine lv_if_eq (tgt := 25) hx hb dX7_carryOut_66 (by decide) (fun c66 => ?_) (fun c66 => ?_)
              · replace hf := zi_p hf c66
                exact ih25 _ (zk_l hf hz25) _ _ hP hD hS _ (lv_sub hl [1, 2, 0] rfl)
              · replace hf := zi_n hf c66
                refine lv_aload_n hx hb dX7_carryOut_69 rfl (lv_at hl 1 rfl) ?_
                replace hf := zb_s hf
                obtain ⟨r70, hr70, hf⟩ := hf
                refine z_Vv (rest := []) C0 kX7_246 (c_X7_does l D G ad (b) (v25.2.2.1, v25.2.2.2.1, v25.2.2.2.2.1, v25.2.2.2.2.2.1, v25.2.2.2.2.2.2.1, v25.2.2.2.2.2.2.2.1, r48.2, r41.2.2.1, r41.2.2.2.1, r41.2.2.2.2.1, r41.2.2.2.2.2) r70 hr70) z_pall z_pall.symm (ci := 8) (T := TX7) (N := 11) rfl rfl rfl ⟨Nat.le_of_ble_eq_true rfl, Nat.le_of_ble_eq_true rfl⟩ (Nat.le_of_ble_eq_true rfl) rfl hl.1 hP hD hS dX7_carryOut_70 (fun H locs hP hD hS => ?_)
                replace hP : va_P D vwCl (wX7 G ad b (r70, v25.2.2.2.1, v25.2.2.2.2.1, v25.2.2.2.2.2.1, v25.2.2.2.2.2.2.1, v25.2.2.2.2.2.2.2.1, r48.2, r41.2.2.1, r41.2.2.2.1, r41.2.2.2.2.1, r41.2.2.2.2.2)) H := hP
                replace hD : va_D A (wX7 G ad b (r70, v25.2.2.2.1, v25.2.2.2.2.1, v25.2.2.2.2.2.1, v25.2.2.2.2.2.2.1, v25.2.2.2.2.2.2.2.1, r48.2, r41.2.2.1, r41.2.2.2.1, r41.2.2.2.2.1, r41.2.2.2.2.2)) := hD
                refine lv_iinc (v := (v25.1 + 1)) (lv' := [(1, .int (v25.1 + 1)), (2, .int y64_0), (0, .ref (ad b))]) hx hb dX7_carryOut_73 hl (k := 2) rfl rfl (by decide) rfl (fun ls hl => ?_)
                refine lv_goto (tgt := 25) hx hb dX7_carryOut_76 (by decide) ?_
                exact ih25 _ (zk_l hf hz25) _ _ hP hD hS _ (lv_sub hl [2, 0, 1] rfl)
            refine lv_if_ne (tgt := 63) hx hb dX7_carryOut_56 (by decide) (fun c56 => ?_) (fun c56 => ?_)
            · replace hf := zi_n hf c56
              refine lv_iconst (v := 0) hx hb dX7_carryOut_63 (by decide) ?_
              exact J64 0 hf _ _ hP hD hS _ (lv_sub hl [0, 1] rfl)
            · replace hf := zi_p hf c56
              refine lv_iconst (v := 1) hx hb dX7_carryOut_59 (by decide) ?_
              refine lv_goto (tgt := 64) hx hb dX7_carryOut_60 (by decide) ?_
              exact J64 1 hf _ _ hP hD hS _ (lv_sub hl [0, 1] rfl)
    exact L25 _ _ hz25 _ _ hP hD hS _ (lv_sub hl [2, 1, 0] rfl)
  · replace hf := zi_n hf c6
    refine lv_bipush (v := (-5)) hx hb dX7_carryOut_9 (by decide) ?_
    obtain rfl := zo hf
    exact hret _ _ _ _ _ hP hD hS rfl dX7_carryOut_11
noncomputable def q_X7_undo (u : tX7) : Option (Int32 × (Nat → Int32) × Int32) :=
  (if u.2.2.2.1 = 0 then some ((-3), u.1, u.2.2.2.1) else zn (u.2.2.2.1 - 1) fun k17 => zb (q_X7_copies 624 104 u.2.2.1 u.1 (k17 * 104) 0) fun r36 => some (k17, r36, k17))
set_option maxRecDepth 100000 in
set_option maxHeartbeats 4000000 in
theorem c_X7_undo (l : Launch) (D : va_G) (G : zG) (ad : Nat → Nat) (b : Nat) (u : tX7) (res : Int32 × (Nat → Int32) × Int32) (hf : q_X7_undo u = some res) : zMi l yX7_undo cX7_undo 1 (some .int) 1 24 D G (wX7 G ad b u) (wX7 G ad b (res.2.1, u.2.1, u.2.2.1, res.2.2, u.2.2.2.2.1, u.2.2.2.2.2.1, u.2.2.2.2.2.2.1, u.2.2.2.2.2.2.2.1, u.2.2.2.2.2.2.2.2.1, u.2.2.2.2.2.2.2.2.2.1, u.2.2.2.2.2.2.2.2.2.2)) [.ref (ad b)] res.1 := by
  refine zs_i (plainFor_of_name (by decide)) (Nat.le_of_ble_eq_true rfl) ?_
  intro p e s m args below meth c A Q H ls C0 hret hP hD hS hl
  obtain ⟨hx, hb, hml, hown, hW, hK, hlocks, hF, hr, hA⟩ := id C0
  replace hl : lv_has ls 1 [(0, .ref (ad b))] := hl
  unfold q_X7_undo at hf
  refine lv_aload_n hx hb dX7_undo_0 rfl (lv_at hl 0 rfl) ?_
  refine va_get (D := D) (ci := 8) (v := .int u.2.2.2.1) (C := RX7) (T := TX7) (N := 11) hx hb hW inlX7 hown hK hP 0 rfl rfl 3 (by decide) (hW _ wd_197) (fun _ h9 => h9) rfl dX7_undo_1 ?_
  refine lv_if_ne (tgt := 10) hx hb dX7_undo_4 (by decide) (fun c4 => ?_) (fun c4 => ?_)
  · replace hf := zi_n hf c4
    refine lv_aload_n hx hb dX7_undo_10 rfl (lv_at hl 0 rfl) ?_
    refine lv_dup hx hb dX7_undo_11 rfl ?_
    refine va_get (D := D) (ci := 8) (v := .int u.2.2.2.1) (C := RX7) (T := TX7) (N := 11) hx hb hW inlX7 hown hK hP 0 rfl rfl 3 (by decide) (hW _ wd_197) (fun _ h9 => h9) rfl dX7_undo_12 ?_
    refine lv_iconst (v := 1) hx hb dX7_undo_15 (by decide) ?_
    refine lv_isub hx hb dX7_undo_16 ?_
    replace hf := zn_s hf
    obtain ⟨k17, ek17, hf⟩ := hf
    refine z_top ek17 ?_
    refine z_put (ws' := wX7 G ad b (u.1, u.2.1, u.2.2.1, k17, u.2.2.2.2.1, u.2.2.2.2.2.1, u.2.2.2.2.2.2.1, u.2.2.2.2.2.2.2.1, u.2.2.2.2.2.2.2.2.1, u.2.2.2.2.2.2.2.2.2.1, u.2.2.2.2.2.2.2.2.2.2)) (ci := 8) (C := RX7) (T := TX7) (N := 11) hx hb hW inlX7 tyX7 tyX7_ok nmX7 hown hK hP hD hS 0 rfl rfl 3 (by decide) (hW _ wd_197) rfl rfl (Nat.le_of_ble_eq_true rfl) rfl dX7_undo_17 (fun H locs hP hD hS => ?_)
    refine lv_aload_n hx hb dX7_undo_20 rfl (lv_at hl 0 rfl) ?_
    refine va_get (D := D) (ci := 8) (v := .ref (ad (b + 3))) (C := RX7) (T := TX7) (N := 11) hx hb hW inlX7 hown hK hP 0 rfl rfl 2 (by decide) (hW _ wd_129) (fun _ h9 => h9) rfl dX7_undo_21 ?_
    refine lv_aload_n hx hb dX7_undo_24 rfl (lv_at hl 0 rfl) ?_
    refine va_get (D := D) (ci := 8) (v := .int k17) (C := RX7) (T := TX7) (N := 11) hx hb hW inlX7 hown hK hP 0 rfl rfl 3 (by decide) (hW _ wd_197) (fun _ h9 => h9) rfl dX7_undo_25 ?_
    refine lv_bipush (v := 104) hx hb dX7_undo_28 (by decide) ?_
    refine lv_imul hx hb dX7_undo_30 ?_
    refine lv_aload_n hx hb dX7_undo_31 rfl (lv_at hl 0 rfl) ?_
    refine va_get (D := D) (ci := 8) (v := .ref (ad (b + 1))) (C := RX7) (T := TX7) (N := 11) hx hb hW inlX7 hown hK hP 0 rfl rfl 0 (by decide) (hW _ wd_127) (fun _ h9 => h9) rfl dX7_undo_32 ?_
    refine lv_iconst (v := 0) hx hb dX7_undo_35 (by decide) ?_
    replace hf := zb_s hf
    obtain ⟨r36, hr36, hf⟩ := hf
    refine z_Sv (rest := []) C0 kX7_26 (c_X7_copies l D G ad (b + 3) ad (b + 1) 624 104 u.2.2.1 u.1 (k17 * 104) 0 r36 hr36) (pmX7_history_state G ad b (u.1, u.2.1, u.2.2.1, k17, u.2.2.2.2.1, u.2.2.2.2.2.1, u.2.2.2.2.2.2.1, u.2.2.2.2.2.2.2.1, u.2.2.2.2.2.2.2.2.1, u.2.2.2.2.2.2.2.2.2.1, u.2.2.2.2.2.2.2.2.2.2)) (pnX7_history_state G ad b (u.1, u.2.1, u.2.2.1, k17, u.2.2.2.2.1, u.2.2.2.2.2.1, u.2.2.2.2.2.2.1, u.2.2.2.2.2.2.2.1, u.2.2.2.2.2.2.2.2.1, u.2.2.2.2.2.2.2.2.2.1, u.2.2.2.2.2.2.2.2.2.2) r36) rfl ⟨Nat.le_of_ble_eq_true rfl, Nat.le_of_ble_eq_true rfl⟩ (Nat.le_of_ble_eq_true rfl) rfl hl.1 hP hD hS dX7_undo_36 (fun H locs hP hD hS => ?_)
    replace hP : va_P D vwCl (wX7 G ad b (r36, u.2.1, u.2.2.1, k17, u.2.2.2.2.1, u.2.2.2.2.2.1, u.2.2.2.2.2.2.1, u.2.2.2.2.2.2.2.1, u.2.2.2.2.2.2.2.2.1, u.2.2.2.2.2.2.2.2.2.1, u.2.2.2.2.2.2.2.2.2.2)) H := hP
    replace hD : va_D A (wX7 G ad b (r36, u.2.1, u.2.2.1, k17, u.2.2.2.2.1, u.2.2.2.2.2.1, u.2.2.2.2.2.2.1, u.2.2.2.2.2.2.2.1, u.2.2.2.2.2.2.2.2.1, u.2.2.2.2.2.2.2.2.2.1, u.2.2.2.2.2.2.2.2.2.2)) := hD
    refine lv_aload_n hx hb dX7_undo_39 rfl (lv_at hl 0 rfl) ?_
    refine va_get (D := D) (ci := 8) (v := .int k17) (C := RX7) (T := TX7) (N := 11) hx hb hW inlX7 hown hK hP 0 rfl rfl 3 (by decide) (hW _ wd_197) (fun _ h9 => h9) rfl dX7_undo_40 ?_
    obtain rfl := zo hf
    exact hret _ _ _ _ _ hP hD hS rfl dX7_undo_43
  · replace hf := zi_p hf c4
    refine lv_bipush (v := (-3)) hx hb dX7_undo_7 (by decide) ?_
    obtain rfl := zo hf
    exact hret _ _ _ _ _ hP hD hS rfl dX7_undo_9
noncomputable def q_X7_digest_J247 (u : tX7) (x247_1 : Int64) : Option (Int64) :=
  zb (q_X7_overdueMany u) fun r253 => zb (q_X7_nextSpan u) fun r265 => some (((31 * ((31 * x247_1) + (Int32.toInt64 r253))) + (Int32.toInt64 r265)))
noncomputable def q_X7_digest_L210 (u : tX7) (v169 : Int64 × Int32) (v210 : Int64 × Int32) : Option ((Int64 × Int32) ⊕ (Int64)) :=
  zb (q_X7_lineLength u v169.2) fun r214 => (if r214 ≤ v210.2 then some (Sum.inr (v210.1)) else zb (q_X7_lineCharacter u v169.2 v210.2) fun r229 => some (Sum.inl (((31 * v210.1) + (Int32.toInt64 r229)), (v210.2 + 1))))
noncomputable def q_X7_digest_J207 (u : tX7) (v169 : Int64 × Int32) (x207_1 : Int64) : Option ((Int64 × Int32) ⊕ (Int64)) :=
  zb (zl 1000000 (q_X7_digest_L210 u v169) (x207_1, 0)) (fun b210 => some (Sum.inl (b210, (v169.2 + 1))))
noncomputable def q_X7_digest_L180 (u : tX7) (v169 : Int64 × Int32) (v180 : Int64 × Int32) : Option ((Int64 × Int32) ⊕ (Int64)) :=
  (if 3 ≤ v180.2 then some (Sum.inr (v180.1)) else zb (q_X7_entryPart u v169.2 v180.2) fun r195 => some (Sum.inl (((31 * v180.1) + (Int32.toInt64 r195)), (v180.2 + 1))))
noncomputable def q_X7_digest_L169 (u : tX7) (v169 : Int64 × Int32) : Option ((Int64 × Int32) ⊕ (Int64)) :=
  zb (q_X7_entriesMany u) fun r171 => (if r171 ≤ v169.2 then some (Sum.inr (v169.1)) else zb (zl 1000000 (q_X7_digest_L180 u v169) (v169.1, 0)) (fun b180 => q_X7_digest_J207 u v169 b180))
noncomputable def q_X7_digest_J155 (u : tX7) (x155_1 : Int64) : Option (Int64) :=
  zb (q_X7_entriesMany u) fun r161 => zb (zl 1000000 (q_X7_digest_L169 u) (((31 * x155_1) + (Int32.toInt64 r161)), 0)) (fun b169 => q_X7_digest_J247 u b169)
noncomputable def q_X7_digest_L104 (u : tX7) (v64 : Int64 × Int32) (v104 : Int64 × Int32) : Option ((Int64 × Int32) ⊕ (Int64)) :=
  (if (u.1 2) ≤ v104.2 then some (Sum.inr (v104.1)) else zb (q_X7_spotSpan u v104.2) fun r118 => (if r118 = v64.2 then zb (q_X7_spotTries u v104.2) fun r133 => some (Sum.inl (((31 * v104.1) + (Int32.toInt64 r133)), (v104.2 + 1))) else some (Sum.inl (v104.1, (v104.2 + 1)))))
noncomputable def q_X7_digest_J101 (u : tX7) (v64 : Int64 × Int32) (x101_1 : Int64) : Option ((Int64 × Int32) ⊕ (Int64)) :=
  zb (zl 1000000 (q_X7_digest_L104 u v64) (x101_1, 0)) (fun b104 => some (Sum.inl (b104, (v64.2 + 1))))
noncomputable def q_X7_digest_L73 (u : tX7) (v64 : Int64 × Int32) (v73 : Int64 × Int32) : Option ((Int64 × Int32) ⊕ (Int64)) :=
  (if 6 < v73.2 then some (Sum.inr (v73.1)) else zb (q_X7_ofSpan u v64.2 v73.2) fun r89 => some (Sum.inl (((31 * v73.1) + (Int32.toInt64 r89)), (v73.2 + 1))))
noncomputable def q_X7_digest_L64 (u : tX7) (v64 : Int64 × Int32) : Option ((Int64 × Int32) ⊕ (Int64)) :=
  (if 8 ≤ v64.2 then some (Sum.inr (v64.1)) else zb (zl 1000000 (q_X7_digest_L73 u v64) (v64.1, 0)) (fun b73 => q_X7_digest_J101 u v64 b73))
noncomputable def q_X7_digest_J62 (u : tX7) (x62_1 : Int64) : Option (Int64) :=
  zb (zl 1000000 (q_X7_digest_L64 u) (x62_1, 0)) (fun b64 => q_X7_digest_J155 u b64)
noncomputable def q_X7_digest_L34 (u : tX7) (v34 : Int64 × Int32) : Option ((Int64 × Int32) ⊕ (Int64)) :=
  (if 5 ≤ v34.2 then some (Sum.inr (v34.1)) else zg 104 u.1 (15 + v34.2) fun a52 => some (Sum.inl (((31 * v34.1) + (Int32.toInt64 a52)), (v34.2 + 1))))
noncomputable def q_X7_digest_J32 (u : tX7) (x32_1 : Int64) : Option (Int64) :=
  zb (zl 1000000 (q_X7_digest_L34 u) (x32_1, 0)) (fun b34 => q_X7_digest_J62 u b34)
noncomputable def q_X7_digest_L6 (u : tX7) (v6 : Int64 × Int32) : Option ((Int64 × Int32) ⊕ (Int64)) :=
  (if 12 < v6.2 then some (Sum.inr (v6.1)) else zg 104 u.1 v6.2 fun a22 => some (Sum.inl (((31 * v6.1) + (Int32.toInt64 a22)), (v6.2 + 1))))
noncomputable def q_X7_digest (u : tX7) : Option (Int64) :=
  zb (zl 1000000 (q_X7_digest_L6 u) (448, 0)) (fun b6 => q_X7_digest_J32 u b6)
set_option maxRecDepth 100000 in
set_option maxHeartbeats 4000000 in
theorem c_X7_digest (l : Launch) (D : va_G) (G : zG) (ad : Nat → Nat) (b : Nat) (u : tX7) (res : Int64) (hf : q_X7_digest u = some res) : zMl l yX7_digest cX7_digest 5 (some .long) 4 91 D G (wX7 G ad b u) (wX7 G ad b u) [.ref (ad b)] res := by
  refine zs_l (plainFor_of_name (by decide)) (Nat.le_of_ble_eq_true rfl) ?_
  intro p e s m args below meth c A Q H ls C0 hret hP hD hS hl
  obtain ⟨hx, hb, hml, hown, hW, hK, hlocks, hF, hr, hA⟩ := id C0
  replace hl : lv_has ls 5 [(0, .ref (ad b))] := hl
  unfold q_X7_digest at hf
  refine lv_ldc2 hx hb hown (hW _ wd_1110) dX7_digest_0 ?_
  refine lv_lstore_n (lv' := [(1, .long 448), (0, .ref (ad b))]) hx hb dX7_digest_3 rfl hl (by decide) rfl (fun ls hl => ?_)
  refine lv_iconst (v := 0) hx hb dX7_digest_4 (by decide) ?_
  refine lv_istore_n (lv' := [(3, .int 0), (1, .long 448), (0, .ref (ad b))]) hx hb dX7_digest_5 rfl hl (by decide) rfl (fun ls hl => ?_)
  have J32 : ∀ (x32_1 : Int64) (hf : q_X7_digest_J32 u x32_1 = some res) (H : Heap) (locs : List Loc) (hP : va_P D vwCl (wX7 G ad b u) H) (hD : va_D A (wX7 G ad b u)) (hS : va_S A s.heap H locs) (ls : Array Slot) (hl : lv_has ls 5 [(0, .ref (ad b)), (1, .long x32_1)]), W p l e (zRm 4 91) s m args below meth c H locs 0 0 Q (F0 m 32 ls []) := by
    intro x32_1 hf H locs hP hD hS ls hl
    unfold q_X7_digest_J32 at hf
    refine lv_iconst (v := 0) hx hb dX7_digest_32 (by decide) ?_
    refine lv_istore_n (lv' := [(3, .int 0), (0, .ref (ad b)), (1, .long x32_1)]) hx hb dX7_digest_33 rfl hl (by decide) rfl (fun ls hl => ?_)
    have J62 : ∀ (x62_1 : Int64) (hf : q_X7_digest_J62 u x62_1 = some res) (H : Heap) (locs : List Loc) (hP : va_P D vwCl (wX7 G ad b u) H) (hD : va_D A (wX7 G ad b u)) (hS : va_S A s.heap H locs) (ls : Array Slot) (hl : lv_has ls 5 [(0, .ref (ad b)), (1, .long x62_1)]), W p l e (zRm 4 91) s m args below meth c H locs 0 0 Q (F0 m 62 ls []) := by
      intro x62_1 hf H locs hP hD hS ls hl
      unfold q_X7_digest_J62 at hf
      refine lv_iconst (v := 0) hx hb dX7_digest_62 (by decide) ?_
      refine lv_istore_n (lv' := [(3, .int 0), (0, .ref (ad b)), (1, .long x62_1)]) hx hb dX7_digest_63 rfl hl (by decide) rfl (fun ls hl => ?_)
      have J155 : ∀ (x155_1 : Int64) (hf : q_X7_digest_J155 u x155_1 = some res) (H : Heap) (locs : List Loc) (hP : va_P D vwCl (wX7 G ad b u) H) (hD : va_D A (wX7 G ad b u)) (hS : va_S A s.heap H locs) (ls : Array Slot) (hl : lv_has ls 5 [(0, .ref (ad b)), (1, .long x155_1)]), W p l e (zRm 4 91) s m args below meth c H locs 0 0 Q (F0 m 155 ls []) := by
        intro x155_1 hf H locs hP hD hS ls hl
        unfold q_X7_digest_J155 at hf
        refine lv_ldc2 hx hb hown (hW _ wd_1111) dX7_digest_155 ?_
        refine lv_lload_n hx hb dX7_digest_158 rfl (lv_at hl 1 rfl) ?_
        refine lv_lmul hx hb dX7_digest_159 ?_
        refine lv_aload_n hx hb dX7_digest_160 rfl (lv_at hl 0 rfl) ?_
        replace hf := zb_s hf
        obtain ⟨r161, hr161, hf⟩ := hf
        refine z_Vi (rest := [.long (31 * x155_1)]) C0 kX7_34 (c_X7_entriesMany l D G ad (b) u r161 hr161) z_pall z_pall.symm (ci := 8) (T := TX7) (N := 11) rfl rfl rfl ⟨Nat.le_of_ble_eq_true rfl, Nat.le_of_ble_eq_true rfl⟩ (Nat.le_of_ble_eq_true rfl) rfl hl.1 hP hD hS dX7_digest_161 (fun H locs hP hD hS => ?_)
        refine lv_i2l (v := (Int32.toInt64 r161)) hx hb dX7_digest_164 rfl ?_
        refine lv_ladd hx hb dX7_digest_165 ?_
        refine lv_lstore_n (lv' := [(1, .long ((31 * x155_1) + (Int32.toInt64 r161))), (0, .ref (ad b))]) hx hb dX7_digest_166 rfl hl (by decide) rfl (fun ls hl => ?_)
        refine lv_iconst (v := 0) hx hb dX7_digest_167 (by decide) ?_
        refine lv_istore_n (lv' := [(3, .int 0), (1, .long ((31 * x155_1) + (Int32.toInt64 r161))), (0, .ref (ad b))]) hx hb dX7_digest_168 rfl hl (by decide) rfl (fun ls hl => ?_)
        have J247 : ∀ (x247_1 : Int64) (hf : q_X7_digest_J247 u x247_1 = some res) (H : Heap) (locs : List Loc) (hP : va_P D vwCl (wX7 G ad b u) H) (hD : va_D A (wX7 G ad b u)) (hS : va_S A s.heap H locs) (ls : Array Slot) (hl : lv_has ls 5 [(0, .ref (ad b)), (1, .long x247_1)]), W p l e (zRm 4 91) s m args below meth c H locs 0 0 Q (F0 m 247 ls []) := by
          intro x247_1 hf H locs hP hD hS ls hl
          unfold q_X7_digest_J247 at hf
          refine lv_ldc2 hx hb hown (hW _ wd_1111) dX7_digest_247 ?_
          refine lv_lload_n hx hb dX7_digest_250 rfl (lv_at hl 1 rfl) ?_
          refine lv_lmul hx hb dX7_digest_251 ?_
          refine lv_aload_n hx hb dX7_digest_252 rfl (lv_at hl 0 rfl) ?_
          replace hf := zb_s hf
          obtain ⟨r253, hr253, hf⟩ := hf
          refine z_Vi (rest := [.long (31 * x247_1)]) C0 kX7_174 (c_X7_overdueMany l D G ad (b) u r253 hr253) z_pall z_pall.symm (ci := 8) (T := TX7) (N := 11) rfl rfl rfl ⟨Nat.le_of_ble_eq_true rfl, Nat.le_of_ble_eq_true rfl⟩ (Nat.le_of_ble_eq_true rfl) rfl hl.1 hP hD hS dX7_digest_253 (fun H locs hP hD hS => ?_)
          refine lv_i2l (v := (Int32.toInt64 r253)) hx hb dX7_digest_256 rfl ?_
          refine lv_ladd hx hb dX7_digest_257 ?_
          refine lv_lstore_n (lv' := [(1, .long ((31 * x247_1) + (Int32.toInt64 r253))), (0, .ref (ad b))]) hx hb dX7_digest_258 rfl hl (by decide) rfl (fun ls hl => ?_)
          refine lv_ldc2 hx hb hown (hW _ wd_1111) dX7_digest_259 ?_
          refine lv_lload_n hx hb dX7_digest_262 rfl (lv_at hl 0 rfl) ?_
          refine lv_lmul hx hb dX7_digest_263 ?_
          refine lv_aload_n hx hb dX7_digest_264 rfl (lv_at hl 1 rfl) ?_
          replace hf := zb_s hf
          obtain ⟨r265, hr265, hf⟩ := hf
          refine z_Vi (rest := [.long (31 * ((31 * x247_1) + (Int32.toInt64 r253)))]) C0 kX7_86 (c_X7_nextSpan l D G ad (b) u r265 hr265) z_pall z_pall.symm (ci := 8) (T := TX7) (N := 11) rfl rfl rfl ⟨Nat.le_of_ble_eq_true rfl, Nat.le_of_ble_eq_true rfl⟩ (Nat.le_of_ble_eq_true rfl) rfl hl.1 hP hD hS dX7_digest_265 (fun H locs hP hD hS => ?_)
          refine lv_i2l (v := (Int32.toInt64 r265)) hx hb dX7_digest_268 rfl ?_
          refine lv_ladd hx hb dX7_digest_269 ?_
          obtain rfl := zo hf
          exact hret _ _ _ _ _ hP hD hS rfl dX7_digest_270
        replace hf := zb_s hf
        obtain ⟨b169, hz169, hk169⟩ := hf
        have L169 : ∀ (n169 : Nat) (v169 : Int64 × Int32) (hz169 : zl n169 (q_X7_digest_L169 u) v169 = some b169) (H : Heap) (locs : List Loc) (hP : va_P D vwCl (wX7 G ad b u) H) (hD : va_D A (wX7 G ad b u)) (hS : va_S A s.heap H locs) (ls : Array Slot) (hl : lv_has ls 5 [(0, .ref (ad b)), (1, .long v169.1), (3, .int v169.2)]), W p l e (zRm 4 91) s m args below meth c H locs 0 0 Q (F0 m 169 ls []) := by
          intro n169
          induction n169 with
          | zero => intro v169 hz169; exact (zl_0 hz169).elim
          | succ n169 ih169 =>
            intro v169 hz169 H locs hP hD hS ls hl
            obtain ⟨o169, hf, hz169⟩ := zl_s hz169
            unfold q_X7_digest_L169 at hf
            refine lv_iload_n hx hb dX7_digest_169 rfl (lv_at hl 2 rfl) ?_
            refine lv_aload_n hx hb dX7_digest_170 rfl (lv_at hl 0 rfl) ?_
            replace hf := zb_s hf
            obtain ⟨r171, hr171, hf⟩ := hf
            refine z_Vi (rest := [.int v169.2]) C0 kX7_34 (c_X7_entriesMany l D G ad (b) u r171 hr171) z_pall z_pall.symm (ci := 8) (T := TX7) (N := 11) rfl rfl rfl ⟨Nat.le_of_ble_eq_true rfl, Nat.le_of_ble_eq_true rfl⟩ (Nat.le_of_ble_eq_true rfl) rfl hl.1 hP hD hS dX7_digest_171 (fun H locs hP hD hS => ?_)
            refine lv_icmp_ge (tgt := 247) hx hb dX7_digest_174 (by decide) (fun c174 => ?_) (fun c174 => ?_)
            · replace hf := zi_p hf c174
              have hb169 := zk_r hf hz169
              subst hb169
              replace hf := hk169
              exact J247 v169.1 hf _ _ hP hD hS _ (lv_sub hl [0, 1] rfl)
            · replace hf := zi_n hf c174
              refine lv_iconst (v := 0) hx hb dX7_digest_177 (by decide) ?_
              refine lv_istore (lv' := [(4, .int 0), (0, .ref (ad b)), (1, .long v169.1), (3, .int v169.2)]) hx hb dX7_digest_178 hl (by decide) rfl (fun ls hl => ?_)
              have J207 : ∀ (x207_1 : Int64) (hf : q_X7_digest_J207 u v169 x207_1 = some o169) (H : Heap) (locs : List Loc) (hP : va_P D vwCl (wX7 G ad b u) H) (hD : va_D A (wX7 G ad b u)) (hS : va_S A s.heap H locs) (ls : Array Slot) (hl : lv_has ls 5 [(0, .ref (ad b)), (1, .long x207_1), (3, .int v169.2)]), W p l e (zRm 4 91) s m args below meth c H locs 0 0 Q (F0 m 207 ls []) := by
                intro x207_1 hf H locs hP hD hS ls hl
                unfold q_X7_digest_J207 at hf
                refine lv_iconst (v := 0) hx hb dX7_digest_207 (by decide) ?_
                refine lv_istore (lv' := [(4, .int 0), (0, .ref (ad b)), (1, .long x207_1), (3, .int v169.2)]) hx hb dX7_digest_208 hl (by decide) rfl (fun ls hl => ?_)
                replace hf := zb_s hf
                obtain ⟨b210, hz210, hk210⟩ := hf
                have L210 : ∀ (n210 : Nat) (v210 : Int64 × Int32) (hz210 : zl n210 (q_X7_digest_L210 u v169) v210 = some b210) (H : Heap) (locs : List Loc) (hP : va_P D vwCl (wX7 G ad b u) H) (hD : va_D A (wX7 G ad b u)) (hS : va_S A s.heap H locs) (ls : Array Slot) (hl : lv_has ls 5 [(0, .ref (ad b)), (1, .long v210.1), (3, .int v169.2), (4, .int v210.2)]), W p l e (zRm 4 91) s m args below meth c H locs 0 0 Q (F0 m 210 ls []) := by
                  intro n210
                  induction n210 with
                  | zero => intro v210 hz210; exact (zl_0 hz210).elim
                  | succ n210 ih210 =>
                    intro v210 hz210 H locs hP hD hS ls hl
                    obtain ⟨o210, hf, hz210⟩ := zl_s hz210
                    unfold q_X7_digest_L210 at hf
                    refine lv_iload hx hb dX7_digest_210 (lv_at hl 3 rfl) ?_
                    refine lv_aload_n hx hb dX7_digest_212 rfl (lv_at hl 0 rfl) ?_
                    refine lv_iload_n hx hb dX7_digest_213 rfl (lv_at hl 2 rfl) ?_
                    replace hf := zb_s hf
                    obtain ⟨r214, hr214, hf⟩ := hf
                    refine z_Vi (rest := [.int v210.2]) C0 kX7_168 (c_X7_lineLength l D G ad (b) u v169.2 r214 hr214) z_pall z_pall.symm (ci := 8) (T := TX7) (N := 11) rfl rfl rfl ⟨Nat.le_of_ble_eq_true rfl, Nat.le_of_ble_eq_true rfl⟩ (Nat.le_of_ble_eq_true rfl) rfl hl.1 hP hD hS dX7_digest_214 (fun H locs hP hD hS => ?_)
                    refine lv_icmp_ge (tgt := 241) hx hb dX7_digest_217 (by decide) (fun c217 => ?_) (fun c217 => ?_)
                    · replace hf := zi_p hf c217
                      have hb210 := zk_r hf hz210
                      subst hb210
                      replace hf := hk210
                      refine lv_iinc (v := (v169.2 + 1)) (lv' := [(3, .int (v169.2 + 1)), (0, .ref (ad b)), (1, .long v210.1), (4, .int v210.2)]) hx hb dX7_digest_241 hl (k := 2) rfl rfl (by decide) rfl (fun ls hl => ?_)
                      refine lv_goto (tgt := 169) hx hb dX7_digest_244 (by decide) ?_
                      exact ih169 _ (zk_l hf hz169) _ _ hP hD hS _ (lv_sub hl [1, 2, 0] rfl)
                    · replace hf := zi_n hf c217
                      refine lv_ldc2 hx hb hown (hW _ wd_1111) dX7_digest_220 ?_
                      refine lv_lload_n hx hb dX7_digest_223 rfl (lv_at hl 1 rfl) ?_
                      refine lv_lmul hx hb dX7_digest_224 ?_
                      refine lv_aload_n hx hb dX7_digest_225 rfl (lv_at hl 0 rfl) ?_
                      refine lv_iload_n hx hb dX7_digest_226 rfl (lv_at hl 2 rfl) ?_
                      refine lv_iload hx hb dX7_digest_227 (lv_at hl 3 rfl) ?_
                      replace hf := zb_s hf
                      obtain ⟨r229, hr229, hf⟩ := hf
                      refine z_Vi (rest := [.long (31 * v210.1)]) C0 kX7_171 (c_X7_lineCharacter l D G ad (b) u v169.2 v210.2 r229 hr229) z_pall z_pall.symm (ci := 8) (T := TX7) (N := 11) rfl rfl rfl ⟨Nat.le_of_ble_eq_true rfl, Nat.le_of_ble_eq_true rfl⟩ (Nat.le_of_ble_eq_true rfl) rfl hl.1 hP hD hS dX7_digest_229 (fun H locs hP hD hS => ?_)
                      refine lv_i2l (v := (Int32.toInt64 r229)) hx hb dX7_digest_232 rfl ?_
                      refine lv_ladd hx hb dX7_digest_233 ?_
                      refine lv_lstore_n (lv' := [(1, .long ((31 * v210.1) + (Int32.toInt64 r229))), (0, .ref (ad b)), (3, .int v169.2), (4, .int v210.2)]) hx hb dX7_digest_234 rfl hl (by decide) rfl (fun ls hl => ?_)
                      refine lv_iinc (v := (v210.2 + 1)) (lv' := [(4, .int (v210.2 + 1)), (1, .long ((31 * v210.1) + (Int32.toInt64 r229))), (0, .ref (ad b)), (3, .int v169.2)]) hx hb dX7_digest_235 hl (k := 3) rfl rfl (by decide) rfl (fun ls hl => ?_)
                      refine lv_goto (tgt := 210) hx hb dX7_digest_238 (by decide) ?_
                      exact ih210 _ (zk_l hf hz210) _ _ hP hD hS _ (lv_sub hl [2, 1, 3, 0] rfl)
                exact L210 _ _ hz210 _ _ hP hD hS _ (lv_sub hl [1, 2, 3, 0] rfl)
              replace hf := zb_s hf
              obtain ⟨b180, hz180, hk180⟩ := hf
              have L180 : ∀ (n180 : Nat) (v180 : Int64 × Int32) (hz180 : zl n180 (q_X7_digest_L180 u v169) v180 = some b180) (H : Heap) (locs : List Loc) (hP : va_P D vwCl (wX7 G ad b u) H) (hD : va_D A (wX7 G ad b u)) (hS : va_S A s.heap H locs) (ls : Array Slot) (hl : lv_has ls 5 [(0, .ref (ad b)), (1, .long v180.1), (3, .int v169.2), (4, .int v180.2)]), W p l e (zRm 4 91) s m args below meth c H locs 0 0 Q (F0 m 180 ls []) := by
                intro n180
                induction n180 with
                | zero => intro v180 hz180; exact (zl_0 hz180).elim
                | succ n180 ih180 =>
                  intro v180 hz180 H locs hP hD hS ls hl
                  obtain ⟨o180, hf, hz180⟩ := zl_s hz180
                  unfold q_X7_digest_L180 at hf
                  refine lv_iload hx hb dX7_digest_180 (lv_at hl 3 rfl) ?_
                  refine lv_iconst (v := 3) hx hb dX7_digest_182 (by decide) ?_
                  refine lv_icmp_ge (tgt := 207) hx hb dX7_digest_183 (by decide) (fun c183 => ?_) (fun c183 => ?_)
                  · replace hf := zi_p hf c183
                    have hb180 := zk_r hf hz180
                    subst hb180
                    replace hf := hk180
                    exact J207 v180.1 hf _ _ hP hD hS _ (lv_sub hl [0, 1, 2] rfl)
                  · replace hf := zi_n hf c183
                    refine lv_ldc2 hx hb hown (hW _ wd_1111) dX7_digest_186 ?_
                    refine lv_lload_n hx hb dX7_digest_189 rfl (lv_at hl 1 rfl) ?_
                    refine lv_lmul hx hb dX7_digest_190 ?_
                    refine lv_aload_n hx hb dX7_digest_191 rfl (lv_at hl 0 rfl) ?_
                    refine lv_iload_n hx hb dX7_digest_192 rfl (lv_at hl 2 rfl) ?_
                    refine lv_iload hx hb dX7_digest_193 (lv_at hl 3 rfl) ?_
                    replace hf := zb_s hf
                    obtain ⟨r195, hr195, hf⟩ := hf
                    refine z_Vi (rest := [.long (31 * v180.1)]) C0 kX7_54 (c_X7_entryPart l D G ad (b) u v169.2 v180.2 r195 hr195) z_pall z_pall.symm (ci := 8) (T := TX7) (N := 11) rfl rfl rfl ⟨Nat.le_of_ble_eq_true rfl, Nat.le_of_ble_eq_true rfl⟩ (Nat.le_of_ble_eq_true rfl) rfl hl.1 hP hD hS dX7_digest_195 (fun H locs hP hD hS => ?_)
                    refine lv_i2l (v := (Int32.toInt64 r195)) hx hb dX7_digest_198 rfl ?_
                    refine lv_ladd hx hb dX7_digest_199 ?_
                    refine lv_lstore_n (lv' := [(1, .long ((31 * v180.1) + (Int32.toInt64 r195))), (0, .ref (ad b)), (3, .int v169.2), (4, .int v180.2)]) hx hb dX7_digest_200 rfl hl (by decide) rfl (fun ls hl => ?_)
                    refine lv_iinc (v := (v180.2 + 1)) (lv' := [(4, .int (v180.2 + 1)), (1, .long ((31 * v180.1) + (Int32.toInt64 r195))), (0, .ref (ad b)), (3, .int v169.2)]) hx hb dX7_digest_201 hl (k := 3) rfl rfl (by decide) rfl (fun ls hl => ?_)
                    refine lv_goto (tgt := 180) hx hb dX7_digest_204 (by decide) ?_
                    exact ih180 _ (zk_l hf hz180) _ _ hP hD hS _ (lv_sub hl [2, 1, 3, 0] rfl)
              exact L180 _ _ hz180 _ _ hP hD hS _ (lv_sub hl [1, 2, 3, 0] rfl)
        exact L169 _ _ hz169 _ _ hP hD hS _ (lv_sub hl [2, 1, 0] rfl)
      replace hf := zb_s hf
      obtain ⟨b64, hz64, hk64⟩ := hf
      have L64 : ∀ (n64 : Nat) (v64 : Int64 × Int32) (hz64 : zl n64 (q_X7_digest_L64 u) v64 = some b64) (H : Heap) (locs : List Loc) (hP : va_P D vwCl (wX7 G ad b u) H) (hD : va_D A (wX7 G ad b u)) (hS : va_S A s.heap H locs) (ls : Array Slot) (hl : lv_has ls 5 [(0, .ref (ad b)), (1, .long v64.1), (3, .int v64.2)]), W p l e (zRm 4 91) s m args below meth c H locs 0 0 Q (F0 m 64 ls []) := by
        intro n64
        induction n64 with
        | zero => intro v64 hz64; exact (zl_0 hz64).elim
        | succ n64 ih64 =>
          intro v64 hz64 H locs hP hD hS ls hl
          obtain ⟨o64, hf, hz64⟩ := zl_s hz64
          unfold q_X7_digest_L64 at hf
          refine lv_iload_n hx hb dX7_digest_64 rfl (lv_at hl 2 rfl) ?_
          refine lv_bipush (v := 8) hx hb dX7_digest_65 (by decide) ?_
          refine lv_icmp_ge (tgt := 155) hx hb dX7_digest_67 (by decide) (fun c67 => ?_) (fun c67 => ?_)
          · replace hf := zi_p hf c67
            have hb64 := zk_r hf hz64
            subst hb64
            replace hf := hk64
            exact J155 v64.1 hf _ _ hP hD hS _ (lv_sub hl [0, 1] rfl)
          · replace hf := zi_n hf c67
            refine lv_iconst (v := 0) hx hb dX7_digest_70 (by decide) ?_
            refine lv_istore (lv' := [(4, .int 0), (0, .ref (ad b)), (1, .long v64.1), (3, .int v64.2)]) hx hb dX7_digest_71 hl (by decide) rfl (fun ls hl => ?_)
            have J101 : ∀ (x101_1 : Int64) (hf : q_X7_digest_J101 u v64 x101_1 = some o64) (H : Heap) (locs : List Loc) (hP : va_P D vwCl (wX7 G ad b u) H) (hD : va_D A (wX7 G ad b u)) (hS : va_S A s.heap H locs) (ls : Array Slot) (hl : lv_has ls 5 [(0, .ref (ad b)), (1, .long x101_1), (3, .int v64.2)]), W p l e (zRm 4 91) s m args below meth c H locs 0 0 Q (F0 m 101 ls []) := by
              intro x101_1 hf H locs hP hD hS ls hl
              unfold q_X7_digest_J101 at hf
              refine lv_iconst (v := 0) hx hb dX7_digest_101 (by decide) ?_
              refine lv_istore (lv' := [(4, .int 0), (0, .ref (ad b)), (1, .long x101_1), (3, .int v64.2)]) hx hb dX7_digest_102 hl (by decide) rfl (fun ls hl => ?_)
              replace hf := zb_s hf
              obtain ⟨b104, hz104, hk104⟩ := hf
              have L104 : ∀ (n104 : Nat) (v104 : Int64 × Int32) (hz104 : zl n104 (q_X7_digest_L104 u v64) v104 = some b104) (H : Heap) (locs : List Loc) (hP : va_P D vwCl (wX7 G ad b u) H) (hD : va_D A (wX7 G ad b u)) (hS : va_S A s.heap H locs) (ls : Array Slot) (hl : lv_has ls 5 [(0, .ref (ad b)), (1, .long v104.1), (3, .int v64.2), (4, .int v104.2)]), W p l e (zRm 4 91) s m args below meth c H locs 0 0 Q (F0 m 104 ls []) := by
                intro n104
                induction n104 with
                | zero => intro v104 hz104; exact (zl_0 hz104).elim
                | succ n104 ih104 =>
                  intro v104 hz104 H locs hP hD hS ls hl
                  obtain ⟨o104, hf, hz104⟩ := zl_s hz104
                  unfold q_X7_digest_L104 at hf
                  refine lv_iload hx hb dX7_digest_104 (lv_at hl 3 rfl) ?_
                  refine lv_aload_n hx hb dX7_digest_106 rfl (lv_at hl 0 rfl) ?_
                  refine va_get (D := D) (ci := 8) (v := .ref (ad (b + 1))) (C := RX7) (T := TX7) (N := 11) hx hb hW inlX7 hown hK hP 0 rfl rfl 0 (by decide) (hW _ wd_127) (fun _ h9 => h9) rfl dX7_digest_107 ?_
                  refine lv_iconst (v := 2) hx hb dX7_digest_110 (by decide) ?_
                  refine z_iald (v := (u.1 2)) hx hb hK hP 1 0 rfl rfl (z_in rfl) rfl dX7_digest_111 ?_
                  refine lv_icmp_ge (tgt := 149) hx hb dX7_digest_112 (by decide) (fun c112 => ?_) (fun c112 => ?_)
                  · replace hf := zi_p hf c112
                    have hb104 := zk_r hf hz104
                    subst hb104
                    replace hf := hk104
                    refine lv_iinc (v := (v64.2 + 1)) (lv' := [(3, .int (v64.2 + 1)), (0, .ref (ad b)), (1, .long v104.1), (4, .int v104.2)]) hx hb dX7_digest_149 hl (k := 2) rfl rfl (by decide) rfl (fun ls hl => ?_)
                    refine lv_goto (tgt := 64) hx hb dX7_digest_152 (by decide) ?_
                    exact ih64 _ (zk_l hf hz64) _ _ hP hD hS _ (lv_sub hl [1, 2, 0] rfl)
                  · replace hf := zi_n hf c112
                    refine lv_aload_n hx hb dX7_digest_115 rfl (lv_at hl 0 rfl) ?_
                    refine lv_iload hx hb dX7_digest_116 (lv_at hl 3 rfl) ?_
                    replace hf := zb_s hf
                    obtain ⟨r118, hr118, hf⟩ := hf
                    refine z_Vi (rest := []) C0 kX7_73 (c_X7_spotSpan l D G ad (b) u v104.2 r118 hr118) z_pall z_pall.symm (ci := 8) (T := TX7) (N := 11) rfl rfl rfl ⟨Nat.le_of_ble_eq_true rfl, Nat.le_of_ble_eq_true rfl⟩ (Nat.le_of_ble_eq_true rfl) rfl hl.1 hP hD hS dX7_digest_118 (fun H locs hP hD hS => ?_)
                    refine lv_iload_n hx hb dX7_digest_121 rfl (lv_at hl 2 rfl) ?_
                    refine lv_icmp_ne (tgt := 141) hx hb dX7_digest_122 (by decide) (fun c122 => ?_) (fun c122 => ?_)
                    · replace hf := zi_n hf c122
                      refine lv_lload_n hx hb dX7_digest_141 rfl (lv_at hl 1 rfl) ?_
                      refine lv_lstore_n (lv' := [(1, .long v104.1), (0, .ref (ad b)), (3, .int v64.2), (4, .int v104.2)]) hx hb dX7_digest_142 rfl hl (by decide) rfl (fun ls hl => ?_)
                      refine lv_iinc (v := (v104.2 + 1)) (lv' := [(4, .int (v104.2 + 1)), (1, .long v104.1), (0, .ref (ad b)), (3, .int v64.2)]) hx hb dX7_digest_143 hl (k := 3) rfl rfl (by decide) rfl (fun ls hl => ?_)
                      refine lv_goto (tgt := 104) hx hb dX7_digest_146 (by decide) ?_
                      exact ih104 _ (zk_l hf hz104) _ _ hP hD hS _ (lv_sub hl [2, 1, 3, 0] rfl)
                    · replace hf := zi_p hf c122
                      refine lv_ldc2 hx hb hown (hW _ wd_1111) dX7_digest_125 ?_
                      refine lv_lload_n hx hb dX7_digest_128 rfl (lv_at hl 1 rfl) ?_
                      refine lv_lmul hx hb dX7_digest_129 ?_
                      refine lv_aload_n hx hb dX7_digest_130 rfl (lv_at hl 0 rfl) ?_
                      refine lv_iload hx hb dX7_digest_131 (lv_at hl 3 rfl) ?_
                      replace hf := zb_s hf
                      obtain ⟨r133, hr133, hf⟩ := hf
                      refine z_Vi (rest := [.long (31 * v104.1)]) C0 kX7_70 (c_X7_spotTries l D G ad (b) u v104.2 r133 hr133) z_pall z_pall.symm (ci := 8) (T := TX7) (N := 11) rfl rfl rfl ⟨Nat.le_of_ble_eq_true rfl, Nat.le_of_ble_eq_true rfl⟩ (Nat.le_of_ble_eq_true rfl) rfl hl.1 hP hD hS dX7_digest_133 (fun H locs hP hD hS => ?_)
                      refine lv_i2l (v := (Int32.toInt64 r133)) hx hb dX7_digest_136 rfl ?_
                      refine lv_ladd hx hb dX7_digest_137 ?_
                      refine lv_goto (tgt := 142) hx hb dX7_digest_138 (by decide) ?_
                      refine lv_lstore_n (lv' := [(1, .long ((31 * v104.1) + (Int32.toInt64 r133))), (0, .ref (ad b)), (3, .int v64.2), (4, .int v104.2)]) hx hb dX7_digest_142 rfl hl (by decide) rfl (fun ls hl => ?_)
                      refine lv_iinc (v := (v104.2 + 1)) (lv' := [(4, .int (v104.2 + 1)), (1, .long ((31 * v104.1) + (Int32.toInt64 r133))), (0, .ref (ad b)), (3, .int v64.2)]) hx hb dX7_digest_143 hl (k := 3) rfl rfl (by decide) rfl (fun ls hl => ?_)
                      refine lv_goto (tgt := 104) hx hb dX7_digest_146 (by decide) ?_
                      exact ih104 _ (zk_l hf hz104) _ _ hP hD hS _ (lv_sub hl [2, 1, 3, 0] rfl)
              exact L104 _ _ hz104 _ _ hP hD hS _ (lv_sub hl [1, 2, 3, 0] rfl)
            replace hf := zb_s hf
            obtain ⟨b73, hz73, hk73⟩ := hf
            have L73 : ∀ (n73 : Nat) (v73 : Int64 × Int32) (hz73 : zl n73 (q_X7_digest_L73 u v64) v73 = some b73) (H : Heap) (locs : List Loc) (hP : va_P D vwCl (wX7 G ad b u) H) (hD : va_D A (wX7 G ad b u)) (hS : va_S A s.heap H locs) (ls : Array Slot) (hl : lv_has ls 5 [(0, .ref (ad b)), (1, .long v73.1), (3, .int v64.2), (4, .int v73.2)]), W p l e (zRm 4 91) s m args below meth c H locs 0 0 Q (F0 m 73 ls []) := by
              intro n73
              induction n73 with
              | zero => intro v73 hz73; exact (zl_0 hz73).elim
              | succ n73 ih73 =>
                intro v73 hz73 H locs hP hD hS ls hl
                obtain ⟨o73, hf, hz73⟩ := zl_s hz73
                unfold q_X7_digest_L73 at hf
                refine lv_iload hx hb dX7_digest_73 (lv_at hl 3 rfl) ?_
                refine lv_bipush (v := 6) hx hb dX7_digest_75 (by decide) ?_
                refine lv_icmp_gt (tgt := 101) hx hb dX7_digest_77 (by decide) (fun c77 => ?_) (fun c77 => ?_)
                · replace hf := zi_p hf c77
                  have hb73 := zk_r hf hz73
                  subst hb73
                  replace hf := hk73
                  exact J101 v73.1 hf _ _ hP hD hS _ (lv_sub hl [0, 1, 2] rfl)
                · replace hf := zi_n hf c77
                  refine lv_ldc2 hx hb hown (hW _ wd_1111) dX7_digest_80 ?_
                  refine lv_lload_n hx hb dX7_digest_83 rfl (lv_at hl 1 rfl) ?_
                  refine lv_lmul hx hb dX7_digest_84 ?_
                  refine lv_aload_n hx hb dX7_digest_85 rfl (lv_at hl 0 rfl) ?_
                  refine lv_iload_n hx hb dX7_digest_86 rfl (lv_at hl 2 rfl) ?_
                  refine lv_iload hx hb dX7_digest_87 (lv_at hl 3 rfl) ?_
                  replace hf := zb_s hf
                  obtain ⟨r89, hr89, hf⟩ := hf
                  refine z_Vi (rest := [.long (31 * v73.1)]) C0 kX7_162 (c_X7_ofSpan l D G ad (b) u v64.2 v73.2 r89 hr89) z_pall z_pall.symm (ci := 8) (T := TX7) (N := 11) rfl rfl rfl ⟨Nat.le_of_ble_eq_true rfl, Nat.le_of_ble_eq_true rfl⟩ (Nat.le_of_ble_eq_true rfl) rfl hl.1 hP hD hS dX7_digest_89 (fun H locs hP hD hS => ?_)
                  refine lv_i2l (v := (Int32.toInt64 r89)) hx hb dX7_digest_92 rfl ?_
                  refine lv_ladd hx hb dX7_digest_93 ?_
                  refine lv_lstore_n (lv' := [(1, .long ((31 * v73.1) + (Int32.toInt64 r89))), (0, .ref (ad b)), (3, .int v64.2), (4, .int v73.2)]) hx hb dX7_digest_94 rfl hl (by decide) rfl (fun ls hl => ?_)
                  refine lv_iinc (v := (v73.2 + 1)) (lv' := [(4, .int (v73.2 + 1)), (1, .long ((31 * v73.1) + (Int32.toInt64 r89))), (0, .ref (ad b)), (3, .int v64.2)]) hx hb dX7_digest_95 hl (k := 3) rfl rfl (by decide) rfl (fun ls hl => ?_)
                  refine lv_goto (tgt := 73) hx hb dX7_digest_98 (by decide) ?_
                  exact ih73 _ (zk_l hf hz73) _ _ hP hD hS _ (lv_sub hl [2, 1, 3, 0] rfl)
            exact L73 _ _ hz73 _ _ hP hD hS _ (lv_sub hl [1, 2, 3, 0] rfl)
      exact L64 _ _ hz64 _ _ hP hD hS _ (lv_sub hl [1, 2, 0] rfl)
    replace hf := zb_s hf
    obtain ⟨b34, hz34, hk34⟩ := hf
    have L34 : ∀ (n34 : Nat) (v34 : Int64 × Int32) (hz34 : zl n34 (q_X7_digest_L34 u) v34 = some b34) (H : Heap) (locs : List Loc) (hP : va_P D vwCl (wX7 G ad b u) H) (hD : va_D A (wX7 G ad b u)) (hS : va_S A s.heap H locs) (ls : Array Slot) (hl : lv_has ls 5 [(0, .ref (ad b)), (1, .long v34.1), (3, .int v34.2)]), W p l e (zRm 4 91) s m args below meth c H locs 0 0 Q (F0 m 34 ls []) := by
      intro n34
      induction n34 with
      | zero => intro v34 hz34; exact (zl_0 hz34).elim
      | succ n34 ih34 =>
        intro v34 hz34 H locs hP hD hS ls hl
        obtain ⟨o34, hf, hz34⟩ := zl_s hz34
        unfold q_X7_digest_L34 at hf
        refine lv_iload_n hx hb dX7_digest_34 rfl (lv_at hl 2 rfl) ?_
        refine lv_iconst (v := 5) hx hb dX7_digest_35 (by decide) ?_
        refine lv_icmp_ge (tgt := 62) hx hb dX7_digest_36 (by decide) (fun c36 => ?_) (fun c36 => ?_)
        · replace hf := zi_p hf c36
          have hb34 := zk_r hf hz34
          subst hb34
          replace hf := hk34
          exact J62 v34.1 hf _ _ hP hD hS _ (lv_sub hl [0, 1] rfl)
        · replace hf := zi_n hf c36
          refine lv_ldc2 hx hb hown (hW _ wd_1111) dX7_digest_39 ?_
          refine lv_lload_n hx hb dX7_digest_42 rfl (lv_at hl 1 rfl) ?_
          refine lv_lmul hx hb dX7_digest_43 ?_
          refine lv_aload_n hx hb dX7_digest_44 rfl (lv_at hl 0 rfl) ?_
          refine va_get (D := D) (ci := 8) (v := .ref (ad (b + 1))) (C := RX7) (T := TX7) (N := 11) hx hb hW inlX7 hown hK hP 0 rfl rfl 0 (by decide) (hW _ wd_127) (fun _ h9 => h9) rfl dX7_digest_45 ?_
          refine lv_bipush (v := 15) hx hb dX7_digest_48 (by decide) ?_
          refine lv_iload_n hx hb dX7_digest_50 rfl (lv_at hl 2 rfl) ?_
          refine lv_iadd hx hb dX7_digest_51 ?_
          replace hf := zg_s hf
          obtain ⟨hi52, a52, ea52, hf⟩ := hf
          refine z_iald hx hb hK hP 1 0 rfl rfl hi52 ea52 dX7_digest_52 ?_
          refine lv_i2l (v := (Int32.toInt64 a52)) hx hb dX7_digest_53 rfl ?_
          refine lv_ladd hx hb dX7_digest_54 ?_
          refine lv_lstore_n (lv' := [(1, .long ((31 * v34.1) + (Int32.toInt64 a52))), (0, .ref (ad b)), (3, .int v34.2)]) hx hb dX7_digest_55 rfl hl (by decide) rfl (fun ls hl => ?_)
          refine lv_iinc (v := (v34.2 + 1)) (lv' := [(3, .int (v34.2 + 1)), (1, .long ((31 * v34.1) + (Int32.toInt64 a52))), (0, .ref (ad b))]) hx hb dX7_digest_56 hl (k := 2) rfl rfl (by decide) rfl (fun ls hl => ?_)
          refine lv_goto (tgt := 34) hx hb dX7_digest_59 (by decide) ?_
          exact ih34 _ (zk_l hf hz34) _ _ hP hD hS _ (lv_sub hl [2, 1, 0] rfl)
    exact L34 _ _ hz34 _ _ hP hD hS _ (lv_sub hl [1, 2, 0] rfl)
  replace hf := zb_s hf
  obtain ⟨b6, hz6, hk6⟩ := hf
  have L6 : ∀ (n6 : Nat) (v6 : Int64 × Int32) (hz6 : zl n6 (q_X7_digest_L6 u) v6 = some b6) (H : Heap) (locs : List Loc) (hP : va_P D vwCl (wX7 G ad b u) H) (hD : va_D A (wX7 G ad b u)) (hS : va_S A s.heap H locs) (ls : Array Slot) (hl : lv_has ls 5 [(0, .ref (ad b)), (1, .long v6.1), (3, .int v6.2)]), W p l e (zRm 4 91) s m args below meth c H locs 0 0 Q (F0 m 6 ls []) := by
    intro n6
    induction n6 with
    | zero => intro v6 hz6; exact (zl_0 hz6).elim
    | succ n6 ih6 =>
      intro v6 hz6 H locs hP hD hS ls hl
      obtain ⟨o6, hf, hz6⟩ := zl_s hz6
      unfold q_X7_digest_L6 at hf
      refine lv_iload_n hx hb dX7_digest_6 rfl (lv_at hl 2 rfl) ?_
      refine lv_bipush (v := 12) hx hb dX7_digest_7 (by decide) ?_
      refine lv_icmp_gt (tgt := 32) hx hb dX7_digest_9 (by decide) (fun c9 => ?_) (fun c9 => ?_)
      · replace hf := zi_p hf c9
        have hb6 := zk_r hf hz6
        subst hb6
        replace hf := hk6
        exact J32 v6.1 hf _ _ hP hD hS _ (lv_sub hl [0, 1] rfl)
      · replace hf := zi_n hf c9
        refine lv_ldc2 hx hb hown (hW _ wd_1111) dX7_digest_12 ?_
        refine lv_lload_n hx hb dX7_digest_15 rfl (lv_at hl 1 rfl) ?_
        refine lv_lmul hx hb dX7_digest_16 ?_
        refine lv_aload_n hx hb dX7_digest_17 rfl (lv_at hl 0 rfl) ?_
        refine va_get (D := D) (ci := 8) (v := .ref (ad (b + 1))) (C := RX7) (T := TX7) (N := 11) hx hb hW inlX7 hown hK hP 0 rfl rfl 0 (by decide) (hW _ wd_127) (fun _ h9 => h9) rfl dX7_digest_18 ?_
        refine lv_iload_n hx hb dX7_digest_21 rfl (lv_at hl 2 rfl) ?_
        replace hf := zg_s hf
        obtain ⟨hi22, a22, ea22, hf⟩ := hf
        refine z_iald hx hb hK hP 1 0 rfl rfl hi22 ea22 dX7_digest_22 ?_
        refine lv_i2l (v := (Int32.toInt64 a22)) hx hb dX7_digest_23 rfl ?_
        refine lv_ladd hx hb dX7_digest_24 ?_
        refine lv_lstore_n (lv' := [(1, .long ((31 * v6.1) + (Int32.toInt64 a22))), (0, .ref (ad b)), (3, .int v6.2)]) hx hb dX7_digest_25 rfl hl (by decide) rfl (fun ls hl => ?_)
        refine lv_iinc (v := (v6.2 + 1)) (lv' := [(3, .int (v6.2 + 1)), (1, .long ((31 * v6.1) + (Int32.toInt64 a22))), (0, .ref (ad b))]) hx hb dX7_digest_26 hl (k := 2) rfl rfl (by decide) rfl (fun ls hl => ?_)
        refine lv_goto (tgt := 6) hx hb dX7_digest_29 (by decide) ?_
        exact ih6 _ (zk_l hf hz6) _ _ hP hD hS _ (lv_sub hl [2, 1, 0] rfl)
  exact L6 _ _ hz6 _ _ hP hD hS _ (lv_sub hl [2, 1, 0] rfl)
