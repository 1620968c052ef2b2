noncomputable def q_L_drop_L10 (s7 : Nat → Int32) (v10 : Int32 × (Nat → Int32)) : Option ((Int32 × (Nat → Int32)) ⊕ ((Nat → Int32))) :=
  (if (s7 8) ≤ v10.1 then some (Sum.inr (v10.2)) else zg 6 v10.2 (v10.1 + 1) fun a24 => zs 6 v10.2 v10.1 a24 fun s25 => some (Sum.inl ((v10.1 + 1), s25)))
noncomputable def q_L_drop (u : Nat → Int32) (u1 : Nat → Int32) (p0 : Int32) : Option ((Nat → Int32) × (Nat → Int32)) :=
  zn (upd u 8 ((u 8) - 1)) fun s7 => zb (zl 1000000 (q_L_drop_L10 s7) (p0, u1)) (fun bb10 => some (s7, bb10))
set_option maxRecDepth 100000 in
set_option maxHeartbeats 4000000 in
theorem c_L_drop (l : Launch) (D : va_G) (G : zG) (ad : Nat → Nat) (b : Nat) (ad1 : Nat → Nat) (b1 : Nat) (u : Nat → Int32) (u1 : Nat → Int32) (p0 : Int32) (res : (Nat → Int32) × (Nat → Int32)) (hf : q_L_drop u u1 p0 = some res) : zMv l yL_drop cL_drop 4 none 0 0 D G (wAR G ad b 20 u ++ wAR G ad1 b1 6 u1) (wAR G ad b 20 res.1 ++ wAR G ad1 b1 6 res.2) [.int p0, .ref (ad b), .ref (ad1 b1)] := by
  refine zs_v (by decide +kernel) (Nat.le_of_ble_eq_true rfl) ?_
  intro p e s m args below meth c A Q H ls C0 hret hP hD hS hl
  obtain ⟨hx, hb, hml, hown, hW, hK, hlocks, hF, hr, hA⟩ := id C0
  replace hl : lv_has ls 4 [(0, .int p0), (1, .ref (ad b)), (2, .ref (ad1 b1))] := hl
  unfold q_L_drop at hf
  refine lv_aload_n hx hb dL_drop_0 rfl (lv_at hl 1 rfl) ?_
  refine lv_bipush (v := 8) hx hb dL_drop_1 (by decide) ?_
  refine lv_dup2_11 hx hb dL_drop_3 rfl rfl ?_
  refine z_iald (v := (u 8)) hx hb hK hP 0 0 rfl rfl (z_in rfl) rfl dL_drop_4 ?_
  refine lv_iconst (v := 1) hx hb dL_drop_5 (by decide) ?_
  refine lv_isub hx hb dL_drop_6 ?_
  replace hf := zn_s hf
  obtain ⟨s7, es7, hf⟩ := hf
  refine z_iast (ws' := wAR G ad b 20 s7 ++ wAR G ad1 b1 6 u1) hx hb hK hP hD hS 0 0 rfl rfl (z_in rfl) es7 rfl dL_drop_7 (fun H locs hP hD hS => ?_)
  refine lv_iload_n hx hb dL_drop_8 rfl (lv_at hl 0 rfl) ?_
  refine lv_istore_n (lv' := [(3, .int p0), (0, .int p0), (1, .ref (ad b)), (2, .ref (ad1 b1))]) hx hb dL_drop_9 rfl hl (by decide) rfl (fun ls hl => ?_)
  replace hf := zb_s hf
  obtain ⟨bb10, hz10, hk10⟩ := hf
  have L10 : ∀ (n10 : Nat) (v10 : Int32 × (Nat → Int32)) (hz10 : zl n10 (q_L_drop_L10 s7) v10 = some bb10) (H : Heap) (locs : List Loc) (hP : va_P D vwCl (wAR G ad b 20 s7 ++ wAR G ad1 b1 6 v10.2) H) (hD : va_D A (wAR G ad b 20 s7 ++ wAR G ad1 b1 6 v10.2)) (hS : va_S A s.heap H locs) (ls : Array Slot) (hl : lv_has ls 4 [(1, .ref (ad b)), (2, .ref (ad1 b1)), (3, .int v10.1)]), W p l e (zRm 0 0) s m args below meth c H locs 0 0 Q (F0 m 10 ls []) := by
    intro n10
    induction n10 with
    | zero => intro v10 hz10; exact (zl_0 hz10).elim
    | succ n10 ih10 =>
      intro v10 hz10 H locs hP hD hS ls hl
      obtain ⟨o10, hf, hz10⟩ := zl_s hz10
      unfold q_L_drop_L10 at hf
      refine lv_iload_n hx hb dL_drop_10 rfl (lv_at hl 2 rfl) ?_
      refine lv_aload_n hx hb dL_drop_11 rfl (lv_at hl 0 rfl) ?_
      refine lv_bipush (v := 8) hx hb dL_drop_12 (by decide) ?_
      refine z_iald (v := (s7 8)) hx hb hK hP 0 0 rfl rfl (z_in rfl) rfl dL_drop_14 ?_
      refine lv_icmp_ge (tgt := 32) hx hb dL_drop_15 (by decide) (fun c15 => ?_) (fun c15 => ?_)
      · replace hf := zi_p hf c15
        have hb10 := (zk_r hf hz10).symm
        subst hb10
        replace hf := hk10
        obtain rfl := zo hf
        exact hret _ _ _ _ hP hD hS dL_drop_32
      · replace hf := zi_n hf c15
        refine lv_aload_n hx hb dL_drop_18 rfl (lv_at hl 1 rfl) ?_
        refine lv_iload_n hx hb dL_drop_19 rfl (lv_at hl 2 rfl) ?_
        refine lv_aload_n hx hb dL_drop_20 rfl (lv_at hl 1 rfl) ?_
        refine lv_iload_n hx hb dL_drop_21 rfl (lv_at hl 2 rfl) ?_
        refine lv_iconst (v := 1) hx hb dL_drop_22 (by decide) ?_
        refine lv_iadd hx hb dL_drop_23 ?_
        replace hf := zg_s hf
        obtain ⟨hi24, a24, ea24, hf⟩ := hf
        refine z_iald hx hb hK hP 1 0 rfl rfl hi24 ea24 dL_drop_24 ?_
        replace hf := zs_s hf
        obtain ⟨hi25, s25, es25, hf⟩ := hf
        refine z_iast (ws' := wAR G ad b 20 s7 ++ wAR G ad1 b1 6 s25) hx hb hK hP hD hS 1 0 rfl rfl hi25 es25 rfl dL_drop_25 (fun H locs hP hD hS => ?_)
        refine lv_iinc (v := (v10.1 + 1)) (lv' := [(3, .int (v10.1 + 1)), (1, .ref (ad b)), (2, .ref (ad1 b1))]) hx hb dL_drop_26 hl (k := 2) rfl rfl (by decide) rfl (fun ls hl => ?_)
        refine lv_goto (tgt := 10) hx hb dL_drop_29 (by decide) ?_
        exact ih10 _ (zk_l hf hz10) _ _ hP hD hS _ (lv_sub hl [1, 2, 0] rfl)
  exact L10 _ _ hz10 _ _ hP hD hS _ (lv_sub hl [2, 3, 0] rfl)
noncomputable def q_L_late_L4 (u : Nat → Int32) (u1 : Nat → Int32) (v4 : Int32 × Int32) : Option ((Int32 × Int32) ⊕ (Int32)) :=
  (if 8 ≤ v4.2 then some (Sum.inr (v4.1)) else zg 8 u1 v4.2 fun a16 => (if ((u 0) - a16) ≤ (u 19) then some (Sum.inl ((v4.1 + 0), (v4.2 + 1))) else some (Sum.inl ((v4.1 + 1), (v4.2 + 1)))))
noncomputable def q_L_late (u : Nat → Int32) (u1 : Nat → Int32) : Option (Int32) :=
  zb (zl 1000000 (q_L_late_L4 u u1) (0, 0)) (fun bb4 => some (bb4))
set_option maxRecDepth 100000 in
set_option maxHeartbeats 4000000 in
theorem c_L_late (l : Launch) (D : va_G) (G : zG) (ad : Nat → Nat) (b : Nat) (ad1 : Nat → Nat) (b1 : Nat) (u : Nat → Int32) (u1 : Nat → Int32) (res : Int32) (hf : q_L_late u u1 = some res) : zMi l yL_late cL_late 4 (some .int) 0 0 D G (wAR G ad b 20 u ++ wAR G ad1 b1 8 u1) (wAR G ad b 20 u ++ wAR G ad1 b1 8 u1) [.ref (ad b), .ref (ad1 b1)] res := by
  refine zs_i (by decide +kernel) (Nat.le_of_ble_eq_true rfl) ?_
  intro p e s m args below meth c A Q H ls C0 hret hP hD hS hl
  obtain ⟨hx, hb, hml, hown, hW, hK, hlocks, hF, hr, hA⟩ := id C0
  replace hl : lv_has ls 4 [(0, .ref (ad b)), (1, .ref (ad1 b1))] := hl
  unfold q_L_late at hf
  refine lv_iconst (v := 0) hx hb dL_late_0 (by decide) ?_
  refine lv_istore_n (lv' := [(2, .int 0), (0, .ref (ad b)), (1, .ref (ad1 b1))]) hx hb dL_late_1 rfl hl (by decide) rfl (fun ls hl => ?_)
  refine lv_iconst (v := 0) hx hb dL_late_2 (by decide) ?_
  refine lv_istore_n (lv' := [(3, .int 0), (2, .int 0), (0, .ref (ad b)), (1, .ref (ad1 b1))]) hx hb dL_late_3 rfl hl (by decide) rfl (fun ls hl => ?_)
  replace hf := zb_s hf
  obtain ⟨bb4, hz4, hk4⟩ := hf
  have L4 : ∀ (n4 : Nat) (v4 : Int32 × Int32) (hz4 : zl n4 (q_L_late_L4 u u1) v4 = some bb4) (H : Heap) (locs : List Loc) (hP : va_P D vwCl (wAR G ad b 20 u ++ wAR G ad1 b1 8 u1) H) (hD : va_D A (wAR G ad b 20 u ++ wAR G ad1 b1 8 u1)) (hS : va_S A s.heap H locs) (ls : Array Slot) (hl : lv_has ls 4 [(0, .ref (ad b)), (1, .ref (ad1 b1)), (2, .int v4.1), (3, .int v4.2)]), W p l e (zRm 0 0) s m args below meth c H locs 0 0 Q (F0 m 4 ls []) := by
    intro n4
    induction n4 with
    | zero => intro v4 hz4; exact (zl_0 hz4).elim
    | succ n4 ih4 =>
      intro v4 hz4 H locs hP hD hS ls hl
      obtain ⟨o4, hf, hz4⟩ := zl_s hz4
      unfold q_L_late_L4 at hf
      refine lv_iload_n hx hb dL_late_4 rfl (lv_at hl 3 rfl) ?_
      refine lv_bipush (v := 8) hx hb dL_late_5 (by decide) ?_
      refine lv_icmp_ge (tgt := 38) hx hb dL_late_7 (by decide) (fun c7 => ?_) (fun c7 => ?_)
      · replace hf := zi_p hf c7
        have hb4 := (zk_r hf hz4).symm
        subst hb4
        replace hf := hk4
        refine lv_iload_n hx hb dL_late_38 rfl (lv_at hl 2 rfl) ?_
        obtain rfl := zo hf
        exact hret _ _ _ _ _ hP hD hS rfl dL_late_39
      · replace hf := zi_n hf c7
        refine lv_iload_n hx hb dL_late_10 rfl (lv_at hl 2 rfl) ?_
        refine lv_aload_n hx hb dL_late_11 rfl (lv_at hl 0 rfl) ?_
        refine lv_iconst (v := 0) hx hb dL_late_12 (by decide) ?_
        refine z_iald (v := (u 0)) hx hb hK hP 0 0 rfl rfl (z_in rfl) rfl dL_late_13 ?_
        refine lv_aload_n hx hb dL_late_14 rfl (lv_at hl 1 rfl) ?_
        refine lv_iload_n hx hb dL_late_15 rfl (lv_at hl 3 rfl) ?_
        replace hf := zg_s hf
        obtain ⟨hi16, a16, ea16, hf⟩ := hf
        refine z_iald hx hb hK hP 1 0 rfl rfl hi16 ea16 dL_late_16 ?_
        refine lv_isub hx hb dL_late_17 ?_
        refine lv_aload_n hx hb dL_late_18 rfl (lv_at hl 0 rfl) ?_
        refine lv_bipush (v := 19) hx hb dL_late_19 (by decide) ?_
        refine z_iald (v := (u 19)) hx hb hK hP 0 0 rfl rfl (z_in rfl) rfl dL_late_21 ?_
        refine lv_icmp_le (tgt := 29) hx hb dL_late_22 (by decide) (fun c22 => ?_) (fun c22 => ?_)
        · replace hf := zi_p hf c22
          refine lv_iconst (v := 0) hx hb dL_late_29 (by decide) ?_
          refine lv_iadd hx hb dL_late_30 ?_
          refine lv_istore_n (lv' := [(2, .int (v4.1 + 0)), (0, .ref (ad b)), (1, .ref (ad1 b1)), (3, .int v4.2)]) hx hb dL_late_31 rfl hl (by decide) rfl (fun ls hl => ?_)
          refine lv_iinc (v := (v4.2 + 1)) (lv' := [(3, .int (v4.2 + 1)), (2, .int (v4.1 + 0)), (0, .ref (ad b)), (1, .ref (ad1 b1))]) hx hb dL_late_32 hl (k := 3) rfl rfl (by decide) rfl (fun ls hl => ?_)
          refine lv_goto (tgt := 4) hx hb dL_late_35 (by decide) ?_
          exact ih4 _ (zk_l hf hz4) _ _ hP hD hS _ (lv_sub hl [2, 3, 1, 0] rfl)
        · replace hf := zi_n hf c22
          refine lv_iconst (v := 1) hx hb dL_late_25 (by decide) ?_
          refine lv_goto (tgt := 30) hx hb dL_late_26 (by decide) ?_
          refine lv_iadd hx hb dL_late_30 ?_
          refine lv_istore_n (lv' := [(2, .int (v4.1 + 1)), (0, .ref (ad b)), (1, .ref (ad1 b1)), (3, .int v4.2)]) hx hb dL_late_31 rfl hl (by decide) rfl (fun ls hl => ?_)
          refine lv_iinc (v := (v4.2 + 1)) (lv' := [(3, .int (v4.2 + 1)), (2, .int (v4.1 + 1)), (0, .ref (ad b)), (1, .ref (ad1 b1))]) hx hb dL_late_32 hl (k := 3) rfl rfl (by decide) rfl (fun ls hl => ?_)
          refine lv_goto (tgt := 4) hx hb dL_late_35 (by decide) ?_
          exact ih4 _ (zk_l hf hz4) _ _ hP hD hS _ (lv_sub hl [2, 3, 1, 0] rfl)
  exact L4 _ _ hz4 _ _ hP hD hS _ (lv_sub hl [2, 3, 1, 0] rfl)
noncomputable def q_L_letter_J58 (p1 : Int32) (y58_0 : Int64) : Option (Int32) :=
  (if p1 ≤ 7 then some ((Int64.toInt32 ((y58_0 >>> (Int32.toInt64 (8 * p1) &&& 63)) &&& 255))) else some (0))
noncomputable def q_L_letter (p0 : Int32) (p1 : Int32) : Option (Int32) :=
  (if p0 = 1 then q_L_letter_J58 p1 126918051980642 else (if p0 = 2 then q_L_letter_J58 p1 126879565963632 else (if p0 = 3 then q_L_letter_J58 p1 1935961701 else (if p0 = 4 then q_L_letter_J58 p1 7234297646522852722 else (if p0 = 5 then q_L_letter_J58 p1 495957668979 else q_L_letter_J58 p1 2003790963)))))
set_option maxRecDepth 100000 in
set_option maxHeartbeats 4000000 in
theorem c_L_letter (l : Launch) (D : va_G) (G : zG)  (p0 : Int32) (p1 : Int32) (res : Int32) (hf : q_L_letter p0 p1 = some res) : zMi l yL_letter cL_letter 4 (some .int) 0 0 D G (([] : va_W)) (([] : va_W)) [.int p0, .int p1] res := by
  refine zs_i (by decide +kernel) (Nat.le_of_ble_eq_true rfl) ?_
  intro p e s m args below meth c A Q H ls C0 hret hP hD hS hl
  obtain ⟨hx, hb, hml, hown, hW, hK, hlocks, hF, hr, hA⟩ := id C0
  replace hl : lv_has ls 4 [(0, .int p0), (1, .int p1)] := hl
  unfold q_L_letter at hf
  refine lv_iload_n hx hb dL_letter_0 rfl (lv_at hl 0 rfl) ?_
  refine lv_iconst (v := 1) hx hb dL_letter_1 (by decide) ?_
  have J58 : ∀ (y58_0 : Int64) (hf : q_L_letter_J58 p1 y58_0 = some res) (H : Heap) (locs : List Loc) (hP : va_P D vwCl (([] : va_W)) H) (hD : va_D A (([] : va_W))) (hS : va_S A s.heap H locs) (ls : Array Slot) (hl : lv_has ls 4 [(1, .int p1)]), W p l e (zRm 0 0) s m args below meth c H locs 0 0 Q (F0 m 58 ls [.long y58_0]) := by
    intro y58_0 hf H locs hP hD hS ls hl
    unfold q_L_letter_J58 at hf
    refine lv_lstore_n (lv' := [(2, .long y58_0), (1, .int p1)]) hx hb dL_letter_58 rfl hl (by decide) rfl (fun ls hl => ?_)
    refine lv_iload_n hx hb dL_letter_59 rfl (lv_at hl 1 rfl) ?_
    refine lv_bipush (v := 7) hx hb dL_letter_60 (by decide) ?_
    refine lv_icmp_le (tgt := 69) hx hb dL_letter_62 (by decide) (fun c62 => ?_) (fun c62 => ?_)
    · replace hf := zi_p hf c62
      refine lv_lload_n hx hb dL_letter_69 rfl (lv_at hl 0 rfl) ?_
      refine lv_bipush (v := 8) hx hb dL_letter_70 (by decide) ?_
      refine lv_iload_n hx hb dL_letter_72 rfl (lv_at hl 1 rfl) ?_
      refine lv_imul hx hb dL_letter_73 ?_
      refine lv_lshr (v := (y58_0 >>> (Int32.toInt64 (8 * p1) &&& 63))) hx hb dL_letter_74 rfl ?_
      refine lv_ldc2 hx hb hown (hW _ wd_666) dL_letter_75 ?_
      refine lv_land hx hb dL_letter_78 ?_
      refine lv_l2i (v := (Int64.toInt32 ((y58_0 >>> (Int32.toInt64 (8 * p1) &&& 63)) &&& 255))) hx hb dL_letter_79 rfl ?_
      obtain rfl := zo hf
      exact hret _ _ _ _ _ hP hD hS rfl dL_letter_80
    · replace hf := zi_n hf c62
      refine lv_iconst (v := 0) hx hb dL_letter_65 (by decide) ?_
      refine lv_goto (tgt := 80) hx hb dL_letter_66 (by decide) ?_
      obtain rfl := zo hf
      exact hret _ _ _ _ _ hP hD hS rfl dL_letter_80
  refine lv_icmp_ne (tgt := 11) hx hb dL_letter_2 (by decide) (fun c2 => ?_) (fun c2 => ?_)
  · replace hf := zi_n hf c2
    refine lv_iload_n hx hb dL_letter_11 rfl (lv_at hl 0 rfl) ?_
    refine lv_iconst (v := 2) hx hb dL_letter_12 (by decide) ?_
    refine lv_icmp_ne (tgt := 22) hx hb dL_letter_13 (by decide) (fun c13 => ?_) (fun c13 => ?_)
    · replace hf := zi_n hf c13
      refine lv_iload_n hx hb dL_letter_22 rfl (lv_at hl 0 rfl) ?_
      refine lv_iconst (v := 3) hx hb dL_letter_23 (by decide) ?_
      refine lv_icmp_ne (tgt := 33) hx hb dL_letter_24 (by decide) (fun c24 => ?_) (fun c24 => ?_)
      · replace hf := zi_n hf c24
        refine lv_iload_n hx hb dL_letter_33 rfl (lv_at hl 0 rfl) ?_
        refine lv_iconst (v := 4) hx hb dL_letter_34 (by decide) ?_
        refine lv_icmp_ne (tgt := 44) hx hb dL_letter_35 (by decide) (fun c35 => ?_) (fun c35 => ?_)
        · replace hf := zi_n hf c35
          refine lv_iload_n hx hb dL_letter_44 rfl (lv_at hl 0 rfl) ?_
          refine lv_iconst (v := 5) hx hb dL_letter_45 (by decide) ?_
          refine lv_icmp_ne (tgt := 55) hx hb dL_letter_46 (by decide) (fun c46 => ?_) (fun c46 => ?_)
          · replace hf := zi_n hf c46
            refine lv_ldc2 hx hb hown (hW _ wd_665) dL_letter_55 ?_
            exact J58 2003790963 hf _ _ hP hD hS _ (lv_sub hl [1] rfl)
          · replace hf := zi_p hf c46
            refine lv_ldc2 hx hb hown (hW _ wd_664) dL_letter_49 ?_
            refine lv_goto (tgt := 58) hx hb dL_letter_52 (by decide) ?_
            exact J58 495957668979 hf _ _ hP hD hS _ (lv_sub hl [1] rfl)
        · replace hf := zi_p hf c35
          refine lv_ldc2 hx hb hown (hW _ wd_663) dL_letter_38 ?_
          refine lv_goto (tgt := 58) hx hb dL_letter_41 (by decide) ?_
          exact J58 7234297646522852722 hf _ _ hP hD hS _ (lv_sub hl [1] rfl)
      · replace hf := zi_p hf c24
        refine lv_ldc2 hx hb hown (hW _ wd_662) dL_letter_27 ?_
        refine lv_goto (tgt := 58) hx hb dL_letter_30 (by decide) ?_
        exact J58 1935961701 hf _ _ hP hD hS _ (lv_sub hl [1] rfl)
    · replace hf := zi_p hf c13
      refine lv_ldc2 hx hb hown (hW _ wd_661) dL_letter_16 ?_
      refine lv_goto (tgt := 58) hx hb dL_letter_19 (by decide) ?_
      exact J58 126879565963632 hf _ _ hP hD hS _ (lv_sub hl [1] rfl)
  · replace hf := zi_p hf c2
    refine lv_ldc2 hx hb hown (hW _ wd_660) dL_letter_5 ?_
    refine lv_goto (tgt := 58) hx hb dL_letter_8 (by decide) ?_
    exact J58 126918051980642 hf _ _ hP hD hS _ (lv_sub hl [1] rfl)
