noncomputable def q_L_low (p0 : Int32) (p1 : Int32) : Option (Int32) :=
  zq (¬ p1 = 0) (some (((p0 &&& 2147483647) - (p0 &&& 2147483647) / p1 * p1)))
set_option maxRecDepth 100000 in
set_option maxHeartbeats 4000000 in
theorem c_L_low (l : Launch) (D : va_G) (G : zG)  (p0 : Int32) (p1 : Int32) (res : Int32) (hf : q_L_low p0 p1 = some res) : zMi l yL_low cL_low 2 (some .int) 0 0 D G (([] : va_W)) (([] : va_W)) [.int p0, .int p1] res := by
  refine zs_i (by decide +kernel) (Nat.le_of_ble_eq_true rfl) ?_
  intro p e s m args below meth c A Q H ls C0 hret hP hD hS hl
  obtain ⟨hx, hb, hml, hown, hW, hK, hlocks, hF, hr, hA⟩ := id C0
  replace hl : lv_has ls 2 [(0, .int p0), (1, .int p1)] := hl
  unfold q_L_low at hf
  refine lv_iload_n hx hb dL_low_0 rfl (lv_at hl 0 rfl) ?_
  refine lv_ldc hx hb hown (hW _ wd_129) dL_low_1 ?_
  refine lv_iand hx hb dL_low_3 ?_
  refine lv_iload_n hx hb dL_low_4 rfl (lv_at hl 1 rfl) ?_
  replace hf := zq_s hf
  obtain ⟨hq, hf⟩ := hf
  refine lv_irem hx hb dL_low_5 hq ?_
  obtain rfl := zo hf
  exact hret _ _ _ _ _ hP hD hS rfl dL_low_6
noncomputable def q_L_log_J53 (u : Nat → Int32) (p0 : Int32) (p1 : Int32) (w35_0 : Nat → Int32) (y53_0 : Int32) : Option ((Nat → Int32) × (Nat → Int32)) :=
  zs 30 w35_0 (3 * y53_0) (u 0) fun s63 => zs 30 s63 ((3 * y53_0) + 1) p0 fun s72 => zs 30 s72 ((3 * y53_0) + 2) p1 fun s81 => zn (upd u 14 ((u 14) + 1)) fun s89 => some (s89, s81)
noncomputable def q_L_log_J35 (u : Nat → Int32) (p0 : Int32) (p1 : Int32) (w35_0 : Nat → Int32) : Option ((Nat → Int32) × (Nat → Int32)) :=
  (if 10 ≤ (u 14) then q_L_log_J53 u p0 p1 w35_0 9 else q_L_log_J53 u p0 p1 w35_0 (u 14))
noncomputable def q_L_log_L12  (v12 : Int32 × (Nat → Int32)) : Option ((Int32 × (Nat → Int32)) ⊕ ((Nat → Int32))) :=
  (if 27 ≤ v12.1 then some (Sum.inr (v12.2)) else zg 30 v12.2 (v12.1 + 3) fun a27 => zs 30 v12.2 v12.1 a27 fun s28 => some (Sum.inl ((v12.1 + 1), s28)))
noncomputable def q_L_log (u : Nat → Int32) (u1 : Nat → Int32) (p0 : Int32) (p1 : Int32) : Option ((Nat → Int32) × (Nat → Int32)) :=
  (if (u 14) < 10 then q_L_log_J35 u p0 p1 u1 else zb (zl 1000000 q_L_log_L12 (0, u1)) (fun b12 => q_L_log_J35 u p0 p1 b12))
set_option maxRecDepth 100000 in
set_option maxHeartbeats 4000000 in
theorem c_L_log (l : Launch) (D : va_G) (G : zG) (ad : Nat → Nat) (b : Nat) (ad1 : Nat → Nat) (b1 : Nat) (u : Nat → Int32) (u1 : Nat → Int32) (p0 : Int32) (p1 : Int32) (res : (Nat → Int32) × (Nat → Int32)) (hf : q_L_log u u1 p0 p1 = some res) : zMv l yL_log cL_log 5 none 0 0 D G (wAR G ad b 20 u ++ wAR G ad1 b1 30 u1) (wAR G ad b 20 res.1 ++ wAR G ad1 b1 30 res.2) [.int p0, .int p1, .ref (ad b), .ref (ad1 b1)] := by
  refine zs_v (by decide +kernel) (Nat.le_of_ble_eq_true rfl) ?_
  intro p e s m args below meth c A Q H ls C0 hret hP hD hS hl
  obtain ⟨hx, hb, hml, hown, hW, hK, hlocks, hF, hr, hA⟩ := id C0
  replace hl : lv_has ls 5 [(0, .int p0), (1, .int p1), (2, .ref (ad b)), (3, .ref (ad1 b1))] := hl
  unfold q_L_log at hf
  refine lv_aload_n hx hb dL_log_0 rfl (lv_at hl 2 rfl) ?_
  refine lv_bipush (v := 14) hx hb dL_log_1 (by decide) ?_
  refine z_iald (v := (u 14)) hx hb hK hP 0 0 rfl rfl (z_in rfl) rfl dL_log_3 ?_
  refine lv_bipush (v := 10) hx hb dL_log_4 (by decide) ?_
  have J35 : ∀ (w35_0 : Nat → Int32) (hf : q_L_log_J35 u p0 p1 w35_0 = some res) (H : Heap) (locs : List Loc) (hP : va_P D vwCl (wAR G ad b 20 u ++ wAR G ad1 b1 30 w35_0) H) (hD : va_D A (wAR G ad b 20 u ++ wAR G ad1 b1 30 w35_0)) (hS : va_S A s.heap H locs) (ls : Array Slot) (hl : lv_has ls 5 [(0, .int p0), (1, .int p1), (2, .ref (ad b)), (3, .ref (ad1 b1))]), W p l e (zRm 0 0) s m args below meth c H locs 0 0 Q (F0 m 35 ls []) := by
    intro w35_0 hf H locs hP hD hS ls hl
    unfold q_L_log_J35 at hf
    refine lv_aload_n hx hb dL_log_35 rfl (lv_at hl 2 rfl) ?_
    refine lv_bipush (v := 14) hx hb dL_log_36 (by decide) ?_
    refine z_iald (v := (u 14)) hx hb hK hP 0 0 rfl rfl (z_in rfl) rfl dL_log_38 ?_
    refine lv_bipush (v := 10) hx hb dL_log_39 (by decide) ?_
    have J53 : ∀ (y53_0 : Int32) (hf : q_L_log_J53 u p0 p1 w35_0 y53_0 = some res) (H : Heap) (locs : List Loc) (hP : va_P D vwCl (wAR G ad b 20 u ++ wAR G ad1 b1 30 w35_0) H) (hD : va_D A (wAR G ad b 20 u ++ wAR G ad1 b1 30 w35_0)) (hS : va_S A s.heap H locs) (ls : Array Slot) (hl : lv_has ls 5 [(0, .int p0), (1, .int p1), (2, .ref (ad b)), (3, .ref (ad1 b1))]), W p l e (zRm 0 0) s m args below meth c H locs 0 0 Q (F0 m 53 ls [.int y53_0]) := by
      intro y53_0 hf H locs hP hD hS ls hl
      unfold q_L_log_J53 at hf
      refine lv_istore (lv' := [(4, .int y53_0), (0, .int p0), (1, .int p1), (2, .ref (ad b)), (3, .ref (ad1 b1))]) hx hb dL_log_53 hl (by decide) rfl (fun ls hl => ?_)
      refine lv_aload_n hx hb dL_log_55 rfl (lv_at hl 4 rfl) ?_
      refine lv_iconst (v := 3) hx hb dL_log_56 (by decide) ?_
      refine lv_iload hx hb dL_log_57 (lv_at hl 0 rfl) ?_
      refine lv_imul hx hb dL_log_59 ?_
      refine lv_aload_n hx hb dL_log_60 rfl (lv_at hl 3 rfl) ?_
      refine lv_iconst (v := 0) hx hb dL_log_61 (by decide) ?_
      refine z_iald (v := (u 0)) hx hb hK hP 0 0 rfl rfl (z_in rfl) rfl dL_log_62 ?_
      replace hf := zs_s hf
      obtain ⟨hi63, s63, es63, hf⟩ := hf
      refine z_iast (ws' := wAR G ad b 20 u ++ wAR G ad1 b1 30 s63) hx hb hK hP hD hS 1 0 rfl rfl hi63 es63 rfl dL_log_63 (fun H locs hP hD hS => ?_)
      refine lv_aload_n hx hb dL_log_64 rfl (lv_at hl 4 rfl) ?_
      refine lv_iconst (v := 3) hx hb dL_log_65 (by decide) ?_
      refine lv_iload hx hb dL_log_66 (lv_at hl 0 rfl) ?_
      refine lv_imul hx hb dL_log_68 ?_
      refine lv_iconst (v := 1) hx hb dL_log_69 (by decide) ?_
      refine lv_iadd hx hb dL_log_70 ?_
      refine lv_iload_n hx hb dL_log_71 rfl (lv_at hl 1 rfl) ?_
      replace hf := zs_s hf
      obtain ⟨hi72, s72, es72, hf⟩ := hf
      refine z_iast (ws' := wAR G ad b 20 u ++ wAR G ad1 b1 30 s72) hx hb hK hP hD hS 1 0 rfl rfl hi72 es72 rfl dL_log_72 (fun H locs hP hD hS => ?_)
      refine lv_aload_n hx hb dL_log_73 rfl (lv_at hl 4 rfl) ?_
      refine lv_iconst (v := 3) hx hb dL_log_74 (by decide) ?_
      refine lv_iload hx hb dL_log_75 (lv_at hl 0 rfl) ?_
      refine lv_imul hx hb dL_log_77 ?_
      refine lv_iconst (v := 2) hx hb dL_log_78 (by decide) ?_
      refine lv_iadd hx hb dL_log_79 ?_
      refine lv_iload_n hx hb dL_log_80 rfl (lv_at hl 2 rfl) ?_
      replace hf := zs_s hf
      obtain ⟨hi81, s81, es81, hf⟩ := hf
      refine z_iast (ws' := wAR G ad b 20 u ++ wAR G ad1 b1 30 s81) hx hb hK hP hD hS 1 0 rfl rfl hi81 es81 rfl dL_log_81 (fun H locs hP hD hS => ?_)
      refine lv_aload_n hx hb dL_log_82 rfl (lv_at hl 3 rfl) ?_
      refine lv_bipush (v := 14) hx hb dL_log_83 (by decide) ?_
      refine lv_dup2_11 hx hb dL_log_85 rfl rfl ?_
      refine z_iald (v := (u 14)) hx hb hK hP 0 0 rfl rfl (z_in rfl) rfl dL_log_86 ?_
      refine lv_iconst (v := 1) hx hb dL_log_87 (by decide) ?_
      refine lv_iadd hx hb dL_log_88 ?_
      replace hf := zn_s hf
      obtain ⟨s89, es89, hf⟩ := hf
      refine z_iast (ws' := wAR G ad b 20 s89 ++ wAR G ad1 b1 30 s81) hx hb hK hP hD hS 0 0 rfl rfl (z_in rfl) es89 rfl dL_log_89 (fun H locs hP hD hS => ?_)
      obtain rfl := zo hf
      exact hret _ _ _ _ hP hD hS dL_log_90
    refine lv_icmp_ge (tgt := 51) hx hb dL_log_41 (by decide) (fun c41 => ?_) (fun c41 => ?_)
    · replace hf := zi_p hf c41
      refine lv_bipush (v := 9) hx hb dL_log_51 (by decide) ?_
      exact J53 9 hf _ _ hP hD hS _ (lv_sub hl [0, 1, 2, 3] rfl)
    · replace hf := zi_n hf c41
      refine lv_aload_n hx hb dL_log_44 rfl (lv_at hl 2 rfl) ?_
      refine lv_bipush (v := 14) hx hb dL_log_45 (by decide) ?_
      refine z_iald (v := (u 14)) hx hb hK hP 0 0 rfl rfl (z_in rfl) rfl dL_log_47 ?_
      refine lv_goto (tgt := 53) hx hb dL_log_48 (by decide) ?_
      exact J53 (u 14) hf _ _ hP hD hS _ (lv_sub hl [0, 1, 2, 3] rfl)
  refine lv_icmp_lt (tgt := 35) hx hb dL_log_6 (by decide) (fun c6 => ?_) (fun c6 => ?_)
  · replace hf := zi_p hf c6
    exact J35 u1 hf _ _ hP hD hS _ (lv_sub hl [0, 1, 2, 3] rfl)
  · replace hf := zi_n hf c6
    refine lv_iconst (v := 0) hx hb dL_log_9 (by decide) ?_
    refine lv_istore (lv' := [(4, .int 0), (0, .int p0), (1, .int p1), (2, .ref (ad b)), (3, .ref (ad1 b1))]) hx hb dL_log_10 hl (by decide) rfl (fun ls hl => ?_)
    replace hf := zb_s hf
    obtain ⟨b12, hz12, hk12⟩ := hf
    have L12 : ∀ (n12 : Nat) (v12 : Int32 × (Nat → Int32)) (hz12 : zl n12 q_L_log_L12 v12 = some b12) (H : Heap) (locs : List Loc) (hP : va_P D vwCl (wAR G ad b 20 u ++ wAR G ad1 b1 30 v12.2) H) (hD : va_D A (wAR G ad b 20 u ++ wAR G ad1 b1 30 v12.2)) (hS : va_S A s.heap H locs) (ls : Array Slot) (hl : lv_has ls 5 [(0, .int p0), (1, .int p1), (2, .ref (ad b)), (3, .ref (ad1 b1)), (4, .int v12.1)]), W p l e (zRm 0 0) s m args below meth c H locs 0 0 Q (F0 m 12 ls []) := by
      intro n12
      induction n12 with
      | zero => intro v12 hz12; exact (zl_0 hz12).elim
      | succ n12 ih12 =>
        intro v12 hz12 H locs hP hD hS ls hl
        obtain ⟨o12, hf, hz12⟩ := zl_s hz12
        unfold q_L_log_L12 at hf
        refine lv_iload hx hb dL_log_12 (lv_at hl 4 rfl) ?_
        refine lv_bipush (v := 27) hx hb dL_log_14 (by decide) ?_
        refine lv_icmp_ge (tgt := 35) hx hb dL_log_16 (by decide) (fun c16 => ?_) (fun c16 => ?_)
        · replace hf := zi_p hf c16
          have hb12 := zk_r hf hz12
          subst hb12
          replace hf := hk12
          exact J35 v12.2 hf _ _ hP hD hS _ (lv_sub hl [0, 1, 2, 3] rfl)
        · replace hf := zi_n hf c16
          refine lv_aload_n hx hb dL_log_19 rfl (lv_at hl 3 rfl) ?_
          refine lv_iload hx hb dL_log_20 (lv_at hl 4 rfl) ?_
          refine lv_aload_n hx hb dL_log_22 rfl (lv_at hl 3 rfl) ?_
          refine lv_iload hx hb dL_log_23 (lv_at hl 4 rfl) ?_
          refine lv_iconst (v := 3) hx hb dL_log_25 (by decide) ?_
          refine lv_iadd hx hb dL_log_26 ?_
          replace hf := zg_s hf
          obtain ⟨hi27, a27, ea27, hf⟩ := hf
          refine z_iald hx hb hK hP 1 0 rfl rfl hi27 ea27 dL_log_27 ?_
          replace hf := zs_s hf
          obtain ⟨hi28, s28, es28, hf⟩ := hf
          refine z_iast (ws' := wAR G ad b 20 u ++ wAR G ad1 b1 30 s28) hx hb hK hP hD hS 1 0 rfl rfl hi28 es28 rfl dL_log_28 (fun H locs hP hD hS => ?_)
          refine lv_iinc (v := (v12.1 + 1)) (lv' := [(4, .int (v12.1 + 1)), (0, .int p0), (1, .int p1), (2, .ref (ad b)), (3, .ref (ad1 b1))]) hx hb dL_log_29 hl (k := 4) rfl rfl (by decide) rfl (fun ls hl => ?_)
          refine lv_goto (tgt := 12) hx hb dL_log_32 (by decide) ?_
          exact ih12 _ (zk_l hf hz12) _ _ hP hD hS _ (lv_sub hl [1, 2, 3, 4, 0] rfl)
    exact L12 _ _ hz12 _ _ hP hD hS _ (lv_sub hl [1, 2, 3, 4, 0] rfl)
noncomputable def q_L_sum_L6 (u : Nat → Int32) (u1 : Nat → Int32) (p0 : Int32) (p1 : Int32) (v6 : Int32 × Int32) : Option ((Int32 × Int32) ⊕ (Int32)) :=
  (if (u 2) ≤ v6.2 then some (Sum.inr (v6.1)) else zg 20 u1 v6.2 fun a17 => (if (a17 / 10) = p0 then zg 20 u1 v6.2 fun a30 => (if (a30 - a30 / 10 * 10) ≤ p1 then zg 20 u1 v6.2 fun a45 => some (Sum.inl ((v6.1 + (a45 - a45 / 10 * 10)), (v6.2 + 1))) else some (Sum.inl ((v6.1 + p1), (v6.2 + 1)))) else some (Sum.inl (v6.1, (v6.2 + 1)))))
noncomputable def q_L_sum (u : Nat → Int32) (u1 : Nat → Int32) (p0 : Int32) (p1 : Int32) : Option (Int32) :=
  zb (zl 1000000 (q_L_sum_L6 u u1 p0 p1) (0, 0)) (fun b6 => some (b6))
set_option maxRecDepth 100000 in
set_option maxHeartbeats 4000000 in
theorem c_L_sum (l : Launch) (D : va_G) (G : zG) (ad : Nat → Nat) (b : Nat) (ad1 : Nat → Nat) (b1 : Nat) (u : Nat → Int32) (u1 : Nat → Int32) (p0 : Int32) (p1 : Int32) (res : Int32) (hf : q_L_sum u u1 p0 p1 = some res) : zMi l yL_sum cL_sum 6 (some .int) 0 0 D G (wAR G ad b 20 u ++ wAR G ad1 b1 20 u1) (wAR G ad b 20 u ++ wAR G ad1 b1 20 u1) [.int p0, .int p1, .ref (ad b), .ref (ad1 b1)] res := by
  refine zs_i (by decide +kernel) (Nat.le_of_ble_eq_true rfl) ?_
  intro p e s m args below meth c A Q H ls C0 hret hP hD hS hl
  obtain ⟨hx, hb, hml, hown, hW, hK, hlocks, hF, hr, hA⟩ := id C0
  replace hl : lv_has ls 6 [(0, .int p0), (1, .int p1), (2, .ref (ad b)), (3, .ref (ad1 b1))] := hl
  unfold q_L_sum at hf
  refine lv_iconst (v := 0) hx hb dL_sum_0 (by decide) ?_
  refine lv_istore (lv' := [(4, .int 0), (0, .int p0), (1, .int p1), (2, .ref (ad b)), (3, .ref (ad1 b1))]) hx hb dL_sum_1 hl (by decide) rfl (fun ls hl => ?_)
  refine lv_iconst (v := 0) hx hb dL_sum_3 (by decide) ?_
  refine lv_istore (lv' := [(5, .int 0), (4, .int 0), (0, .int p0), (1, .int p1), (2, .ref (ad b)), (3, .ref (ad1 b1))]) hx hb dL_sum_4 hl (by decide) rfl (fun ls hl => ?_)
  replace hf := zb_s hf
  obtain ⟨b6, hz6, hk6⟩ := hf
  have L6 : ∀ (n6 : Nat) (v6 : Int32 × Int32) (hz6 : zl n6 (q_L_sum_L6 u u1 p0 p1) v6 = some b6) (H : Heap) (locs : List Loc) (hP : va_P D vwCl (wAR G ad b 20 u ++ wAR G ad1 b1 20 u1) H) (hD : va_D A (wAR G ad b 20 u ++ wAR G ad1 b1 20 u1)) (hS : va_S A s.heap H locs) (ls : Array Slot) (hl : lv_has ls 6 [(0, .int p0), (1, .int p1), (2, .ref (ad b)), (3, .ref (ad1 b1)), (4, .int v6.1), (5, .int v6.2)]), W p l e (zRm 0 0) s m args below meth c H locs 0 0 Q (F0 m 6 ls []) := by
    intro n6
    induction n6 with
    | zero => intro v6 hz6; exact (zl_0 hz6).elim
    | succ n6 ih6 =>
      intro v6 hz6 H locs hP hD hS ls hl
      obtain ⟨o6, hf, hz6⟩ := zl_s hz6
      unfold q_L_sum_L6 at hf
      refine lv_iload hx hb dL_sum_6 (lv_at hl 5 rfl) ?_
      refine lv_aload_n hx hb dL_sum_8 rfl (lv_at hl 2 rfl) ?_
      refine lv_iconst (v := 2) hx hb dL_sum_9 (by decide) ?_
      refine z_iald (v := (u 2)) hx hb hK hP 0 0 rfl rfl (z_in rfl) rfl dL_sum_10 ?_
      refine lv_icmp_ge (tgt := 58) hx hb dL_sum_11 (by decide) (fun c11 => ?_) (fun c11 => ?_)
      · replace hf := zi_p hf c11
        have hb6 := zk_r hf hz6
        subst hb6
        replace hf := hk6
        refine lv_iload hx hb dL_sum_58 (lv_at hl 4 rfl) ?_
        obtain rfl := zo hf
        exact hret _ _ _ _ _ hP hD hS rfl dL_sum_60
      · replace hf := zi_n hf c11
        refine lv_aload_n hx hb dL_sum_14 rfl (lv_at hl 3 rfl) ?_
        refine lv_iload hx hb dL_sum_15 (lv_at hl 5 rfl) ?_
        replace hf := zg_s hf
        obtain ⟨hi17, a17, ea17, hf⟩ := hf
        refine z_iald hx hb hK hP 1 0 rfl rfl hi17 ea17 dL_sum_17 ?_
        refine lv_bipush (v := 10) hx hb dL_sum_18 (by decide) ?_
        refine lv_idiv hx hb dL_sum_20 (by decide) ?_
        refine lv_iload_n hx hb dL_sum_21 rfl (lv_at hl 0 rfl) ?_
        refine lv_icmp_ne (tgt := 52) hx hb dL_sum_22 (by decide) (fun c22 => ?_) (fun c22 => ?_)
        · replace hf := zi_n hf c22
          refine lv_iinc (v := (v6.2 + 1)) (lv' := [(5, .int (v6.2 + 1)), (0, .int p0), (1, .int p1), (2, .ref (ad b)), (3, .ref (ad1 b1)), (4, .int v6.1)]) hx hb dL_sum_52 hl (k := 5) rfl rfl (by decide) rfl (fun ls hl => ?_)
          refine lv_goto (tgt := 6) hx hb dL_sum_55 (by decide) ?_
          exact ih6 _ (zk_l hf hz6) _ _ hP hD hS _ (lv_sub hl [1, 2, 3, 4, 5, 0] rfl)
        · replace hf := zi_p hf c22
          refine lv_iload hx hb dL_sum_25 (lv_at hl 4 rfl) ?_
          refine lv_aload_n hx hb dL_sum_27 rfl (lv_at hl 3 rfl) ?_
          refine lv_iload hx hb dL_sum_28 (lv_at hl 5 rfl) ?_
          replace hf := zg_s hf
          obtain ⟨hi30, a30, ea30, hf⟩ := hf
          refine z_iald hx hb hK hP 1 0 rfl rfl hi30 ea30 dL_sum_30 ?_
          refine lv_bipush (v := 10) hx hb dL_sum_31 (by decide) ?_
          refine lv_irem hx hb dL_sum_33 (by decide) ?_
          refine lv_iload_n hx hb dL_sum_34 rfl (lv_at hl 1 rfl) ?_
          refine lv_icmp_le (tgt := 42) hx hb dL_sum_35 (by decide) (fun c35 => ?_) (fun c35 => ?_)
          · replace hf := zi_p hf c35
            refine lv_aload_n hx hb dL_sum_42 rfl (lv_at hl 3 rfl) ?_
            refine lv_iload hx hb dL_sum_43 (lv_at hl 5 rfl) ?_
            replace hf := zg_s hf
            obtain ⟨hi45, a45, ea45, hf⟩ := hf
            refine z_iald hx hb hK hP 1 0 rfl rfl hi45 ea45 dL_sum_45 ?_
            refine lv_bipush (v := 10) hx hb dL_sum_46 (by decide) ?_
            refine lv_irem hx hb dL_sum_48 (by decide) ?_
            refine lv_iadd hx hb dL_sum_49 ?_
            refine lv_istore (lv' := [(4, .int (v6.1 + (a45 - a45 / 10 * 10))), (0, .int p0), (1, .int p1), (2, .ref (ad b)), (3, .ref (ad1 b1)), (5, .int v6.2)]) hx hb dL_sum_50 hl (by decide) rfl (fun ls hl => ?_)
            refine lv_iinc (v := (v6.2 + 1)) (lv' := [(5, .int (v6.2 + 1)), (4, .int (v6.1 + (a45 - a45 / 10 * 10))), (0, .int p0), (1, .int p1), (2, .ref (ad b)), (3, .ref (ad1 b1))]) hx hb dL_sum_52 hl (k := 5) rfl rfl (by decide) rfl (fun ls hl => ?_)
            refine lv_goto (tgt := 6) hx hb dL_sum_55 (by decide) ?_
            exact ih6 _ (zk_l hf hz6) _ _ hP hD hS _ (lv_sub hl [2, 3, 4, 5, 1, 0] rfl)
          · replace hf := zi_n hf c35
            refine lv_iload_n hx hb dL_sum_38 rfl (lv_at hl 1 rfl) ?_
            refine lv_goto (tgt := 49) hx hb dL_sum_39 (by decide) ?_
            refine lv_iadd hx hb dL_sum_49 ?_
            refine lv_istore (lv' := [(4, .int (v6.1 + p1)), (0, .int p0), (1, .int p1), (2, .ref (ad b)), (3, .ref (ad1 b1)), (5, .int v6.2)]) hx hb dL_sum_50 hl (by decide) rfl (fun ls hl => ?_)
            refine lv_iinc (v := (v6.2 + 1)) (lv' := [(5, .int (v6.2 + 1)), (4, .int (v6.1 + p1)), (0, .int p0), (1, .int p1), (2, .ref (ad b)), (3, .ref (ad1 b1))]) hx hb dL_sum_52 hl (k := 5) rfl rfl (by decide) rfl (fun ls hl => ?_)
            refine lv_goto (tgt := 6) hx hb dL_sum_55 (by decide) ?_
            exact ih6 _ (zk_l hf hz6) _ _ hP hD hS _ (lv_sub hl [2, 3, 4, 5, 1, 0] rfl)
  exact L6 _ _ hz6 _ _ hP hD hS _ (lv_sub hl [2, 3, 4, 5, 1, 0] rfl)
noncomputable def q_L_place_L2 (u : Nat → Int32) (u1 : Nat → Int32) (p0 : Int32) (v2 : Int32) : Option ((Int32) ⊕ (((Unit) ⊕ (Int32)))) :=
  (if (u 8) ≤ v2 then some (Sum.inr (Sum.inl ())) else zg 6 u1 v2 fun a12 => (if a12 = p0 then some (Sum.inr (Sum.inr (v2))) else some (Sum.inl ((v2 + 1)))))
noncomputable def q_L_place (u : Nat → Int32) (u1 : Nat → Int32) (p0 : Int32) : Option (Int32) :=
  zb (zl 1000000 (q_L_place_L2 u u1 p0) (0)) (zm (fun e2_0 => some ((-6))) (fun e2_1 => some (e2_1)))
set_option maxRecDepth 100000 in
set_option maxHeartbeats 4000000 in
theorem c_L_place (l : Launch) (D : va_G) (G : zG) (ad : Nat → Nat) (b : Nat) (ad1 : Nat → Nat) (b1 : Nat) (u : Nat → Int32) (u1 : Nat → Int32) (p0 : Int32) (res : Int32) (hf : q_L_place u u1 p0 = some res) : zMi l yL_place cL_place 4 (some .int) 0 0 D G (wAR G ad b 20 u ++ wAR G ad1 b1 6 u1) (wAR G ad b 20 u ++ wAR G ad1 b1 6 u1) [.int p0, .ref (ad b), .ref (ad1 b1)] res := by
  refine zs_i (by decide +kernel) (Nat.le_of_ble_eq_true rfl) ?_
  intro p e s m args below meth c A Q H ls C0 hret hP hD hS hl
  obtain ⟨hx, hb, hml, hown, hW, hK, hlocks, hF, hr, hA⟩ := id C0
  replace hl : lv_has ls 4 [(0, .int p0), (1, .ref (ad b)), (2, .ref (ad1 b1))] := hl
  unfold q_L_place at hf
  refine lv_iconst (v := 0) hx hb dL_place_0 (by decide) ?_
  refine lv_istore_n (lv' := [(3, .int 0), (0, .int p0), (1, .ref (ad b)), (2, .ref (ad1 b1))]) hx hb dL_place_1 rfl hl (by decide) rfl (fun ls hl => ?_)
  replace hf := zb_s hf
  obtain ⟨b2, hz2, hk2⟩ := hf
  have L2 : ∀ (n2 : Nat) (v2 : Int32) (hz2 : zl n2 (q_L_place_L2 u u1 p0) v2 = some b2) (H : Heap) (locs : List Loc) (hP : va_P D vwCl (wAR G ad b 20 u ++ wAR G ad1 b1 6 u1) H) (hD : va_D A (wAR G ad b 20 u ++ wAR G ad1 b1 6 u1)) (hS : va_S A s.heap H locs) (ls : Array Slot) (hl : lv_has ls 4 [(0, .int p0), (1, .ref (ad b)), (2, .ref (ad1 b1)), (3, .int v2)]), W p l e (zRm 0 0) s m args below meth c H locs 0 0 Q (F0 m 2 ls []) := by
    intro n2
    induction n2 with
    | zero => intro v2 hz2; exact (zl_0 hz2).elim
    | succ n2 ih2 =>
      intro v2 hz2 H locs hP hD hS ls hl
      obtain ⟨o2, hf, hz2⟩ := zl_s hz2
      unfold q_L_place_L2 at hf
      refine lv_iload_n hx hb dL_place_2 rfl (lv_at hl 3 rfl) ?_
      refine lv_aload_n hx hb dL_place_3 rfl (lv_at hl 1 rfl) ?_
      refine lv_bipush (v := 8) hx hb dL_place_4 (by decide) ?_
      refine z_iald (v := (u 8)) hx hb hK hP 0 0 rfl rfl (z_in rfl) rfl dL_place_6 ?_
      refine lv_icmp_ge (tgt := 25) hx hb dL_place_7 (by decide) (fun c7 => ?_) (fun c7 => ?_)
      · replace hf := zi_p hf c7
        have hb2 := zk_r hf hz2
        subst hb2
        replace hf := (zm_l hk2)
        refine lv_bipush (v := (-6)) hx hb dL_place_25 (by decide) ?_
        obtain rfl := zo hf
        exact hret _ _ _ _ _ hP hD hS rfl dL_place_27
      · replace hf := zi_n hf c7
        refine lv_aload_n hx hb dL_place_10 rfl (lv_at hl 2 rfl) ?_
        refine lv_iload_n hx hb dL_place_11 rfl (lv_at hl 3 rfl) ?_
        replace hf := zg_s hf
        obtain ⟨hi12, a12, ea12, hf⟩ := hf
        refine z_iald hx hb hK hP 1 0 rfl rfl hi12 ea12 dL_place_12 ?_
        refine lv_iload_n hx hb dL_place_13 rfl (lv_at hl 0 rfl) ?_
        refine lv_icmp_ne (tgt := 19) hx hb dL_place_14 (by decide) (fun c14 => ?_) (fun c14 => ?_)
        · replace hf := zi_n hf c14
          refine lv_iinc (v := (v2 + 1)) (lv' := [(3, .int (v2 + 1)), (0, .int p0), (1, .ref (ad b)), (2, .ref (ad1 b1))]) hx hb dL_place_19 hl (k := 3) rfl rfl (by decide) rfl (fun ls hl => ?_)
          refine lv_goto (tgt := 2) hx hb dL_place_22 (by decide) ?_
          exact ih2 _ (zk_l hf hz2) _ _ hP hD hS _ (lv_sub hl [1, 2, 3, 0] rfl)
        · replace hf := zi_p hf c14
          have hb2 := zk_r hf hz2
          subst hb2
          replace hf := (zm_r hk2)
          refine lv_iload_n hx hb dL_place_17 rfl (lv_at hl 3 rfl) ?_
          obtain rfl := zo hf
          exact hret _ _ _ _ _ hP hD hS rfl dL_place_18
  exact L2 _ _ hz2 _ _ hP hD hS _ (lv_sub hl [1, 2, 3, 0] rfl)
theorem kL_10 : zLkS RL 10 yL_sum cL_sum 6 (some .int) 4 := ⟨⟨wd_253, wd_254, wd_122, wd_255⟩, by decide +kernel⟩
noncomputable def q_L_next_J112 (v22 : Int32 × Int32 × Int32) (y112_0 : Int32) : Option ((Int32 × Int32 × Int32) ⊕ (Int32)) :=
  (if y112_0 < v22.2.1 then some (Sum.inl (v22.1, v22.2.1, (v22.2.2 + (-1)))) else some (Sum.inl (v22.2.2, y112_0, (v22.2.2 + (-1)))))
noncomputable def q_L_next_L22 (u : Nat → Int32) (u1 : Nat → Int32) (u3 : Nat → Int32) (v22 : Int32 × Int32 × Int32) : Option ((Int32 × Int32 × Int32) ⊕ (Int32)) :=
  (if v22.2.2 < 0 then some (Sum.inr (v22.1)) else zg 8 u1 v22.2.2 fun a33 => (if ((u 19) / 2) ≤ ((u 0) - a33) then (if (u 4) = 0 then q_L_next_J112 v22 ((u 0) - a33) else (if (u 4) = 1 then zb (q_L_sum u u3 v22.2.2 9) fun r75 => q_L_next_J112 v22 r75 else (if 0 ≤ (u 13) then q_L_next_J112 v22 (8 - (((v22.2.2 + 7) - (u 13)) - ((v22.2.2 + 7) - (u 13)) / 8 * 8)) else q_L_next_J112 v22 (8 - v22.2.2)))) else some (Sum.inl (v22.1, v22.2.1, (v22.2.2 + (-1))))))
noncomputable def q_L_next (u : Nat → Int32) (u1 : Nat → Int32) (u2 : Nat → Int32) (u3 : Nat → Int32) : Option (Int32) :=
  (if (u 8) ≤ 0 then zb (zl 1000000 (q_L_next_L22 u u1 u3) ((-6), (-1), 7)) (fun b22 => some (b22)) else some ((u2 0)))
set_option maxRecDepth 100000 in
set_option maxHeartbeats 4000000 in
theorem c_L_next (l : Launch) (D : va_G) (G : zG) (ad : Nat → Nat) (b : Nat) (ad1 : Nat → Nat) (b1 : Nat) (ad2 : Nat → Nat) (b2 : Nat) (ad3 : Nat → Nat) (b3 : Nat) (u : Nat → Int32) (u1 : Nat → Int32) (u2 : Nat → Int32) (u3 : Nat → Int32) (res : Int32) (hf : q_L_next u u1 u2 u3 = some res) : zMi l yL_next cL_next 9 (some .int) 1 25 D G (wAR G ad b 20 u ++ wAR G ad1 b1 8 u1 ++ wAR G ad2 b2 6 u2 ++ wAR G ad3 b3 20 u3) (wAR G ad b 20 u ++ wAR G ad1 b1 8 u1 ++ wAR G ad2 b2 6 u2 ++ wAR G ad3 b3 20 u3) [.ref (ad b), .ref (ad1 b1), .ref (ad2 b2), .ref (ad3 b3)] res := by
  refine zs_i (by decide +kernel) (Nat.le_of_ble_eq_true rfl) ?_
  intro p e s m args below meth c A Q H ls C0 hret hP hD hS hl
  obtain ⟨hx, hb, hml, hown, hW, hK, hlocks, hF, hr, hA⟩ := id C0
  replace hl : lv_has ls 9 [(0, .ref (ad b)), (1, .ref (ad1 b1)), (2, .ref (ad2 b2)), (3, .ref (ad3 b3))] := hl
  unfold q_L_next at hf
  refine lv_aload_n hx hb dL_next_0 rfl (lv_at hl 0 rfl) ?_
  refine lv_bipush (v := 8) hx hb dL_next_1 (by decide) ?_
  refine z_iald (v := (u 8)) hx hb hK hP 0 0 rfl rfl (z_in rfl) rfl dL_next_3 ?_
  refine lv_if_le (tgt := 11) hx hb dL_next_4 (by decide) (fun c4 => ?_) (fun c4 => ?_)
  · replace hf := zi_p hf c4
    refine lv_bipush (v := (-6)) hx hb dL_next_11 (by decide) ?_
    refine lv_istore (lv' := [(4, .int (-6)), (0, .ref (ad b)), (1, .ref (ad1 b1)), (2, .ref (ad2 b2)), (3, .ref (ad3 b3))]) hx hb dL_next_13 hl (by decide) rfl (fun ls hl => ?_)
    refine lv_iconst (v := (-1)) hx hb dL_next_15 (by decide) ?_
    refine lv_istore (lv' := [(5, .int (-1)), (4, .int (-6)), (0, .ref (ad b)), (1, .ref (ad1 b1)), (2, .ref (ad2 b2)), (3, .ref (ad3 b3))]) hx hb dL_next_16 hl (by decide) rfl (fun ls hl => ?_)
    refine lv_bipush (v := 7) hx hb dL_next_18 (by decide) ?_
    refine lv_istore (lv' := [(6, .int 7), (5, .int (-1)), (4, .int (-6)), (0, .ref (ad b)), (1, .ref (ad1 b1)), (2, .ref (ad2 b2)), (3, .ref (ad3 b3))]) hx hb dL_next_20 hl (by decide) rfl (fun ls hl => ?_)
    replace hf := zb_s hf
    obtain ⟨b22, hz22, hk22⟩ := hf
    have L22 : ∀ (n22 : Nat) (v22 : Int32 × Int32 × Int32) (hz22 : zl n22 (q_L_next_L22 u u1 u3) v22 = some b22) (H : Heap) (locs : List Loc) (hP : va_P D vwCl (wAR G ad b 20 u ++ wAR G ad1 b1 8 u1 ++ wAR G ad2 b2 6 u2 ++ wAR G ad3 b3 20 u3) H) (hD : va_D A (wAR G ad b 20 u ++ wAR G ad1 b1 8 u1 ++ wAR G ad2 b2 6 u2 ++ wAR G ad3 b3 20 u3)) (hS : va_S A s.heap H locs) (ls : Array Slot) (hl : lv_has ls 9 [(0, .ref (ad b)), (1, .ref (ad1 b1)), (3, .ref (ad3 b3)), (4, .int v22.1), (5, .int v22.2.1), (6, .int v22.2.2)]), W p l e (zRm 1 25) s m args below meth c H locs 0 0 Q (F0 m 22 ls []) := by
      intro n22
      induction n22 with
      | zero => intro v22 hz22; exact (zl_0 hz22).elim
      | succ n22 ih22 =>
        intro v22 hz22 H locs hP hD hS ls hl
        obtain ⟨o22, hf, hz22⟩ := zl_s hz22
        unfold q_L_next_L22 at hf
        refine lv_iload hx hb dL_next_22 (lv_at hl 5 rfl) ?_
        refine lv_if_lt (tgt := 135) hx hb dL_next_24 (by decide) (fun c24 => ?_) (fun c24 => ?_)
        · replace hf := zi_p hf c24
          have hb22 := zk_r hf hz22
          subst hb22
          replace hf := hk22
          refine lv_iload hx hb dL_next_135 (lv_at hl 3 rfl) ?_
          obtain rfl := zo hf
          exact hret _ _ _ _ _ hP hD hS rfl dL_next_137
        · replace hf := zi_n hf c24
          refine lv_aload_n hx hb dL_next_27 rfl (lv_at hl 0 rfl) ?_
          refine lv_iconst (v := 0) hx hb dL_next_28 (by decide) ?_
          refine z_iald (v := (u 0)) hx hb hK hP 0 0 rfl rfl (z_in rfl) rfl dL_next_29 ?_
          refine lv_aload_n hx hb dL_next_30 rfl (lv_at hl 1 rfl) ?_
          refine lv_iload hx hb dL_next_31 (lv_at hl 5 rfl) ?_
          replace hf := zg_s hf
          obtain ⟨hi33, a33, ea33, hf⟩ := hf
          refine z_iald hx hb hK hP 1 0 rfl rfl hi33 ea33 dL_next_33 ?_
          refine lv_isub hx hb dL_next_34 ?_
          refine lv_istore (lv' := [(7, .int ((u 0) - a33)), (0, .ref (ad b)), (1, .ref (ad1 b1)), (3, .ref (ad3 b3)), (4, .int v22.1), (5, .int v22.2.1), (6, .int v22.2.2)]) hx hb dL_next_35 hl (by decide) rfl (fun ls hl => ?_)
          refine lv_iload hx hb dL_next_37 (lv_at hl 0 rfl) ?_
          refine lv_aload_n hx hb dL_next_39 rfl (lv_at hl 1 rfl) ?_
          refine lv_bipush (v := 19) hx hb dL_next_40 (by decide) ?_
          refine z_iald (v := (u 19)) hx hb hK hP 0 0 rfl rfl (z_in rfl) rfl dL_next_42 ?_
          refine lv_iconst (v := 2) hx hb dL_next_43 (by decide) ?_
          refine lv_idiv hx hb dL_next_44 (by decide) ?_
          refine lv_icmp_ge (tgt := 51) hx hb dL_next_45 (by decide) (fun c45 => ?_) (fun c45 => ?_)
          · replace hf := zi_p hf c45
            refine lv_aload_n hx hb dL_next_51 rfl (lv_at hl 1 rfl) ?_
            refine lv_iconst (v := 4) hx hb dL_next_52 (by decide) ?_
            refine z_iald (v := (u 4)) hx hb hK hP 0 0 rfl rfl (z_in rfl) rfl dL_next_53 ?_
            have J112 : ∀ (y112_0 : Int32) (hf : q_L_next_J112 v22 y112_0 = some o22) (H : Heap) (locs : List Loc) (hP : va_P D vwCl (wAR G ad b 20 u ++ wAR G ad1 b1 8 u1 ++ wAR G ad2 b2 6 u2 ++ wAR G ad3 b3 20 u3) H) (hD : va_D A (wAR G ad b 20 u ++ wAR G ad1 b1 8 u1 ++ wAR G ad2 b2 6 u2 ++ wAR G ad3 b3 20 u3)) (hS : va_S A s.heap H locs) (ls : Array Slot) (hl : lv_has ls 9 [(0, .ref (ad b)), (1, .ref (ad1 b1)), (3, .ref (ad3 b3)), (4, .int v22.1), (5, .int v22.2.1), (6, .int v22.2.2)]), W p l e (zRm 1 25) s m args below meth c H locs 0 0 Q (F0 m 112 ls [.int y112_0]) := by
              intro y112_0 hf H locs hP hD hS ls hl
              unfold q_L_next_J112 at hf
              refine lv_istore (lv' := [(8, .int y112_0), (0, .ref (ad b)), (1, .ref (ad1 b1)), (3, .ref (ad3 b3)), (4, .int v22.1), (5, .int v22.2.1), (6, .int v22.2.2)]) hx hb dL_next_112 hl (by decide) rfl (fun ls hl => ?_)
              refine lv_iload hx hb dL_next_114 (lv_at hl 0 rfl) ?_
              refine lv_iload hx hb dL_next_116 (lv_at hl 5 rfl) ?_
              refine lv_icmp_lt (tgt := 129) hx hb dL_next_118 (by decide) (fun c118 => ?_) (fun c118 => ?_)
              · replace hf := zi_p hf c118
                refine lv_iinc (v := (v22.2.2 + (-1))) (lv' := [(6, .int (v22.2.2 + (-1))), (8, .int y112_0), (0, .ref (ad b)), (1, .ref (ad1 b1)), (3, .ref (ad3 b3)), (4, .int v22.1), (5, .int v22.2.1)]) hx hb dL_next_129 hl (k := 6) rfl rfl (by decide) rfl (fun ls hl => ?_)
                refine lv_goto (tgt := 22) hx hb dL_next_132 (by decide) ?_
                exact ih22 _ (zk_l hf hz22) _ _ hP hD hS _ (lv_sub hl [2, 3, 4, 5, 6, 0] rfl)
              · replace hf := zi_n hf c118
                refine lv_iload hx hb dL_next_121 (lv_at hl 0 rfl) ?_
                refine lv_istore (lv' := [(5, .int y112_0), (8, .int y112_0), (0, .ref (ad b)), (1, .ref (ad1 b1)), (3, .ref (ad3 b3)), (4, .int v22.1), (6, .int v22.2.2)]) hx hb dL_next_123 hl (by decide) rfl (fun ls hl => ?_)
                refine lv_iload hx hb dL_next_125 (lv_at hl 6 rfl) ?_
                refine lv_istore (lv' := [(4, .int v22.2.2), (5, .int y112_0), (8, .int y112_0), (0, .ref (ad b)), (1, .ref (ad1 b1)), (3, .ref (ad3 b3)), (6, .int v22.2.2)]) hx hb dL_next_127 hl (by decide) rfl (fun ls hl => ?_)
                refine lv_iinc (v := (v22.2.2 + (-1))) (lv' := [(6, .int (v22.2.2 + (-1))), (4, .int v22.2.2), (5, .int y112_0), (8, .int y112_0), (0, .ref (ad b)), (1, .ref (ad1 b1)), (3, .ref (ad3 b3))]) hx hb dL_next_129 hl (k := 6) rfl rfl (by decide) rfl (fun ls hl => ?_)
                refine lv_goto (tgt := 22) hx hb dL_next_132 (by decide) ?_
                exact ih22 _ (zk_l hf hz22) _ _ hP hD hS _ (lv_sub hl [4, 5, 6, 1, 2, 0] rfl)
            refine lv_if_ne (tgt := 62) hx hb dL_next_54 (by decide) (fun c54 => ?_) (fun c54 => ?_)
            · replace hf := zi_n hf c54
              refine lv_aload_n hx hb dL_next_62 rfl (lv_at hl 1 rfl) ?_
              refine lv_iconst (v := 4) hx hb dL_next_63 (by decide) ?_
              refine z_iald (v := (u 4)) hx hb hK hP 0 0 rfl rfl (z_in rfl) rfl dL_next_64 ?_
              refine lv_iconst (v := 1) hx hb dL_next_65 (by decide) ?_
              refine lv_icmp_ne (tgt := 81) hx hb dL_next_66 (by decide) (fun c66 => ?_) (fun c66 => ?_)
              · replace hf := zi_n hf c66
                refine lv_aload_n hx hb dL_next_81 rfl (lv_at hl 1 rfl) ?_
                refine lv_bipush (v := 13) hx hb dL_next_82 (by decide) ?_
                refine z_iald (v := (u 13)) hx hb hK hP 0 0 rfl rfl (z_in rfl) rfl dL_next_84 ?_
                refine lv_if_ge (tgt := 96) hx hb dL_next_85 (by decide) (fun c85 => ?_) (fun c85 => ?_)
                · replace hf := zi_p hf c85
                  refine lv_bipush (v := 8) hx hb dL_next_96 (by decide) ?_
                  refine lv_iload hx hb dL_next_98 (lv_at hl 6 rfl) ?_
                  refine lv_bipush (v := 7) hx hb dL_next_100 (by decide) ?_
                  refine lv_iadd hx hb dL_next_102 ?_
                  refine lv_aload_n hx hb dL_next_103 rfl (lv_at hl 1 rfl) ?_
                  refine lv_bipush (v := 13) hx hb dL_next_104 (by decide) ?_
                  refine z_iald (v := (u 13)) hx hb hK hP 0 0 rfl rfl (z_in rfl) rfl dL_next_106 ?_
                  refine lv_isub hx hb dL_next_107 ?_
                  refine lv_bipush (v := 8) hx hb dL_next_108 (by decide) ?_
                  refine lv_irem hx hb dL_next_110 (by decide) ?_
                  refine lv_isub hx hb dL_next_111 ?_
                  exact J112 (8 - (((v22.2.2 + 7) - (u 13)) - ((v22.2.2 + 7) - (u 13)) / 8 * 8)) hf _ _ hP hD hS _ (lv_sub hl [1, 2, 3, 4, 5, 6] rfl)
                · replace hf := zi_n hf c85
                  refine lv_bipush (v := 8) hx hb dL_next_88 (by decide) ?_
                  refine lv_iload hx hb dL_next_90 (lv_at hl 6 rfl) ?_
                  refine lv_isub hx hb dL_next_92 ?_
                  refine lv_goto (tgt := 112) hx hb dL_next_93 (by decide) ?_
                  exact J112 (8 - v22.2.2) hf _ _ hP hD hS _ (lv_sub hl [1, 2, 3, 4, 5, 6] rfl)
              · replace hf := zi_p hf c66
                refine lv_iload hx hb dL_next_69 (lv_at hl 6 rfl) ?_
                refine lv_bipush (v := 9) hx hb dL_next_71 (by decide) ?_
                refine lv_aload_n hx hb dL_next_73 rfl (lv_at hl 1 rfl) ?_
                refine lv_aload_n hx hb dL_next_74 rfl (lv_at hl 3 rfl) ?_
                replace hf := zb_s hf
                obtain ⟨r75, hr75, hf⟩ := hf
                refine z_GSi (rest := []) C0 kL_10 (c_L_sum l D G ad (b) ad3 (b3) u u3 v22.2.2 9 r75 hr75) pz_4_0_3 pz_4_0_3.symm rfl ⟨Nat.le_of_ble_eq_true rfl, Nat.le_of_ble_eq_true rfl⟩ (Nat.le_of_ble_eq_true rfl) ⟨Nat.le_of_ble_eq_true rfl, Nat.le_of_ble_eq_true rfl⟩ rfl hl.1 hP hD hS dL_next_75 (fun H locs hP hD hS => ?_)
                refine lv_goto (tgt := 112) hx hb dL_next_78 (by decide) ?_
                exact J112 r75 hf _ _ hP hD hS _ (lv_sub hl [1, 2, 3, 4, 5, 6] rfl)
            · replace hf := zi_p hf c54
              refine lv_iload hx hb dL_next_57 (lv_at hl 0 rfl) ?_
              refine lv_goto (tgt := 112) hx hb dL_next_59 (by decide) ?_
              exact J112 ((u 0) - a33) hf _ _ hP hD hS _ (lv_sub hl [1, 2, 3, 4, 5, 6] rfl)
          · replace hf := zi_n hf c45
            refine lv_goto (tgt := 129) hx hb dL_next_48 (by decide) ?_
            refine lv_iinc (v := (v22.2.2 + (-1))) (lv' := [(6, .int (v22.2.2 + (-1))), (7, .int ((u 0) - a33)), (0, .ref (ad b)), (1, .ref (ad1 b1)), (3, .ref (ad3 b3)), (4, .int v22.1), (5, .int v22.2.1)]) hx hb dL_next_129 hl (k := 6) rfl rfl (by decide) rfl (fun ls hl => ?_)
            refine lv_goto (tgt := 22) hx hb dL_next_132 (by decide) ?_
            exact ih22 _ (zk_l hf hz22) _ _ hP hD hS _ (lv_sub hl [2, 3, 4, 5, 6, 0] rfl)
    exact L22 _ _ hz22 _ _ hP hD hS _ (lv_sub hl [3, 4, 6, 2, 1, 0] rfl)
  · replace hf := zi_n hf c4
    refine lv_aload_n hx hb dL_next_7 rfl (lv_at hl 2 rfl) ?_
    refine lv_iconst (v := 0) hx hb dL_next_8 (by decide) ?_
    refine z_iald (v := (u2 0)) hx hb hK hP 2 0 rfl rfl (z_in rfl) rfl dL_next_9 ?_
    obtain rfl := zo hf
    exact hret _ _ _ _ _ hP hD hS rfl dL_next_10
noncomputable def q_L_drop_L10 (s7 : Nat → Int32) (v10 : Int32 × (Nat → Int32)) : Option ((Int32 × (Nat → Int32)) ⊕ ((Nat → Int32))) :=
  (if (s7 8) ≤ v10.1 then some (Sum.inr (v10.2)) else zg 6 v10.2 (v10.1 + 1) fun a24 => zs 6 v10.2 v10.1 a24 fun s25 => some (Sum.inl ((v10.1 + 1), s25)))
noncomputable def q_L_drop (u : Nat → Int32) (u1 : Nat → Int32) (p0 : Int32) : Option ((Nat → Int32) × (Nat → Int32)) :=
  zn (upd u 8 ((u 8) - 1)) fun s7 => zb (zl 1000000 (q_L_drop_L10 s7) (p0, u1)) (fun b10 => some (s7, b10))
set_option maxRecDepth 100000 in
set_option maxHeartbeats 4000000 in
theorem c_L_drop (l : Launch) (D : va_G) (G : zG) (ad : Nat → Nat) (b : Nat) (ad1 : Nat → Nat) (b1 : Nat) (u : Nat → Int32) (u1 : Nat → Int32) (p0 : Int32) (res : (Nat → Int32) × (Nat → Int32)) (hf : q_L_drop u u1 p0 = some res) : zMv l yL_drop cL_drop 4 none 0 0 D G (wAR G ad b 20 u ++ wAR G ad1 b1 6 u1) (wAR G ad b 20 res.1 ++ wAR G ad1 b1 6 res.2) [.int p0, .ref (ad b), .ref (ad1 b1)] := by
  refine zs_v (by decide +kernel) (Nat.le_of_ble_eq_true rfl) ?_
  intro p e s m args below meth c A Q H ls C0 hret hP hD hS hl
  obtain ⟨hx, hb, hml, hown, hW, hK, hlocks, hF, hr, hA⟩ := id C0
  replace hl : lv_has ls 4 [(0, .int p0), (1, .ref (ad b)), (2, .ref (ad1 b1))] := hl
  unfold q_L_drop at hf
  refine lv_aload_n hx hb dL_drop_0 rfl (lv_at hl 1 rfl) ?_
  refine lv_bipush (v := 8) hx hb dL_drop_1 (by decide) ?_
  refine lv_dup2_11 hx hb dL_drop_3 rfl rfl ?_
  refine z_iald (v := (u 8)) hx hb hK hP 0 0 rfl rfl (z_in rfl) rfl dL_drop_4 ?_
  refine lv_iconst (v := 1) hx hb dL_drop_5 (by decide) ?_
  refine lv_isub hx hb dL_drop_6 ?_
  replace hf := zn_s hf
  obtain ⟨s7, es7, hf⟩ := hf
  refine z_iast (ws' := wAR G ad b 20 s7 ++ wAR G ad1 b1 6 u1) hx hb hK hP hD hS 0 0 rfl rfl (z_in rfl) es7 rfl dL_drop_7 (fun H locs hP hD hS => ?_)
  refine lv_iload_n hx hb dL_drop_8 rfl (lv_at hl 0 rfl) ?_
  refine lv_istore_n (lv' := [(3, .int p0), (0, .int p0), (1, .ref (ad b)), (2, .ref (ad1 b1))]) hx hb dL_drop_9 rfl hl (by decide) rfl (fun ls hl => ?_)
  replace hf := zb_s hf
  obtain ⟨b10, hz10, hk10⟩ := hf
  have L10 : ∀ (n10 : Nat) (v10 : Int32 × (Nat → Int32)) (hz10 : zl n10 (q_L_drop_L10 s7) v10 = some b10) (H : Heap) (locs : List Loc) (hP : va_P D vwCl (wAR G ad b 20 s7 ++ wAR G ad1 b1 6 v10.2) H) (hD : va_D A (wAR G ad b 20 s7 ++ wAR G ad1 b1 6 v10.2)) (hS : va_S A s.heap H locs) (ls : Array Slot) (hl : lv_has ls 4 [(1, .ref (ad b)), (2, .ref (ad1 b1)), (3, .int v10.1)]), W p l e (zRm 0 0) s m args below meth c H locs 0 0 Q (F0 m 10 ls []) := by
    intro n10
    induction n10 with
    | zero => intro v10 hz10; exact (zl_0 hz10).elim
    | succ n10 ih10 =>
      intro v10 hz10 H locs hP hD hS ls hl
      obtain ⟨o10, hf, hz10⟩ := zl_s hz10
      unfold q_L_drop_L10 at hf
      refine lv_iload_n hx hb dL_drop_10 rfl (lv_at hl 2 rfl) ?_
      refine lv_aload_n hx hb dL_drop_11 rfl (lv_at hl 0 rfl) ?_
      refine lv_bipush (v := 8) hx hb dL_drop_12 (by decide) ?_
      refine z_iald (v := (s7 8)) hx hb hK hP 0 0 rfl rfl (z_in rfl) rfl dL_drop_14 ?_
      refine lv_icmp_ge (tgt := 32) hx hb dL_drop_15 (by decide) (fun c15 => ?_) (fun c15 => ?_)
      · replace hf := zi_p hf c15
        have hb10 := zk_r hf hz10
        subst hb10
        replace hf := hk10
        obtain rfl := zo hf
        exact hret _ _ _ _ hP hD hS dL_drop_32
      · replace hf := zi_n hf c15
        refine lv_aload_n hx hb dL_drop_18 rfl (lv_at hl 1 rfl) ?_
        refine lv_iload_n hx hb dL_drop_19 rfl (lv_at hl 2 rfl) ?_
        refine lv_aload_n hx hb dL_drop_20 rfl (lv_at hl 1 rfl) ?_
        refine lv_iload_n hx hb dL_drop_21 rfl (lv_at hl 2 rfl) ?_
        refine lv_iconst (v := 1) hx hb dL_drop_22 (by decide) ?_
        refine lv_iadd hx hb dL_drop_23 ?_
        replace hf := zg_s hf
        obtain ⟨hi24, a24, ea24, hf⟩ := hf
        refine z_iald hx hb hK hP 1 0 rfl rfl hi24 ea24 dL_drop_24 ?_
        replace hf := zs_s hf
        obtain ⟨hi25, s25, es25, hf⟩ := hf
        refine z_iast (ws' := wAR G ad b 20 s7 ++ wAR G ad1 b1 6 s25) hx hb hK hP hD hS 1 0 rfl rfl hi25 es25 rfl dL_drop_25 (fun H locs hP hD hS => ?_)
        refine lv_iinc (v := (v10.1 + 1)) (lv' := [(3, .int (v10.1 + 1)), (1, .ref (ad b)), (2, .ref (ad1 b1))]) hx hb dL_drop_26 hl (k := 2) rfl rfl (by decide) rfl (fun ls hl => ?_)
        refine lv_goto (tgt := 10) hx hb dL_drop_29 (by decide) ?_
        exact ih10 _ (zk_l hf hz10) _ _ hP hD hS _ (lv_sub hl [1, 2, 0] rfl)
  exact L10 _ _ hz10 _ _ hP hD hS _ (lv_sub hl [2, 3, 0] rfl)
theorem kL_24 : zLkS RL 24 yL_log cL_log 5 none 4 := ⟨⟨wd_218, wd_219, wd_122, wd_220⟩, by decide +kernel⟩
theorem kL_16 : zLkS RL 16 yL_next cL_next 9 (some .int) 4 := ⟨⟨wd_250, wd_251, wd_122, wd_252⟩, by decide +kernel⟩
theorem kL_20 : zLkS RL 20 yL_drop cL_drop 4 none 3 := ⟨⟨wd_202, wd_203, wd_122, wd_204⟩, by decide +kernel⟩
noncomputable def q_L_tick_L284 (s279 : Nat → Int32) (v284 : Int32 × (Nat → Int32)) : Option ((Int32 × (Nat → Int32)) ⊕ ((Nat → Int32))) :=
  (if (s279 2) ≤ v284.1 then some (Sum.inr (v284.2)) else zg 20 v284.2 (v284.1 + 1) fun a300 => zs 20 v284.2 v284.1 a300 fun s301 => some (Sum.inl ((v284.1 + 1), s301)))
noncomputable def q_L_tick_J241 (s114 : Nat → Int32) (v182 : Int32 × (Nat → Int32) × (Nat → Int32) × (Nat → Int32)) (y241_0 : Int32) : Option ((Int32 × (Nat → Int32) × (Nat → Int32) × (Nat → Int32)) ⊕ ((Nat → Int32) × (Nat → Int32) × (Nat → Int32))) :=
  zb (q_L_log v182.2.1 v182.2.2.2 y241_0 (s114 5)) fun r246 => (if (r246.1 3) = 0 then some (Sum.inl ((v182.1 + 1), r246.1, v182.2.2.1, r246.2)) else zn (upd r246.1 3 ((r246.1 3) - 1)) fun s264 => zn (upd s264 11 ((s264 11) + 1)) fun s272 => zn (upd s272 2 ((s272 2) - 1)) fun s279 => zb (zl 1000000 (q_L_tick_L284 s279) (v182.1, v182.2.2.1)) (fun b284 => some (Sum.inl (((v182.1 + (-1)) + 1), s279, b284, r246.2))))
noncomputable def q_L_tick_L182 (s114 : Nat → Int32) (v182 : Int32 × (Nat → Int32) × (Nat → Int32) × (Nat → Int32)) : Option ((Int32 × (Nat → Int32) × (Nat → Int32) × (Nat → Int32)) ⊕ ((Nat → Int32) × (Nat → Int32) × (Nat → Int32))) :=
  (if (v182.2.1 2) ≤ v182.1 then some (Sum.inr (v182.2.1, v182.2.2.1, v182.2.2.2)) else zg 20 v182.2.2.1 v182.1 fun a193 => (if (a193 / 10) = (s114 5) then zg 20 v182.2.2.1 v182.1 fun a208 => (if (v182.2.1 18) ≤ (a208 - a208 / 10 * 10) then (if (v182.2.1 3) ≤ 0 then q_L_tick_J241 s114 v182 5 else q_L_tick_J241 s114 v182 4) else zg 20 v182.2.2.1 v182.1 fun a223 => zs 20 v182.2.2.1 v182.1 (a223 + 1) fun s226 => some (Sum.inl ((v182.1 + 1), v182.2.1, s226, v182.2.2.2))) else some (Sum.inl ((v182.1 + 1), v182.2.1, v182.2.2.1, v182.2.2.2))))
noncomputable def q_L_tick_J107 (u1 : Nat → Int32) (u3 : Nat → Int32) (w107_0 : Nat → Int32) (w107_1 : Nat → Int32) (w107_2 : Nat → Int32) : Option (Int32 × (Nat → Int32) × (Nat → Int32) × (Nat → Int32) × (Nat → Int32) × (Nat → Int32)) :=
  zn (upd w107_0 6 ((w107_0 6) + 1)) fun s114 => (if (s114 7) ≤ (s114 6) then zs 8 u1 (s114 5) (s114 0) fun s140 => zn (upd s114 5 (-6)) fun s145 => zn (upd s145 6 0) fun s150 => zn (upd s150 7 0) fun s155 => zn (upd s155 9 ((s155 9) + 1)) fun s163 => zn (upd s163 13 (s114 5)) fun s169 => zb (q_L_log s169 w107_2 3 (s114 5)) fun r176 => zb (zl 1000000 (q_L_tick_L182 s114) (0, r176.1, u3, r176.2)) (fun b182 => some ((s114 5), b182.1, s140, w107_1, b182.2.1, b182.2.2)) else some ((-6), s114, u1, w107_1, u3, w107_2))
noncomputable def q_L_tick_J63 (u1 : Nat → Int32) (u3 : Nat → Int32) (u4 : Nat → Int32) (r37 : Int32) (w63_0 : Nat → Int32) (w63_1 : Nat → Int32) : Option (Int32 × (Nat → Int32) × (Nat → Int32) × (Nat → Int32) × (Nat → Int32) × (Nat → Int32)) :=
  zn (upd w63_0 5 r37) fun s67 => zn (upd s67 6 0) fun s72 => zb (q_L_sum s72 u3 r37 (s72 18)) fun r92 => zn (upd s72 7 ((s72 16) + ((s72 17) * r92))) fun s97 => zb (q_L_log s97 u4 1 r37) fun r104 => q_L_tick_J107 u1 u3 r104.1 w63_1 r104.2
noncomputable def q_L_tick (u : Nat → Int32) (u1 : Nat → Int32) (u2 : Nat → Int32) (u3 : Nat → Int32) (u4 : Nat → Int32) : Option (Int32 × (Nat → Int32) × (Nat → Int32) × (Nat → Int32) × (Nat → Int32) × (Nat → Int32)) :=
  zn (upd u 0 ((u 0) + 1)) fun s6 => (if (s6 15) ≤ (s6 1) then (if 0 ≤ (s6 5) then q_L_tick_J107 u1 u3 s6 u2 u4 else zb (q_L_next s6 u1 u2 u3) fun r37 => (if 0 ≤ r37 then (if (s6 8) ≤ 0 then q_L_tick_J63 u1 u3 u4 r37 s6 u2 else zb (q_L_drop s6 u2 0) fun r60 => q_L_tick_J63 u1 u3 u4 r37 r60.1 r60.2) else some ((-6), s6, u1, u2, u3, u4))) else zn (upd s6 1 ((s6 1) + 1)) fun s23 => some ((-6), s23, u1, u2, u3, u4))
set_option maxRecDepth 100000 in
set_option maxHeartbeats 4000000 in
theorem c_L_tick (l : Launch) (D : va_G) (G : zG) (ad : Nat → Nat) (b : Nat) (ad1 : Nat → Nat) (b1 : Nat) (ad2 : Nat → Nat) (b2 : Nat) (ad3 : Nat → Nat) (b3 : Nat) (ad4 : Nat → Nat) (b4 : Nat) (u : Nat → Int32) (u1 : Nat → Int32) (u2 : Nat → Int32) (u3 : Nat → Int32) (u4 : Nat → Int32) (res : Int32 × (Nat → Int32) × (Nat → Int32) × (Nat → Int32) × (Nat → Int32) × (Nat → Int32)) (hf : q_L_tick u u1 u2 u3 u4 = some res) : zMi l yL_tick cL_tick 8 (some .int) 2 53 D G (wAR G ad b 20 u ++ wAR G ad1 b1 8 u1 ++ wAR G ad2 b2 6 u2 ++ wAR G ad3 b3 20 u3 ++ wAR G ad4 b4 30 u4) (wAR G ad b 20 res.2.1 ++ wAR G ad1 b1 8 res.2.2.1 ++ wAR G ad2 b2 6 res.2.2.2.1 ++ wAR G ad3 b3 20 res.2.2.2.2.1 ++ wAR G ad4 b4 30 res.2.2.2.2.2) [.ref (ad b), .ref (ad1 b1), .ref (ad2 b2), .ref (ad3 b3), .ref (ad4 b4)] res.1 := by
  refine zs_i (by decide +kernel) (Nat.le_of_ble_eq_true rfl) ?_
  intro p e s m args below meth c A Q H ls C0 hret hP hD hS hl
  obtain ⟨hx, hb, hml, hown, hW, hK, hlocks, hF, hr, hA⟩ := id C0
  replace hl : lv_has ls 8 [(0, .ref (ad b)), (1, .ref (ad1 b1)), (2, .ref (ad2 b2)), (3, .ref (ad3 b3)), (4, .ref (ad4 b4))] := hl
  unfold q_L_tick at hf
  refine lv_aload_n hx hb dL_tick_0 rfl (lv_at hl 0 rfl) ?_
  refine lv_iconst (v := 0) hx hb dL_tick_1 (by decide) ?_
  refine lv_dup2_11 hx hb dL_tick_2 rfl rfl ?_
  refine z_iald (v := (u 0)) hx hb hK hP 0 0 rfl rfl (z_in rfl) rfl dL_tick_3 ?_
  refine lv_iconst (v := 1) hx hb dL_tick_4 (by decide) ?_
  refine lv_iadd hx hb dL_tick_5 ?_
  replace hf := zn_s hf
  obtain ⟨s6, es6, hf⟩ := hf
  refine z_iast (ws' := wAR G ad b 20 s6 ++ wAR G ad1 b1 8 u1 ++ wAR G ad2 b2 6 u2 ++ wAR G ad3 b3 20 u3 ++ wAR G ad4 b4 30 u4) hx hb hK hP hD hS 0 0 rfl rfl (z_in rfl) es6 rfl dL_tick_6 (fun H locs hP hD hS => ?_)
  refine lv_aload_n hx hb dL_tick_7 rfl (lv_at hl 0 rfl) ?_
  refine lv_iconst (v := 1) hx hb dL_tick_8 (by decide) ?_
  refine z_iald (v := (s6 1)) hx hb hK hP 0 0 rfl rfl (z_in rfl) rfl dL_tick_9 ?_
  refine lv_aload_n hx hb dL_tick_10 rfl (lv_at hl 0 rfl) ?_
  refine lv_bipush (v := 15) hx hb dL_tick_11 (by decide) ?_
  refine z_iald (v := (s6 15)) hx hb hK hP 0 0 rfl rfl (z_in rfl) rfl dL_tick_13 ?_
  refine lv_icmp_ge (tgt := 27) hx hb dL_tick_14 (by decide) (fun c14 => ?_) (fun c14 => ?_)
  · replace hf := zi_p hf c14
    refine lv_aload_n hx hb dL_tick_27 rfl (lv_at hl 0 rfl) ?_
    refine lv_iconst (v := 5) hx hb dL_tick_28 (by decide) ?_
    refine z_iald (v := (s6 5)) hx hb hK hP 0 0 rfl rfl (z_in rfl) rfl dL_tick_29 ?_
    have J107 : ∀ (w107_0 : Nat → Int32) (w107_1 : Nat → Int32) (w107_2 : Nat → Int32) (hf : q_L_tick_J107 u1 u3 w107_0 w107_1 w107_2 = some res) (H : Heap) (locs : List Loc) (hP : va_P D vwCl (wAR G ad b 20 w107_0 ++ wAR G ad1 b1 8 u1 ++ wAR G ad2 b2 6 w107_1 ++ wAR G ad3 b3 20 u3 ++ wAR G ad4 b4 30 w107_2) H) (hD : va_D A (wAR G ad b 20 w107_0 ++ wAR G ad1 b1 8 u1 ++ wAR G ad2 b2 6 w107_1 ++ wAR G ad3 b3 20 u3 ++ wAR G ad4 b4 30 w107_2)) (hS : va_S A s.heap H locs) (ls : Array Slot) (hl : lv_has ls 8 [(0, .ref (ad b)), (1, .ref (ad1 b1)), (3, .ref (ad3 b3)), (4, .ref (ad4 b4))]), W p l e (zRm 2 53) s m args below meth c H locs 0 0 Q (F0 m 107 ls []) := by
      intro w107_0 w107_1 w107_2 hf H locs hP hD hS ls hl
      unfold q_L_tick_J107 at hf
      refine lv_aload_n hx hb dL_tick_107 rfl (lv_at hl 0 rfl) ?_
      refine lv_bipush (v := 6) hx hb dL_tick_108 (by decide) ?_
      refine lv_dup2_11 hx hb dL_tick_110 rfl rfl ?_
      refine z_iald (v := (w107_0 6)) hx hb hK hP 0 0 rfl rfl (z_in rfl) rfl dL_tick_111 ?_
      refine lv_iconst (v := 1) hx hb dL_tick_112 (by decide) ?_
      refine lv_iadd hx hb dL_tick_113 ?_
      replace hf := zn_s hf
      obtain ⟨s114, es114, hf⟩ := hf
      refine z_iast (ws' := wAR G ad b 20 s114 ++ wAR G ad1 b1 8 u1 ++ wAR G ad2 b2 6 w107_1 ++ wAR G ad3 b3 20 u3 ++ wAR G ad4 b4 30 w107_2) hx hb hK hP hD hS 0 0 rfl rfl (z_in rfl) es114 rfl dL_tick_114 (fun H locs hP hD hS => ?_)
      refine lv_aload_n hx hb dL_tick_115 rfl (lv_at hl 0 rfl) ?_
      refine lv_bipush (v := 6) hx hb dL_tick_116 (by decide) ?_
      refine z_iald (v := (s114 6)) hx hb hK hP 0 0 rfl rfl (z_in rfl) rfl dL_tick_118 ?_
      refine lv_aload_n hx hb dL_tick_119 rfl (lv_at hl 0 rfl) ?_
      refine lv_bipush (v := 7) hx hb dL_tick_120 (by decide) ?_
      refine z_iald (v := (s114 7)) hx hb hK hP 0 0 rfl rfl (z_in rfl) rfl dL_tick_122 ?_
      refine lv_icmp_ge (tgt := 129) hx hb dL_tick_123 (by decide) (fun c123 => ?_) (fun c123 => ?_)
      · replace hf := zi_p hf c123
        refine lv_aload_n hx hb dL_tick_129 rfl (lv_at hl 0 rfl) ?_
        refine lv_iconst (v := 5) hx hb dL_tick_130 (by decide) ?_
        refine z_iald (v := (s114 5)) hx hb hK hP 0 0 rfl rfl (z_in rfl) rfl dL_tick_131 ?_
        refine lv_istore (lv' := [(5, .int (s114 5)), (0, .ref (ad b)), (1, .ref (ad1 b1)), (3, .ref (ad3 b3)), (4, .ref (ad4 b4))]) hx hb dL_tick_132 hl (by decide) rfl (fun ls hl => ?_)
        refine lv_aload_n hx hb dL_tick_134 rfl (lv_at hl 2 rfl) ?_
        refine lv_iload hx hb dL_tick_135 (lv_at hl 0 rfl) ?_
        refine lv_aload_n hx hb dL_tick_137 rfl (lv_at hl 1 rfl) ?_
        refine lv_iconst (v := 0) hx hb dL_tick_138 (by decide) ?_
        refine z_iald (v := (s114 0)) hx hb hK hP 0 0 rfl rfl (z_in rfl) rfl dL_tick_139 ?_
        replace hf := zs_s hf
        obtain ⟨hi140, s140, es140, hf⟩ := hf
        refine z_iast (ws' := wAR G ad b 20 s114 ++ wAR G ad1 b1 8 s140 ++ wAR G ad2 b2 6 w107_1 ++ wAR G ad3 b3 20 u3 ++ wAR G ad4 b4 30 w107_2) hx hb hK hP hD hS 1 0 rfl rfl hi140 es140 rfl dL_tick_140 (fun H locs hP hD hS => ?_)
        refine lv_aload_n hx hb dL_tick_141 rfl (lv_at hl 1 rfl) ?_
        refine lv_iconst (v := 5) hx hb dL_tick_142 (by decide) ?_
        refine lv_bipush (v := (-6)) hx hb dL_tick_143 (by decide) ?_
        replace hf := zn_s hf
        obtain ⟨s145, es145, hf⟩ := hf
        refine z_iast (ws' := wAR G ad b 20 s145 ++ wAR G ad1 b1 8 s140 ++ wAR G ad2 b2 6 w107_1 ++ wAR G ad3 b3 20 u3 ++ wAR G ad4 b4 30 w107_2) hx hb hK hP hD hS 0 0 rfl rfl (z_in rfl) es145 rfl dL_tick_145 (fun H locs hP hD hS => ?_)
        refine lv_aload_n hx hb dL_tick_146 rfl (lv_at hl 1 rfl) ?_
        refine lv_bipush (v := 6) hx hb dL_tick_147 (by decide) ?_
        refine lv_iconst (v := 0) hx hb dL_tick_149 (by decide) ?_
        replace hf := zn_s hf
        obtain ⟨s150, es150, hf⟩ := hf
        refine z_iast (ws' := wAR G ad b 20 s150 ++ wAR G ad1 b1 8 s140 ++ wAR G ad2 b2 6 w107_1 ++ wAR G ad3 b3 20 u3 ++ wAR G ad4 b4 30 w107_2) hx hb hK hP hD hS 0 0 rfl rfl (z_in rfl) es150 rfl dL_tick_150 (fun H locs hP hD hS => ?_)
        refine lv_aload_n hx hb dL_tick_151 rfl (lv_at hl 1 rfl) ?_
        refine lv_bipush (v := 7) hx hb dL_tick_152 (by decide) ?_
        refine lv_iconst (v := 0) hx hb dL_tick_154 (by decide) ?_
        replace hf := zn_s hf
        obtain ⟨s155, es155, hf⟩ := hf
        refine z_iast (ws' := wAR G ad b 20 s155 ++ wAR G ad1 b1 8 s140 ++ wAR G ad2 b2 6 w107_1 ++ wAR G ad3 b3 20 u3 ++ wAR G ad4 b4 30 w107_2) hx hb hK hP hD hS 0 0 rfl rfl (z_in rfl) es155 rfl dL_tick_155 (fun H locs hP hD hS => ?_)
        refine lv_aload_n hx hb dL_tick_156 rfl (lv_at hl 1 rfl) ?_
        refine lv_bipush (v := 9) hx hb dL_tick_157 (by decide) ?_
        refine lv_dup2_11 hx hb dL_tick_159 rfl rfl ?_
        refine z_iald (v := (s155 9)) hx hb hK hP 0 0 rfl rfl (z_in rfl) rfl dL_tick_160 ?_
        refine lv_iconst (v := 1) hx hb dL_tick_161 (by decide) ?_
        refine lv_iadd hx hb dL_tick_162 ?_
        replace hf := zn_s hf
        obtain ⟨s163, es163, hf⟩ := hf
        refine z_iast (ws' := wAR G ad b 20 s163 ++ wAR G ad1 b1 8 s140 ++ wAR G ad2 b2 6 w107_1 ++ wAR G ad3 b3 20 u3 ++ wAR G ad4 b4 30 w107_2) hx hb hK hP hD hS 0 0 rfl rfl (z_in rfl) es163 rfl dL_tick_163 (fun H locs hP hD hS => ?_)
        refine lv_aload_n hx hb dL_tick_164 rfl (lv_at hl 1 rfl) ?_
        refine lv_bipush (v := 13) hx hb dL_tick_165 (by decide) ?_
        refine lv_iload hx hb dL_tick_167 (lv_at hl 0 rfl) ?_
        replace hf := zn_s hf
        obtain ⟨s169, es169, hf⟩ := hf
        refine z_iast (ws' := wAR G ad b 20 s169 ++ wAR G ad1 b1 8 s140 ++ wAR G ad2 b2 6 w107_1 ++ wAR G ad3 b3 20 u3 ++ wAR G ad4 b4 30 w107_2) hx hb hK hP hD hS 0 0 rfl rfl (z_in rfl) es169 rfl dL_tick_169 (fun H locs hP hD hS => ?_)
        refine lv_iconst (v := 3) hx hb dL_tick_170 (by decide) ?_
        refine lv_iload hx hb dL_tick_171 (lv_at hl 0 rfl) ?_
        refine lv_aload_n hx hb dL_tick_173 rfl (lv_at hl 1 rfl) ?_
        refine lv_aload hx hb dL_tick_174 (lv_at hl 4 rfl) ?_
        replace hf := zb_s hf
        obtain ⟨r176, hr176, hf⟩ := hf
        refine z_GSv (rest := []) C0 kL_24 (c_L_log l D G ad (b) ad4 (b4) s169 w107_2 3 (s114 5) r176 hr176) pz_5_0_4 pz_5_0_4.symm rfl ⟨Nat.le_of_ble_eq_true rfl, Nat.le_of_ble_eq_true rfl⟩ (Nat.le_of_ble_eq_true rfl) ⟨Nat.le_of_ble_eq_true rfl, Nat.le_of_ble_eq_true rfl⟩ rfl hl.1 hP hD hS dL_tick_176 (fun H locs hP hD hS => ?_)
        replace hP : va_P D vwCl (wAR G ad b 20 r176.1 ++ wAR G ad1 b1 8 s140 ++ wAR G ad2 b2 6 w107_1 ++ wAR G ad3 b3 20 u3 ++ wAR G ad4 b4 30 r176.2) H := hP
        replace hD : va_D A (wAR G ad b 20 r176.1 ++ wAR G ad1 b1 8 s140 ++ wAR G ad2 b2 6 w107_1 ++ wAR G ad3 b3 20 u3 ++ wAR G ad4 b4 30 r176.2) := hD
        refine lv_iconst (v := 0) hx hb dL_tick_179 (by decide) ?_
        refine lv_istore (lv' := [(6, .int 0), (5, .int (s114 5)), (0, .ref (ad b)), (1, .ref (ad1 b1)), (3, .ref (ad3 b3)), (4, .ref (ad4 b4))]) hx hb dL_tick_180 hl (by decide) rfl (fun ls hl => ?_)
        replace hf := zb_s hf
        obtain ⟨b182, hz182, hk182⟩ := hf
        have L182 : ∀ (n182 : Nat) (v182 : Int32 × (Nat → Int32) × (Nat → Int32) × (Nat → Int32)) (hz182 : zl n182 (q_L_tick_L182 s114) v182 = some b182) (H : Heap) (locs : List Loc) (hP : va_P D vwCl (wAR G ad b 20 v182.2.1 ++ wAR G ad1 b1 8 s140 ++ wAR G ad2 b2 6 w107_1 ++ wAR G ad3 b3 20 v182.2.2.1 ++ wAR G ad4 b4 30 v182.2.2.2) H) (hD : va_D A (wAR G ad b 20 v182.2.1 ++ wAR G ad1 b1 8 s140 ++ wAR G ad2 b2 6 w107_1 ++ wAR G ad3 b3 20 v182.2.2.1 ++ wAR G ad4 b4 30 v182.2.2.2)) (hS : va_S A s.heap H locs) (ls : Array Slot) (hl : lv_has ls 8 [(0, .ref (ad b)), (3, .ref (ad3 b3)), (4, .ref (ad4 b4)), (5, .int (s114 5)), (6, .int v182.1)]), W p l e (zRm 2 53) s m args below meth c H locs 0 0 Q (F0 m 182 ls []) := by
          intro n182
          induction n182 with
          | zero => intro v182 hz182; exact (zl_0 hz182).elim
          | succ n182 ih182 =>
            intro v182 hz182 H locs hP hD hS ls hl
            obtain ⟨o182, hf, hz182⟩ := zl_s hz182
            unfold q_L_tick_L182 at hf
            refine lv_iload hx hb dL_tick_182 (lv_at hl 4 rfl) ?_
            refine lv_aload_n hx hb dL_tick_184 rfl (lv_at hl 0 rfl) ?_
            refine lv_iconst (v := 2) hx hb dL_tick_185 (by decide) ?_
            refine z_iald (v := (v182.2.1 2)) hx hb hK hP 0 0 rfl rfl (z_in rfl) rfl dL_tick_186 ?_
            refine lv_icmp_ge (tgt := 317) hx hb dL_tick_187 (by decide) (fun c187 => ?_) (fun c187 => ?_)
            · replace hf := zi_p hf c187
              have hb182 := zk_r hf hz182
              subst hb182
              replace hf := hk182
              refine lv_iload hx hb dL_tick_317 (lv_at hl 3 rfl) ?_
              obtain rfl := zo hf
              exact hret _ _ _ _ _ hP hD hS rfl dL_tick_319
            · replace hf := zi_n hf c187
              refine lv_aload_n hx hb dL_tick_190 rfl (lv_at hl 1 rfl) ?_
              refine lv_iload hx hb dL_tick_191 (lv_at hl 4 rfl) ?_
              replace hf := zg_s hf
              obtain ⟨hi193, a193, ea193, hf⟩ := hf
              refine z_iald hx hb hK hP 3 0 rfl rfl hi193 ea193 dL_tick_193 ?_
              refine lv_bipush (v := 10) hx hb dL_tick_194 (by decide) ?_
              refine lv_idiv hx hb dL_tick_196 (by decide) ?_
              refine lv_iload hx hb dL_tick_197 (lv_at hl 3 rfl) ?_
              refine lv_icmp_eq (tgt := 205) hx hb dL_tick_199 (by decide) (fun c199 => ?_) (fun c199 => ?_)
              · replace hf := zi_p hf c199
                refine lv_aload_n hx hb dL_tick_205 rfl (lv_at hl 1 rfl) ?_
                refine lv_iload hx hb dL_tick_206 (lv_at hl 4 rfl) ?_
                replace hf := zg_s hf
                obtain ⟨hi208, a208, ea208, hf⟩ := hf
                refine z_iald hx hb hK hP 3 0 rfl rfl hi208 ea208 dL_tick_208 ?_
                refine lv_bipush (v := 10) hx hb dL_tick_209 (by decide) ?_
                refine lv_irem hx hb dL_tick_211 (by decide) ?_
                refine lv_aload_n hx hb dL_tick_212 rfl (lv_at hl 0 rfl) ?_
                refine lv_bipush (v := 18) hx hb dL_tick_213 (by decide) ?_
                refine z_iald (v := (v182.2.1 18)) hx hb hK hP 0 0 rfl rfl (z_in rfl) rfl dL_tick_215 ?_
                refine lv_icmp_ge (tgt := 230) hx hb dL_tick_216 (by decide) (fun c216 => ?_) (fun c216 => ?_)
                · replace hf := zi_p hf c216
                  refine lv_aload_n hx hb dL_tick_230 rfl (lv_at hl 0 rfl) ?_
                  refine lv_iconst (v := 3) hx hb dL_tick_231 (by decide) ?_
                  refine z_iald (v := (v182.2.1 3)) hx hb hK hP 0 0 rfl rfl (z_in rfl) rfl dL_tick_232 ?_
                  have J241 : ∀ (y241_0 : Int32) (hf : q_L_tick_J241 s114 v182 y241_0 = some o182) (H : Heap) (locs : List Loc) (hP : va_P D vwCl (wAR G ad b 20 v182.2.1 ++ wAR G ad1 b1 8 s140 ++ wAR G ad2 b2 6 w107_1 ++ wAR G ad3 b3 20 v182.2.2.1 ++ wAR G ad4 b4 30 v182.2.2.2) H) (hD : va_D A (wAR G ad b 20 v182.2.1 ++ wAR G ad1 b1 8 s140 ++ wAR G ad2 b2 6 w107_1 ++ wAR G ad3 b3 20 v182.2.2.1 ++ wAR G ad4 b4 30 v182.2.2.2)) (hS : va_S A s.heap H locs) (ls : Array Slot) (hl : lv_has ls 8 [(0, .ref (ad b)), (3, .ref (ad3 b3)), (4, .ref (ad4 b4)), (5, .int (s114 5)), (6, .int v182.1)]), W p l e (zRm 2 53) s m args below meth c H locs 0 0 Q (F0 m 241 ls [.int y241_0]) := by
                    intro y241_0 hf H locs hP hD hS ls hl
                    unfold q_L_tick_J241 at hf
                    refine lv_iload hx hb dL_tick_241 (lv_at hl 3 rfl) ?_
                    refine lv_aload_n hx hb dL_tick_243 rfl (lv_at hl 0 rfl) ?_
                    refine lv_aload hx hb dL_tick_244 (lv_at hl 2 rfl) ?_
                    replace hf := zb_s hf
                    obtain ⟨r246, hr246, hf⟩ := hf
                    refine z_GSv (rest := []) C0 kL_24 (c_L_log l D G ad (b) ad4 (b4) v182.2.1 v182.2.2.2 y241_0 (s114 5) r246 hr246) pz_5_0_4 pz_5_0_4.symm rfl ⟨Nat.le_of_ble_eq_true rfl, Nat.le_of_ble_eq_true rfl⟩ (Nat.le_of_ble_eq_true rfl) ⟨Nat.le_of_ble_eq_true rfl, Nat.le_of_ble_eq_true rfl⟩ rfl hl.1 hP hD hS dL_tick_246 (fun H locs hP hD hS => ?_)
                    replace hP : va_P D vwCl (wAR G ad b 20 r246.1 ++ wAR G ad1 b1 8 s140 ++ wAR G ad2 b2 6 w107_1 ++ wAR G ad3 b3 20 v182.2.2.1 ++ wAR G ad4 b4 30 r246.2) H := hP
                    replace hD : va_D A (wAR G ad b 20 r246.1 ++ wAR G ad1 b1 8 s140 ++ wAR G ad2 b2 6 w107_1 ++ wAR G ad3 b3 20 v182.2.2.1 ++ wAR G ad4 b4 30 r246.2) := hD
                    refine lv_aload_n hx hb dL_tick_249 rfl (lv_at hl 0 rfl) ?_
                    refine lv_iconst (v := 3) hx hb dL_tick_250 (by decide) ?_
                    refine z_iald (v := (r246.1 3)) hx hb hK hP 0 0 rfl rfl (z_in rfl) rfl dL_tick_251 ?_
                    refine lv_if_ne (tgt := 258) hx hb dL_tick_252 (by decide) (fun c252 => ?_) (fun c252 => ?_)
                    · replace hf := zi_n hf c252
                      refine lv_aload_n hx hb dL_tick_258 rfl (lv_at hl 0 rfl) ?_
                      refine lv_iconst (v := 3) hx hb dL_tick_259 (by decide) ?_
                      refine lv_dup2_11 hx hb dL_tick_260 rfl rfl ?_
                      refine z_iald (v := (r246.1 3)) hx hb hK hP 0 0 rfl rfl (z_in rfl) rfl dL_tick_261 ?_
                      refine lv_iconst (v := 1) hx hb dL_tick_262 (by decide) ?_
                      refine lv_isub hx hb dL_tick_263 ?_
                      replace hf := zn_s hf
                      obtain ⟨s264, es264, hf⟩ := hf
                      refine z_iast (ws' := wAR G ad b 20 s264 ++ wAR G ad1 b1 8 s140 ++ wAR G ad2 b2 6 w107_1 ++ wAR G ad3 b3 20 v182.2.2.1 ++ wAR G ad4 b4 30 r246.2) hx hb hK hP hD hS 0 0 rfl rfl (z_in rfl) es264 rfl dL_tick_264 (fun H locs hP hD hS => ?_)
                      refine lv_aload_n hx hb dL_tick_265 rfl (lv_at hl 0 rfl) ?_
                      refine lv_bipush (v := 11) hx hb dL_tick_266 (by decide) ?_
                      refine lv_dup2_11 hx hb dL_tick_268 rfl rfl ?_
                      refine z_iald (v := (s264 11)) hx hb hK hP 0 0 rfl rfl (z_in rfl) rfl dL_tick_269 ?_
                      refine lv_iconst (v := 1) hx hb dL_tick_270 (by decide) ?_
                      refine lv_iadd hx hb dL_tick_271 ?_
                      replace hf := zn_s hf
                      obtain ⟨s272, es272, hf⟩ := hf
                      refine z_iast (ws' := wAR G ad b 20 s272 ++ wAR G ad1 b1 8 s140 ++ wAR G ad2 b2 6 w107_1 ++ wAR G ad3 b3 20 v182.2.2.1 ++ wAR G ad4 b4 30 r246.2) hx hb hK hP hD hS 0 0 rfl rfl (z_in rfl) es272 rfl dL_tick_272 (fun H locs hP hD hS => ?_)
                      refine lv_aload_n hx hb dL_tick_273 rfl (lv_at hl 0 rfl) ?_
                      refine lv_iconst (v := 2) hx hb dL_tick_274 (by decide) ?_
                      refine lv_dup2_11 hx hb dL_tick_275 rfl rfl ?_
                      refine z_iald (v := (s272 2)) hx hb hK hP 0 0 rfl rfl (z_in rfl) rfl dL_tick_276 ?_
                      refine lv_iconst (v := 1) hx hb dL_tick_277 (by decide) ?_
                      refine lv_isub hx hb dL_tick_278 ?_
                      replace hf := zn_s hf
                      obtain ⟨s279, es279, hf⟩ := hf
                      refine z_iast (ws' := wAR G ad b 20 s279 ++ wAR G ad1 b1 8 s140 ++ wAR G ad2 b2 6 w107_1 ++ wAR G ad3 b3 20 v182.2.2.1 ++ wAR G ad4 b4 30 r246.2) hx hb hK hP hD hS 0 0 rfl rfl (z_in rfl) es279 rfl dL_tick_279 (fun H locs hP hD hS => ?_)
                      refine lv_iload hx hb dL_tick_280 (lv_at hl 4 rfl) ?_
                      refine lv_istore (lv' := [(7, .int v182.1), (0, .ref (ad b)), (3, .ref (ad3 b3)), (4, .ref (ad4 b4)), (5, .int (s114 5)), (6, .int v182.1)]) hx hb dL_tick_282 hl (by decide) rfl (fun ls hl => ?_)
                      replace hf := zb_s hf
                      obtain ⟨b284, hz284, hk284⟩ := hf
                      have L284 : ∀ (n284 : Nat) (v284 : Int32 × (Nat → Int32)) (hz284 : zl n284 (q_L_tick_L284 s279) v284 = some b284) (H : Heap) (locs : List Loc) (hP : va_P D vwCl (wAR G ad b 20 s279 ++ wAR G ad1 b1 8 s140 ++ wAR G ad2 b2 6 w107_1 ++ wAR G ad3 b3 20 v284.2 ++ wAR G ad4 b4 30 r246.2) H) (hD : va_D A (wAR G ad b 20 s279 ++ wAR G ad1 b1 8 s140 ++ wAR G ad2 b2 6 w107_1 ++ wAR G ad3 b3 20 v284.2 ++ wAR G ad4 b4 30 r246.2)) (hS : va_S A s.heap H locs) (ls : Array Slot) (hl : lv_has ls 8 [(0, .ref (ad b)), (3, .ref (ad3 b3)), (4, .ref (ad4 b4)), (5, .int (s114 5)), (6, .int v182.1), (7, .int v284.1)]), W p l e (zRm 2 53) s m args below meth c H locs 0 0 Q (F0 m 284 ls []) := by
                        intro n284
                        induction n284 with
                        | zero => intro v284 hz284; exact (zl_0 hz284).elim
                        | succ n284 ih284 =>
                          intro v284 hz284 H locs hP hD hS ls hl
                          obtain ⟨o284, hf, hz284⟩ := zl_s hz284
                          unfold q_L_tick_L284 at hf
                          refine lv_iload hx hb dL_tick_284 (lv_at hl 5 rfl) ?_
                          refine lv_aload_n hx hb dL_tick_286 rfl (lv_at hl 0 rfl) ?_
                          refine lv_iconst (v := 2) hx hb dL_tick_287 (by decide) ?_
                          refine z_iald (v := (s279 2)) hx hb hK hP 0 0 rfl rfl (z_in rfl) rfl dL_tick_288 ?_
                          refine lv_icmp_ge (tgt := 308) hx hb dL_tick_289 (by decide) (fun c289 => ?_) (fun c289 => ?_)
                          · replace hf := zi_p hf c289
                            have hb284 := zk_r hf hz284
                            subst hb284
                            replace hf := hk284
                            refine lv_iinc (v := (v182.1 + (-1))) (lv' := [(6, .int (v182.1 + (-1))), (0, .ref (ad b)), (3, .ref (ad3 b3)), (4, .ref (ad4 b4)), (5, .int (s114 5)), (7, .int v284.1)]) hx hb dL_tick_308 hl (k := 4) rfl rfl (by decide) rfl (fun ls hl => ?_)
                            refine lv_iinc (v := ((v182.1 + (-1)) + 1)) (lv' := [(6, .int ((v182.1 + (-1)) + 1)), (0, .ref (ad b)), (3, .ref (ad3 b3)), (4, .ref (ad4 b4)), (5, .int (s114 5)), (7, .int v284.1)]) hx hb dL_tick_311 hl (k := 0) rfl rfl (by decide) rfl (fun ls hl => ?_)
                            refine lv_goto (tgt := 182) hx hb dL_tick_314 (by decide) ?_
                            exact ih182 _ (zk_l hf hz182) _ _ hP hD hS _ (lv_sub hl [1, 2, 3, 4, 0] rfl)
                          · replace hf := zi_n hf c289
                            refine lv_aload_n hx hb dL_tick_292 rfl (lv_at hl 1 rfl) ?_
                            refine lv_iload hx hb dL_tick_293 (lv_at hl 5 rfl) ?_
                            refine lv_aload_n hx hb dL_tick_295 rfl (lv_at hl 1 rfl) ?_
                            refine lv_iload hx hb dL_tick_296 (lv_at hl 5 rfl) ?_
                            refine lv_iconst (v := 1) hx hb dL_tick_298 (by decide) ?_
                            refine lv_iadd hx hb dL_tick_299 ?_
                            replace hf := zg_s hf
                            obtain ⟨hi300, a300, ea300, hf⟩ := hf
                            refine z_iald hx hb hK hP 3 0 rfl rfl hi300 ea300 dL_tick_300 ?_
                            replace hf := zs_s hf
                            obtain ⟨hi301, s301, es301, hf⟩ := hf
                            refine z_iast (ws' := wAR G ad b 20 s279 ++ wAR G ad1 b1 8 s140 ++ wAR G ad2 b2 6 w107_1 ++ wAR G ad3 b3 20 s301 ++ wAR G ad4 b4 30 r246.2) hx hb hK hP hD hS 3 0 rfl rfl hi301 es301 rfl dL_tick_301 (fun H locs hP hD hS => ?_)
                            refine lv_iinc (v := (v284.1 + 1)) (lv' := [(7, .int (v284.1 + 1)), (0, .ref (ad b)), (3, .ref (ad3 b3)), (4, .ref (ad4 b4)), (5, .int (s114 5)), (6, .int v182.1)]) hx hb dL_tick_302 hl (k := 5) rfl rfl (by decide) rfl (fun ls hl => ?_)
                            refine lv_goto (tgt := 284) hx hb dL_tick_305 (by decide) ?_
                            exact ih284 _ (zk_l hf hz284) _ _ hP hD hS _ (lv_sub hl [1, 2, 3, 4, 5, 0] rfl)
                      exact L284 _ _ hz284 _ _ hP hD hS _ (lv_sub hl [1, 2, 3, 4, 5, 0] rfl)
                    · replace hf := zi_p hf c252
                      refine lv_goto (tgt := 311) hx hb dL_tick_255 (by decide) ?_
                      refine lv_iinc (v := (v182.1 + 1)) (lv' := [(6, .int (v182.1 + 1)), (0, .ref (ad b)), (3, .ref (ad3 b3)), (4, .ref (ad4 b4)), (5, .int (s114 5))]) hx hb dL_tick_311 hl (k := 4) rfl rfl (by decide) rfl (fun ls hl => ?_)
                      refine lv_goto (tgt := 182) hx hb dL_tick_314 (by decide) ?_
                      exact ih182 _ (zk_l hf hz182) _ _ hP hD hS _ (lv_sub hl [1, 2, 3, 4, 0] rfl)
                  refine lv_if_le (tgt := 240) hx hb dL_tick_233 (by decide) (fun c233 => ?_) (fun c233 => ?_)
                  · replace hf := zi_p hf c233
                    refine lv_iconst (v := 5) hx hb dL_tick_240 (by decide) ?_
                    exact J241 5 hf _ _ hP hD hS _ (lv_sub hl [0, 1, 2, 3, 4] rfl)
                  · replace hf := zi_n hf c233
                    refine lv_iconst (v := 4) hx hb dL_tick_236 (by decide) ?_
                    refine lv_goto (tgt := 241) hx hb dL_tick_237 (by decide) ?_
                    exact J241 4 hf _ _ hP hD hS _ (lv_sub hl [0, 1, 2, 3, 4] rfl)
                · replace hf := zi_n hf c216
                  refine lv_aload_n hx hb dL_tick_219 rfl (lv_at hl 1 rfl) ?_
                  refine lv_iload hx hb dL_tick_220 (lv_at hl 4 rfl) ?_
                  refine lv_dup2_11 hx hb dL_tick_222 rfl rfl ?_
                  replace hf := zg_s hf
                  obtain ⟨hi223, a223, ea223, hf⟩ := hf
                  refine z_iald hx hb hK hP 3 0 rfl rfl hi223 ea223 dL_tick_223 ?_
                  refine lv_iconst (v := 1) hx hb dL_tick_224 (by decide) ?_
                  refine lv_iadd hx hb dL_tick_225 ?_
                  replace hf := zs_s hf
                  obtain ⟨hi226, s226, es226, hf⟩ := hf
                  refine z_iast (ws' := wAR G ad b 20 v182.2.1 ++ wAR G ad1 b1 8 s140 ++ wAR G ad2 b2 6 w107_1 ++ wAR G ad3 b3 20 s226 ++ wAR G ad4 b4 30 v182.2.2.2) hx hb hK hP hD hS 3 0 rfl rfl hi226 es226 rfl dL_tick_226 (fun H locs hP hD hS => ?_)
                  refine lv_goto (tgt := 311) hx hb dL_tick_227 (by decide) ?_
                  refine lv_iinc (v := (v182.1 + 1)) (lv' := [(6, .int (v182.1 + 1)), (0, .ref (ad b)), (3, .ref (ad3 b3)), (4, .ref (ad4 b4)), (5, .int (s114 5))]) hx hb dL_tick_311 hl (k := 4) rfl rfl (by decide) rfl (fun ls hl => ?_)
                  refine lv_goto (tgt := 182) hx hb dL_tick_314 (by decide) ?_
                  exact ih182 _ (zk_l hf hz182) _ _ hP hD hS _ (lv_sub hl [1, 2, 3, 4, 0] rfl)
              · replace hf := zi_n hf c199
                refine lv_goto (tgt := 311) hx hb dL_tick_202 (by decide) ?_
                refine lv_iinc (v := (v182.1 + 1)) (lv' := [(6, .int (v182.1 + 1)), (0, .ref (ad b)), (3, .ref (ad3 b3)), (4, .ref (ad4 b4)), (5, .int (s114 5))]) hx hb dL_tick_311 hl (k := 4) rfl rfl (by decide) rfl (fun ls hl => ?_)
                refine lv_goto (tgt := 182) hx hb dL_tick_314 (by decide) ?_
                exact ih182 _ (zk_l hf hz182) _ _ hP hD hS _ (lv_sub hl [1, 2, 3, 4, 0] rfl)
        exact L182 _ _ hz182 _ _ hP hD hS _ (lv_sub hl [2, 4, 5, 1, 0] rfl)
      · replace hf := zi_n hf c123
        refine lv_bipush (v := (-6)) hx hb dL_tick_126 (by decide) ?_
        obtain rfl := zo hf
        exact hret _ _ _ _ _ hP hD hS rfl dL_tick_128
    refine lv_if_ge (tgt := 107) hx hb dL_tick_30 (by decide) (fun c30 => ?_) (fun c30 => ?_)
    · replace hf := zi_p hf c30
      exact J107 s6 u2 u4 hf _ _ hP hD hS _ (lv_sub hl [0, 1, 3, 4] rfl)
    · replace hf := zi_n hf c30
      refine lv_aload_n hx hb dL_tick_33 rfl (lv_at hl 0 rfl) ?_
      refine lv_aload_n hx hb dL_tick_34 rfl (lv_at hl 1 rfl) ?_
      refine lv_aload_n hx hb dL_tick_35 rfl (lv_at hl 2 rfl) ?_
      refine lv_aload_n hx hb dL_tick_36 rfl (lv_at hl 3 rfl) ?_
      replace hf := zb_s hf
      obtain ⟨r37, hr37, hf⟩ := hf
      refine z_GSi (rest := []) C0 kL_16 (c_L_next l D G ad (b) ad1 (b1) ad2 (b2) ad3 (b3) s6 u1 u2 u3 r37 hr37) pz_5_0_1_2_3 pz_5_0_1_2_3.symm rfl ⟨Nat.le_of_ble_eq_true rfl, Nat.le_of_ble_eq_true rfl⟩ (Nat.le_of_ble_eq_true rfl) ⟨Nat.le_of_ble_eq_true rfl, Nat.le_of_ble_eq_true rfl⟩ rfl hl.1 hP hD hS dL_tick_37 (fun H locs hP hD hS => ?_)
      refine lv_istore (lv' := [(5, .int r37), (0, .ref (ad b)), (1, .ref (ad1 b1)), (2, .ref (ad2 b2)), (3, .ref (ad3 b3)), (4, .ref (ad4 b4))]) hx hb dL_tick_40 hl (by decide) rfl (fun ls hl => ?_)
      refine lv_iload hx hb dL_tick_42 (lv_at hl 0 rfl) ?_
      refine lv_if_ge (tgt := 50) hx hb dL_tick_44 (by decide) (fun c44 => ?_) (fun c44 => ?_)
      · replace hf := zi_p hf c44
        refine lv_aload_n hx hb dL_tick_50 rfl (lv_at hl 1 rfl) ?_
        refine lv_bipush (v := 8) hx hb dL_tick_51 (by decide) ?_
        refine z_iald (v := (s6 8)) hx hb hK hP 0 0 rfl rfl (z_in rfl) rfl dL_tick_53 ?_
        have J63 : ∀ (w63_0 : Nat → Int32) (w63_1 : Nat → Int32) (hf : q_L_tick_J63 u1 u3 u4 r37 w63_0 w63_1 = some res) (H : Heap) (locs : List Loc) (hP : va_P D vwCl (wAR G ad b 20 w63_0 ++ wAR G ad1 b1 8 u1 ++ wAR G ad2 b2 6 w63_1 ++ wAR G ad3 b3 20 u3 ++ wAR G ad4 b4 30 u4) H) (hD : va_D A (wAR G ad b 20 w63_0 ++ wAR G ad1 b1 8 u1 ++ wAR G ad2 b2 6 w63_1 ++ wAR G ad3 b3 20 u3 ++ wAR G ad4 b4 30 u4)) (hS : va_S A s.heap H locs) (ls : Array Slot) (hl : lv_has ls 8 [(0, .ref (ad b)), (1, .ref (ad1 b1)), (3, .ref (ad3 b3)), (4, .ref (ad4 b4)), (5, .int r37)]), W p l e (zRm 2 53) s m args below meth c H locs 0 0 Q (F0 m 63 ls []) := by
          intro w63_0 w63_1 hf H locs hP hD hS ls hl
          unfold q_L_tick_J63 at hf
          refine lv_aload_n hx hb dL_tick_63 rfl (lv_at hl 0 rfl) ?_
          refine lv_iconst (v := 5) hx hb dL_tick_64 (by decide) ?_
          refine lv_iload hx hb dL_tick_65 (lv_at hl 4 rfl) ?_
          replace hf := zn_s hf
          obtain ⟨s67, es67, hf⟩ := hf
          refine z_iast (ws' := wAR G ad b 20 s67 ++ wAR G ad1 b1 8 u1 ++ wAR G ad2 b2 6 w63_1 ++ wAR G ad3 b3 20 u3 ++ wAR G ad4 b4 30 u4) hx hb hK hP hD hS 0 0 rfl rfl (z_in rfl) es67 rfl dL_tick_67 (fun H locs hP hD hS => ?_)
          refine lv_aload_n hx hb dL_tick_68 rfl (lv_at hl 0 rfl) ?_
          refine lv_bipush (v := 6) hx hb dL_tick_69 (by decide) ?_
          refine lv_iconst (v := 0) hx hb dL_tick_71 (by decide) ?_
          replace hf := zn_s hf
          obtain ⟨s72, es72, hf⟩ := hf
          refine z_iast (ws' := wAR G ad b 20 s72 ++ wAR G ad1 b1 8 u1 ++ wAR G ad2 b2 6 w63_1 ++ wAR G ad3 b3 20 u3 ++ wAR G ad4 b4 30 u4) hx hb hK hP hD hS 0 0 rfl rfl (z_in rfl) es72 rfl dL_tick_72 (fun H locs hP hD hS => ?_)
          refine lv_aload_n hx hb dL_tick_73 rfl (lv_at hl 0 rfl) ?_
          refine lv_bipush (v := 7) hx hb dL_tick_74 (by decide) ?_
          refine lv_aload_n hx hb dL_tick_76 rfl (lv_at hl 0 rfl) ?_
          refine lv_bipush (v := 16) hx hb dL_tick_77 (by decide) ?_
          refine z_iald (v := (s72 16)) hx hb hK hP 0 0 rfl rfl (z_in rfl) rfl dL_tick_79 ?_
          refine lv_aload_n hx hb dL_tick_80 rfl (lv_at hl 0 rfl) ?_
          refine lv_bipush (v := 17) hx hb dL_tick_81 (by decide) ?_
          refine z_iald (v := (s72 17)) hx hb hK hP 0 0 rfl rfl (z_in rfl) rfl dL_tick_83 ?_
          refine lv_iload hx hb dL_tick_84 (lv_at hl 4 rfl) ?_
          refine lv_aload_n hx hb dL_tick_86 rfl (lv_at hl 0 rfl) ?_
          refine lv_bipush (v := 18) hx hb dL_tick_87 (by decide) ?_
          refine z_iald (v := (s72 18)) hx hb hK hP 0 0 rfl rfl (z_in rfl) rfl dL_tick_89 ?_
          refine lv_aload_n hx hb dL_tick_90 rfl (lv_at hl 0 rfl) ?_
          refine lv_aload_n hx hb dL_tick_91 rfl (lv_at hl 2 rfl) ?_
          replace hf := zb_s hf
          obtain ⟨r92, hr92, hf⟩ := hf
          refine z_GSi (rest := [.int (s72 17), .int (s72 16), .int 7, .ref (ad b)]) C0 kL_10 (c_L_sum l D G ad (b) ad3 (b3) s72 u3 r37 (s72 18) r92 hr92) pz_5_0_3 pz_5_0_3.symm rfl ⟨Nat.le_of_ble_eq_true rfl, Nat.le_of_ble_eq_true rfl⟩ (Nat.le_of_ble_eq_true rfl) ⟨Nat.le_of_ble_eq_true rfl, Nat.le_of_ble_eq_true rfl⟩ rfl hl.1 hP hD hS dL_tick_92 (fun H locs hP hD hS => ?_)
          refine lv_imul hx hb dL_tick_95 ?_
          refine lv_iadd hx hb dL_tick_96 ?_
          replace hf := zn_s hf
          obtain ⟨s97, es97, hf⟩ := hf
          refine z_iast (ws' := wAR G ad b 20 s97 ++ wAR G ad1 b1 8 u1 ++ wAR G ad2 b2 6 w63_1 ++ wAR G ad3 b3 20 u3 ++ wAR G ad4 b4 30 u4) hx hb hK hP hD hS 0 0 rfl rfl (z_in rfl) es97 rfl dL_tick_97 (fun H locs hP hD hS => ?_)
          refine lv_iconst (v := 1) hx hb dL_tick_98 (by decide) ?_
          refine lv_iload hx hb dL_tick_99 (lv_at hl 4 rfl) ?_
          refine lv_aload_n hx hb dL_tick_101 rfl (lv_at hl 0 rfl) ?_
          refine lv_aload hx hb dL_tick_102 (lv_at hl 3 rfl) ?_
          replace hf := zb_s hf
          obtain ⟨r104, hr104, hf⟩ := hf
          refine z_GSv (rest := []) C0 kL_24 (c_L_log l D G ad (b) ad4 (b4) s97 u4 1 r37 r104 hr104) pz_5_0_4 pz_5_0_4.symm rfl ⟨Nat.le_of_ble_eq_true rfl, Nat.le_of_ble_eq_true rfl⟩ (Nat.le_of_ble_eq_true rfl) ⟨Nat.le_of_ble_eq_true rfl, Nat.le_of_ble_eq_true rfl⟩ rfl hl.1 hP hD hS dL_tick_104 (fun H locs hP hD hS => ?_)
          replace hP : va_P D vwCl (wAR G ad b 20 r104.1 ++ wAR G ad1 b1 8 u1 ++ wAR G ad2 b2 6 w63_1 ++ wAR G ad3 b3 20 u3 ++ wAR G ad4 b4 30 r104.2) H := hP
          replace hD : va_D A (wAR G ad b 20 r104.1 ++ wAR G ad1 b1 8 u1 ++ wAR G ad2 b2 6 w63_1 ++ wAR G ad3 b3 20 u3 ++ wAR G ad4 b4 30 r104.2) := hD
          exact J107 r104.1 w63_1 r104.2 hf _ _ hP hD hS _ (lv_sub hl [0, 1, 2, 3] rfl)
        refine lv_if_le (tgt := 63) hx hb dL_tick_54 (by decide) (fun c54 => ?_) (fun c54 => ?_)
        · replace hf := zi_p hf c54
          exact J63 s6 u2 hf _ _ hP hD hS _ (lv_sub hl [1, 2, 4, 5, 0] rfl)
        · replace hf := zi_n hf c54
          refine lv_iconst (v := 0) hx hb dL_tick_57 (by decide) ?_
          refine lv_aload_n hx hb dL_tick_58 rfl (lv_at hl 1 rfl) ?_
          refine lv_aload_n hx hb dL_tick_59 rfl (lv_at hl 3 rfl) ?_
          replace hf := zb_s hf
          obtain ⟨r60, hr60, hf⟩ := hf
          refine z_GSv (rest := []) C0 kL_20 (c_L_drop l D G ad (b) ad2 (b2) s6 u2 0 r60 hr60) pz_5_0_2 pz_5_0_2.symm rfl ⟨Nat.le_of_ble_eq_true rfl, Nat.le_of_ble_eq_true rfl⟩ (Nat.le_of_ble_eq_true rfl) ⟨Nat.le_of_ble_eq_true rfl, Nat.le_of_ble_eq_true rfl⟩ rfl hl.1 hP hD hS dL_tick_60 (fun H locs hP hD hS => ?_)
          replace hP : va_P D vwCl (wAR G ad b 20 r60.1 ++ wAR G ad1 b1 8 u1 ++ wAR G ad2 b2 6 r60.2 ++ wAR G ad3 b3 20 u3 ++ wAR G ad4 b4 30 u4) H := hP
          replace hD : va_D A (wAR G ad b 20 r60.1 ++ wAR G ad1 b1 8 u1 ++ wAR G ad2 b2 6 r60.2 ++ wAR G ad3 b3 20 u3 ++ wAR G ad4 b4 30 u4) := hD
          exact J63 r60.1 r60.2 hf _ _ hP hD hS _ (lv_sub hl [1, 2, 4, 5, 0] rfl)
      · replace hf := zi_n hf c44
        refine lv_bipush (v := (-6)) hx hb dL_tick_47 (by decide) ?_
        obtain rfl := zo hf
        exact hret _ _ _ _ _ hP hD hS rfl dL_tick_49
  · replace hf := zi_n hf c14
    refine lv_aload_n hx hb dL_tick_17 rfl (lv_at hl 0 rfl) ?_
    refine lv_iconst (v := 1) hx hb dL_tick_18 (by decide) ?_
    refine lv_dup2_11 hx hb dL_tick_19 rfl rfl ?_
    refine z_iald (v := (s6 1)) hx hb hK hP 0 0 rfl rfl (z_in rfl) rfl dL_tick_20 ?_
    refine lv_iconst (v := 1) hx hb dL_tick_21 (by decide) ?_
    refine lv_iadd hx hb dL_tick_22 ?_
    replace hf := zn_s hf
    obtain ⟨s23, es23, hf⟩ := hf
    refine z_iast (ws' := wAR G ad b 20 s23 ++ wAR G ad1 b1 8 u1 ++ wAR G ad2 b2 6 u2 ++ wAR G ad3 b3 20 u3 ++ wAR G ad4 b4 30 u4) hx hb hK hP hD hS 0 0 rfl rfl (z_in rfl) es23 rfl dL_tick_23 (fun H locs hP hD hS => ?_)
    refine lv_bipush (v := (-6)) hx hb dL_tick_24 (by decide) ?_
    obtain rfl := zo hf
    exact hret _ _ _ _ _ hP hD hS rfl dL_tick_26
noncomputable def q_L_late_L4 (u : Nat → Int32) (u1 : Nat → Int32) (v4 : Int32 × Int32) : Option ((Int32 × Int32) ⊕ (Int32)) :=
  (if 8 ≤ v4.2 then some (Sum.inr (v4.1)) else zg 8 u1 v4.2 fun a16 => (if ((u 0) - a16) ≤ (u 19) then some (Sum.inl ((v4.1 + 0), (v4.2 + 1))) else some (Sum.inl ((v4.1 + 1), (v4.2 + 1)))))
noncomputable def q_L_late (u : Nat → Int32) (u1 : Nat → Int32) : Option (Int32) :=
  zb (zl 1000000 (q_L_late_L4 u u1) (0, 0)) (fun b4 => some (b4))
set_option maxRecDepth 100000 in
set_option maxHeartbeats 4000000 in
theorem c_L_late (l : Launch) (D : va_G) (G : zG) (ad : Nat → Nat) (b : Nat) (ad1 : Nat → Nat) (b1 : Nat) (u : Nat → Int32) (u1 : Nat → Int32) (res : Int32) (hf : q_L_late u u1 = some res) : zMi l yL_late cL_late 4 (some .int) 0 0 D G (wAR G ad b 20 u ++ wAR G ad1 b1 8 u1) (wAR G ad b 20 u ++ wAR G ad1 b1 8 u1) [.ref (ad b), .ref (ad1 b1)] res := by
  refine zs_i (by decide +kernel) (Nat.le_of_ble_eq_true rfl) ?_
  intro p e s m args below meth c A Q H ls C0 hret hP hD hS hl
  obtain ⟨hx, hb, hml, hown, hW, hK, hlocks, hF, hr, hA⟩ := id C0
  replace hl : lv_has ls 4 [(0, .ref (ad b)), (1, .ref (ad1 b1))] := hl
  unfold q_L_late at hf
  refine lv_iconst (v := 0) hx hb dL_late_0 (by decide) ?_
  refine lv_istore_n (lv' := [(2, .int 0), (0, .ref (ad b)), (1, .ref (ad1 b1))]) hx hb dL_late_1 rfl hl (by decide) rfl (fun ls hl => ?_)
  refine lv_iconst (v := 0) hx hb dL_late_2 (by decide) ?_
  refine lv_istore_n (lv' := [(3, .int 0), (2, .int 0), (0, .ref (ad b)), (1, .ref (ad1 b1))]) hx hb dL_late_3 rfl hl (by decide) rfl (fun ls hl => ?_)
  replace hf := zb_s hf
  obtain ⟨b4, hz4, hk4⟩ := hf
  have L4 : ∀ (n4 : Nat) (v4 : Int32 × Int32) (hz4 : zl n4 (q_L_late_L4 u u1) v4 = some b4) (H : Heap) (locs : List Loc) (hP : va_P D vwCl (wAR G ad b 20 u ++ wAR G ad1 b1 8 u1) H) (hD : va_D A (wAR G ad b 20 u ++ wAR G ad1 b1 8 u1)) (hS : va_S A s.heap H locs) (ls : Array Slot) (hl : lv_has ls 4 [(0, .ref (ad b)), (1, .ref (ad1 b1)), (2, .int v4.1), (3, .int v4.2)]), W p l e (zRm 0 0) s m args below meth c H locs 0 0 Q (F0 m 4 ls []) := by
    intro n4
    induction n4 with
    | zero => intro v4 hz4; exact (zl_0 hz4).elim
    | succ n4 ih4 =>
      intro v4 hz4 H locs hP hD hS ls hl
      obtain ⟨o4, hf, hz4⟩ := zl_s hz4
      unfold q_L_late_L4 at hf
      refine lv_iload_n hx hb dL_late_4 rfl (lv_at hl 3 rfl) ?_
      refine lv_bipush (v := 8) hx hb dL_late_5 (by decide) ?_
      refine lv_icmp_ge (tgt := 38) hx hb dL_late_7 (by decide) (fun c7 => ?_) (fun c7 => ?_)
      · replace hf := zi_p hf c7
        have hb4 := zk_r hf hz4
        subst hb4
        replace hf := hk4
        refine lv_iload_n hx hb dL_late_38 rfl (lv_at hl 2 rfl) ?_
        obtain rfl := zo hf
        exact hret _ _ _ _ _ hP hD hS rfl dL_late_39
      · replace hf := zi_n hf c7
        refine lv_iload_n hx hb dL_late_10 rfl (lv_at hl 2 rfl) ?_
        refine lv_aload_n hx hb dL_late_11 rfl (lv_at hl 0 rfl) ?_
        refine lv_iconst (v := 0) hx hb dL_late_12 (by decide) ?_
        refine z_iald (v := (u 0)) hx hb hK hP 0 0 rfl rfl (z_in rfl) rfl dL_late_13 ?_
        refine lv_aload_n hx hb dL_late_14 rfl (lv_at hl 1 rfl) ?_
        refine lv_iload_n hx hb dL_late_15 rfl (lv_at hl 3 rfl) ?_
        replace hf := zg_s hf
        obtain ⟨hi16, a16, ea16, hf⟩ := hf
        refine z_iald hx hb hK hP 1 0 rfl rfl hi16 ea16 dL_late_16 ?_
        refine lv_isub hx hb dL_late_17 ?_
        refine lv_aload_n hx hb dL_late_18 rfl (lv_at hl 0 rfl) ?_
        refine lv_bipush (v := 19) hx hb dL_late_19 (by decide) ?_
        refine z_iald (v := (u 19)) hx hb hK hP 0 0 rfl rfl (z_in rfl) rfl dL_late_21 ?_
        refine lv_icmp_le (tgt := 29) hx hb dL_late_22 (by decide) (fun c22 => ?_) (fun c22 => ?_)
        · replace hf := zi_p hf c22
          refine lv_iconst (v := 0) hx hb dL_late_29 (by decide) ?_
          refine lv_iadd hx hb dL_late_30 ?_
          refine lv_istore_n (lv' := [(2, .int (v4.1 + 0)), (0, .ref (ad b)), (1, .ref (ad1 b1)), (3, .int v4.2)]) hx hb dL_late_31 rfl hl (by decide) rfl (fun ls hl => ?_)
          refine lv_iinc (v := (v4.2 + 1)) (lv' := [(3, .int (v4.2 + 1)), (2, .int (v4.1 + 0)), (0, .ref (ad b)), (1, .ref (ad1 b1))]) hx hb dL_late_32 hl (k := 3) rfl rfl (by decide) rfl (fun ls hl => ?_)
          refine lv_goto (tgt := 4) hx hb dL_late_35 (by decide) ?_
          exact ih4 _ (zk_l hf hz4) _ _ hP hD hS _ (lv_sub hl [2, 3, 1, 0] rfl)
        · replace hf := zi_n hf c22
          refine lv_iconst (v := 1) hx hb dL_late_25 (by decide) ?_
          refine lv_goto (tgt := 30) hx hb dL_late_26 (by decide) ?_
          refine lv_iadd hx hb dL_late_30 ?_
          refine lv_istore_n (lv' := [(2, .int (v4.1 + 1)), (0, .ref (ad b)), (1, .ref (ad1 b1)), (3, .int v4.2)]) hx hb dL_late_31 rfl hl (by decide) rfl (fun ls hl => ?_)
          refine lv_iinc (v := (v4.2 + 1)) (lv' := [(3, .int (v4.2 + 1)), (2, .int (v4.1 + 1)), (0, .ref (ad b)), (1, .ref (ad1 b1))]) hx hb dL_late_32 hl (k := 3) rfl rfl (by decide) rfl (fun ls hl => ?_)
          refine lv_goto (tgt := 4) hx hb dL_late_35 (by decide) ?_
          exact ih4 _ (zk_l hf hz4) _ _ hP hD hS _ (lv_sub hl [2, 3, 1, 0] rfl)
  exact L4 _ _ hz4 _ _ hP hD hS _ (lv_sub hl [2, 3, 1, 0] rfl)
noncomputable def q_L_letter_J58 (p1 : Int32) (y58_0 : Int64) : Option (Int32) :=
  (if p1 ≤ 7 then some ((Int64.toInt32 ((y58_0 >>> (Int32.toInt64 (8 * p1) &&& 63)) &&& 255))) else some (0))
noncomputable def q_L_letter (p0 : Int32) (p1 : Int32) : Option (Int32) :=
  (if p0 = 1 then q_L_letter_J58 p1 126918051980642 else (if p0 = 2 then q_L_letter_J58 p1 126879565963632 else (if p0 = 3 then q_L_letter_J58 p1 1935961701 else (if p0 = 4 then q_L_letter_J58 p1 7234297646522852722 else (if p0 = 5 then q_L_letter_J58 p1 495957668979 else q_L_letter_J58 p1 2003790963)))))
set_option maxRecDepth 100000 in
set_option maxHeartbeats 4000000 in
theorem c_L_letter (l : Launch) (D : va_G) (G : zG)  (p0 : Int32) (p1 : Int32) (res : Int32) (hf : q_L_letter p0 p1 = some res) : zMi l yL_letter cL_letter 4 (some .int) 0 0 D G (([] : va_W)) (([] : va_W)) [.int p0, .int p1] res := by
  refine zs_i (by decide +kernel) (Nat.le_of_ble_eq_true rfl) ?_
  intro p e s m args below meth c A Q H ls C0 hret hP hD hS hl
  obtain ⟨hx, hb, hml, hown, hW, hK, hlocks, hF, hr, hA⟩ := id C0
  replace hl : lv_has ls 4 [(0, .int p0), (1, .int p1)] := hl
  unfold q_L_letter at hf
  refine lv_iload_n hx hb dL_letter_0 rfl (lv_at hl 0 rfl) ?_
  refine lv_iconst (v := 1) hx hb dL_letter_1 (by decide) ?_
  have J58 : ∀ (y58_0 : Int64) (hf : q_L_letter_J58 p1 y58_0 = some res) (H : Heap) (locs : List Loc) (hP : va_P D vwCl (([] : va_W)) H) (hD : va_D A (([] : va_W))) (hS : va_S A s.heap H locs) (ls : Array Slot) (hl : lv_has ls 4 [(1, .int p1)]), W p l e (zRm 0 0) s m args below meth c H locs 0 0 Q (F0 m 58 ls [.long y58_0]) := by
    intro y58_0 hf H locs hP hD hS ls hl
    unfold q_L_letter_J58 at hf
    refine lv_lstore_n (lv' := [(2, .long y58_0), (1, .int p1)]) hx hb dL_letter_58 rfl hl (by decide) rfl (fun ls hl => ?_)
    refine lv_iload_n hx hb dL_letter_59 rfl (lv_at hl 1 rfl) ?_
    refine lv_bipush (v := 7) hx hb dL_letter_60 (by decide) ?_
    refine lv_icmp_le (tgt := 69) hx hb dL_letter_62 (by decide) (fun c62 => ?_) (fun c62 => ?_)
    · replace hf := zi_p hf c62
      refine lv_lload_n hx hb dL_letter_69 rfl (lv_at hl 0 rfl) ?_
      refine lv_bipush (v := 8) hx hb dL_letter_70 (by decide) ?_
      refine lv_iload_n hx hb dL_letter_72 rfl (lv_at hl 1 rfl) ?_
      refine lv_imul hx hb dL_letter_73 ?_
      refine lv_lshr (v := (y58_0 >>> (Int32.toInt64 (8 * p1) &&& 63))) hx hb dL_letter_74 rfl ?_
      refine lv_ldc2 hx hb hown (hW _ wd_666) dL_letter_75 ?_
      refine lv_land hx hb dL_letter_78 ?_
      refine lv_l2i (v := (Int64.toInt32 ((y58_0 >>> (Int32.toInt64 (8 * p1) &&& 63)) &&& 255))) hx hb dL_letter_79 rfl ?_
      obtain rfl := zo hf
      exact hret _ _ _ _ _ hP hD hS rfl dL_letter_80
    · replace hf := zi_n hf c62
      refine lv_iconst (v := 0) hx hb dL_letter_65 (by decide) ?_
      refine lv_goto (tgt := 80) hx hb dL_letter_66 (by decide) ?_
      obtain rfl := zo hf
      exact hret _ _ _ _ _ hP hD hS rfl dL_letter_80
  refine lv_icmp_ne (tgt := 11) hx hb dL_letter_2 (by decide) (fun c2 => ?_) (fun c2 => ?_)
  · replace hf := zi_n hf c2
    refine lv_iload_n hx hb dL_letter_11 rfl (lv_at hl 0 rfl) ?_
    refine lv_iconst (v := 2) hx hb dL_letter_12 (by decide) ?_
    refine lv_icmp_ne (tgt := 22) hx hb dL_letter_13 (by decide) (fun c13 => ?_) (fun c13 => ?_)
    · replace hf := zi_n hf c13
      refine lv_iload_n hx hb dL_letter_22 rfl (lv_at hl 0 rfl) ?_
      refine lv_iconst (v := 3) hx hb dL_letter_23 (by decide) ?_
      refine lv_icmp_ne (tgt := 33) hx hb dL_letter_24 (by decide) (fun c24 => ?_) (fun c24 => ?_)
      · replace hf := zi_n hf c24
        refine lv_iload_n hx hb dL_letter_33 rfl (lv_at hl 0 rfl) ?_
        refine lv_iconst (v := 4) hx hb dL_letter_34 (by decide) ?_
        refine lv_icmp_ne (tgt := 44) hx hb dL_letter_35 (by decide) (fun c35 => ?_) (fun c35 => ?_)
        · replace hf := zi_n hf c35
          refine lv_iload_n hx hb dL_letter_44 rfl (lv_at hl 0 rfl) ?_
          refine lv_iconst (v := 5) hx hb dL_letter_45 (by decide) ?_
          refine lv_icmp_ne (tgt := 55) hx hb dL_letter_46 (by decide) (fun c46 => ?_) (fun c46 => ?_)
          · replace hf := zi_n hf c46
            refine lv_ldc2 hx hb hown (hW _ wd_665) dL_letter_55 ?_
            exact J58 2003790963 hf _ _ hP hD hS _ (lv_sub hl [1] rfl)
          · replace hf := zi_p hf c46
            refine lv_ldc2 hx hb hown (hW _ wd_664) dL_letter_49 ?_
            refine lv_goto (tgt := 58) hx hb dL_letter_52 (by decide) ?_
            exact J58 495957668979 hf _ _ hP hD hS _ (lv_sub hl [1] rfl)
        · replace hf := zi_p hf c35
          refine lv_ldc2 hx hb hown (hW _ wd_663) dL_letter_38 ?_
          refine lv_goto (tgt := 58) hx hb dL_letter_41 (by decide) ?_
          exact J58 7234297646522852722 hf _ _ hP hD hS _ (lv_sub hl [1] rfl)
      · replace hf := zi_p hf c24
        refine lv_ldc2 hx hb hown (hW _ wd_662) dL_letter_27 ?_
        refine lv_goto (tgt := 58) hx hb dL_letter_30 (by decide) ?_
        exact J58 1935961701 hf _ _ hP hD hS _ (lv_sub hl [1] rfl)
    · replace hf := zi_p hf c13
      refine lv_ldc2 hx hb hown (hW _ wd_661) dL_letter_16 ?_
      refine lv_goto (tgt := 58) hx hb dL_letter_19 (by decide) ?_
      exact J58 126879565963632 hf _ _ hP hD hS _ (lv_sub hl [1] rfl)
  · replace hf := zi_p hf c2
    refine lv_ldc2 hx hb hown (hW _ wd_660) dL_letter_5 ?_
    refine lv_goto (tgt := 58) hx hb dL_letter_8 (by decide) ?_
    exact J58 126918051980642 hf _ _ hP hD hS _ (lv_sub hl [1] rfl)
