noncomputable def q_L_low (p0 : Int32) (p1 : Int32) : Option (Int32) :=
  zq (¬ p1 = 0) (some (((p0 &&& 2147483647) - (p0 &&& 2147483647) / p1 * p1)))
set_option maxRecDepth 100000 in
set_option maxHeartbeats 4000000 in
theorem c_L_low (l : Launch) (D : va_G) (G : zG)  (p0 : Int32) (p1 : Int32) (res : Int32) (hf : q_L_low p0 p1 = some res) : zMi l yL_low cL_low 2 (some .int) 0 0 D G (([] : va_W)) (([] : va_W)) [.int p0, .int p1] res := by
  refine zs_i (by decide +kernel) (Nat.le_of_ble_eq_true rfl) ?_
  intro p e s m args below meth c A Q H ls C0 hret hP hD hS hl
  obtain ⟨hx, hb, hml, hown, hW, hK, hlocks, hF, hr, hA⟩ := id C0
  replace hl : lv_has ls 2 [(0, .int p0), (1, .int p1)] := hl
  unfold q_L_low at hf
  refine lv_iload_n hx hb dL_low_0 rfl (lv_at hl 0 rfl) ?_
  refine lv_ldc hx hb hown (hW _ wd_129) dL_low_1 ?_
  refine lv_iand hx hb dL_low_3 ?_
  refine lv_iload_n hx hb dL_low_4 rfl (lv_at hl 1 rfl) ?_
  replace hf := zq_s hf
  obtain ⟨hq, hf⟩ := hf
  refine lv_irem hx hb dL_low_5 hq ?_
  obtain rfl := zo hf
  exact hret _ _ _ _ _ hP hD hS rfl dL_low_6
noncomputable def q_L_log_J53 (u : Nat → Int32) (p0 : Int32) (p1 : Int32) (w35_0 : Nat → Int32) (y53_0 : Int32) : Option ((Nat → Int32) × (Nat → Int32)) :=
  zs 30 w35_0 (3 * y53_0) (u 0) fun s63 => zs 30 s63 ((3 * y53_0) + 1) p0 fun s72 => zs 30 s72 ((3 * y53_0) + 2) p1 fun s81 => zn (upd u 14 ((u 14) + 1)) fun s89 => some (s89, s81)
noncomputable def q_L_log_J35 (u : Nat → Int32) (p0 : Int32) (p1 : Int32) (w35_0 : Nat → Int32) : Option ((Nat → Int32) × (Nat → Int32)) :=
  (if 10 ≤ (u 14) then q_L_log_J53 u p0 p1 w35_0 9 else q_L_log_J53 u p0 p1 w35_0 (u 14))
noncomputable def q_L_log_L12  (v12 : Int32 × (Nat → Int32)) : Option ((Int32 × (Nat → Int32)) ⊕ ((Nat → Int32))) :=
  (if 27 ≤ v12.1 then some (Sum.inr (v12.2)) else zg 30 v12.2 (v12.1 + 3) fun a27 => zs 30 v12.2 v12.1 a27 fun s28 => some (Sum.inl ((v12.1 + 1), s28)))
noncomputable def q_L_log (u : Nat → Int32) (u1 : Nat → Int32) (p0 : Int32) (p1 : Int32) : Option ((Nat → Int32) × (Nat → Int32)) :=
  (if (u 14) < 10 then q_L_log_J35 u p0 p1 u1 else zb (zl 1000000 q_L_log_L12 (0, u1)) (fun bb12 => q_L_log_J35 u p0 p1 bb12))
set_option maxRecDepth 100000 in
set_option maxHeartbeats 4000000 in
theorem c_L_log (l : Launch) (D : va_G) (G : zG) (ad : Nat → Nat) (b : Nat) (ad1 : Nat → Nat) (b1 : Nat) (u : Nat → Int32) (u1 : Nat → Int32) (p0 : Int32) (p1 : Int32) (res : (Nat → Int32) × (Nat → Int32)) (hf : q_L_log u u1 p0 p1 = some res) : zMv l yL_log cL_log 5 none 0 0 D G (wAR G ad b 20 u ++ wAR G ad1 b1 30 u1) (wAR G ad b 20 res.1 ++ wAR G ad1 b1 30 res.2) [.int p0, .int p1, .ref (ad b), .ref (ad1 b1)] := by
  refine zs_v (by decide +kernel) (Nat.le_of_ble_eq_true rfl) ?_
  intro p e s m args below meth c A Q H ls C0 hret hP hD hS hl
  obtain ⟨hx, hb, hml, hown, hW, hK, hlocks, hF, hr, hA⟩ := id C0
  replace hl : lv_has ls 5 [(0, .int p0), (1, .int p1), (2, .ref (ad b)), (3, .ref (ad1 b1))] := hl
  unfold q_L_log at hf
  refine lv_aload_n hx hb dL_log_0 rfl (lv_at hl 2 rfl) ?_
  refine lv_bipush (v := 14) hx hb dL_log_1 (by decide) ?_
  refine z_iald (v := (u 14)) hx hb hK hP 0 0 rfl rfl (z_in rfl) rfl dL_log_3 ?_
  refine lv_bipush (v := 10) hx hb dL_log_4 (by decide) ?_
  have J35 : ∀ (w35_0 : Nat → Int32) (hf : q_L_log_J35 u p0 p1 w35_0 = some res) (H : Heap) (locs : List Loc) (hP : va_P D vwCl (wAR G ad b 20 u ++ wAR G ad1 b1 30 w35_0) H) (hD : va_D A (wAR G ad b 20 u ++ wAR G ad1 b1 30 w35_0)) (hS : va_S A s.heap H locs) (ls : Array Slot) (hl : lv_has ls 5 [(0, .int p0), (1, .int p1), (2, .ref (ad b)), (3, .ref (ad1 b1))]), W p l e (zRm 0 0) s m args below meth c H locs 0 0 Q (F0 m 35 ls []) := by
    intro w35_0 hf H locs hP hD hS ls hl
    unfold q_L_log_J35 at hf
    refine lv_aload_n hx hb dL_log_35 rfl (lv_at hl 2 rfl) ?_
    refine lv_bipush (v := 14) hx hb dL_log_36 (by decide) ?_
    refine z_iald (v := (u 14)) hx hb hK hP 0 0 rfl rfl (z_in rfl) rfl dL_log_38 ?_
    refine lv_bipush (v := 10) hx hb dL_log_39 (by decide) ?_
    have J53 : ∀ (y53_0 : Int32) (hf : q_L_log_J53 u p0 p1 w35_0 y53_0 = some res) (H : Heap) (locs : List Loc) (hP : va_P D vwCl (wAR G ad b 20 u ++ wAR G ad1 b1 30 w35_0) H) (hD : va_D A (wAR G ad b 20 u ++ wAR G ad1 b1 30 w35_0)) (hS : va_S A s.heap H locs) (ls : Array Slot) (hl : lv_has ls 5 [(0, .int p0), (1, .int p1), (2, .ref (ad b)), (3, .ref (ad1 b1))]), W p l e (zRm 0 0) s m args below meth c H locs 0 0 Q (F0 m 53 ls [.int y53_0]) := by
      intro y53_0 hf H locs hP hD hS ls hl
      unfold q_L_log_J53 at hf
      refine lv_istore (lv' := [(4, .int y53_0), (0, .int p0), (1, .int p1), (2, .ref (ad b)), (3, .ref (ad1 b1))]) hx hb dL_log_53 hl (by decide) rfl (fun ls hl => ?_)
      refine lv_aload_n hx hb dL_log_55 rfl (lv_at hl 4 rfl) ?_
      refine lv_iconst (v := 3) hx hb dL_log_56 (by decide) ?_
      refine lv_iload hx hb dL_log_57 (lv_at hl 0 rfl) ?_
      refine lv_imul hx hb dL_log_59 ?_
      refine lv_aload_n hx hb dL_log_60 rfl (lv_at hl 3 rfl) ?_
      refine lv_iconst (v := 0) hx hb dL_log_61 (by decide) ?_
      refine z_iald (v := (u 0)) hx hb hK hP 0 0 rfl rfl (z_in rfl) rfl dL_log_62 ?_
      replace hf := zs_s hf
      obtain ⟨hi63, s63, es63, hf⟩ := hf
      refine z_iast (ws' := wAR G ad b 20 u ++ wAR G ad1 b1 30 s63) hx hb hK hP hD hS 1 0 rfl rfl hi63 es63 rfl dL_log_63 (fun H locs hP hD hS => ?_)
      refine lv_aload_n hx hb dL_log_64 rfl (lv_at hl 4 rfl) ?_
      refine lv_iconst (v := 3) hx hb dL_log_65 (by decide) ?_
      refine lv_iload hx hb dL_log_66 (lv_at hl 0 rfl) ?_
      refine lv_imul hx hb dL_log_68 ?_
      refine lv_iconst (v := 1) hx hb dL_log_69 (by decide) ?_
      refine lv_iadd hx hb dL_log_70 ?_
      refine lv_iload_n hx hb dL_log_71 rfl (lv_at hl 1 rfl) ?_
      replace hf := zs_s hf
      obtain ⟨hi72, s72, es72, hf⟩ := hf
      refine z_iast (ws' := wAR G ad b 20 u ++ wAR G ad1 b1 30 s72) hx hb hK hP hD hS 1 0 rfl rfl hi72 es72 rfl dL_log_72 (fun H locs hP hD hS => ?_)
      refine lv_aload_n hx hb dL_log_73 rfl (lv_at hl 4 rfl) ?_
      refine lv_iconst (v := 3) hx hb dL_log_74 (by decide) ?_
      refine lv_iload hx hb dL_log_75 (lv_at hl 0 rfl) ?_
      refine lv_imul hx hb dL_log_77 ?_
      refine lv_iconst (v := 2) hx hb dL_log_78 (by decide) ?_
      refine lv_iadd hx hb dL_log_79 ?_
      refine lv_iload_n hx hb dL_log_80 rfl (lv_at hl 2 rfl) ?_
      replace hf := zs_s hf
      obtain ⟨hi81, s81, es81, hf⟩ := hf
      refine z_iast (ws' := wAR G ad b 20 u ++ wAR G ad1 b1 30 s81) hx hb hK hP hD hS 1 0 rfl rfl hi81 es81 rfl dL_log_81 (fun H locs hP hD hS => ?_)
      refine lv_aload_n hx hb dL_log_82 rfl (lv_at hl 3 rfl) ?_
      refine lv_bipush (v := 14) hx hb dL_log_83 (by decide) ?_
      refine lv_dup2_11 hx hb dL_log_85 rfl rfl ?_
      refine z_iald (v := (u 14)) hx hb hK hP 0 0 rfl rfl (z_in rfl) rfl dL_log_86 ?_
      refine lv_iconst (v := 1) hx hb dL_log_87 (by decide) ?_
      refine lv_iadd hx hb dL_log_88 ?_
      replace hf := zn_s hf
      obtain ⟨s89, es89, hf⟩ := hf
      refine z_iast (ws' := wAR G ad b 20 s89 ++ wAR G ad1 b1 30 s81) hx hb hK hP hD hS 0 0 rfl rfl (z_in rfl) es89 rfl dL_log_89 (fun H locs hP hD hS => ?_)
      obtain rfl := zo hf
      exact hret _ _ _ _ hP hD hS dL_log_90
    refine lv_icmp_ge (tgt := 51) hx hb dL_log_41 (by decide) (fun c41 => ?_) (fun c41 => ?_)
    · replace hf := zi_p hf c41
      refine lv_bipush (v := 9) hx hb dL_log_51 (by decide) ?_
      exact J53 9 hf _ _ hP hD hS _ (lv_sub hl [0, 1, 2, 3] rfl)
    · replace hf := zi_n hf c41
      refine lv_aload_n hx hb dL_log_44 rfl (lv_at hl 2 rfl) ?_
      refine lv_bipush (v := 14) hx hb dL_log_45 (by decide) ?_
      refine z_iald (v := (u 14)) hx hb hK hP 0 0 rfl rfl (z_in rfl) rfl dL_log_47 ?_
      refine lv_goto (tgt := 53) hx hb dL_log_48 (by decide) ?_
      exact J53 (u 14) hf _ _ hP hD hS _ (lv_sub hl [0, 1, 2, 3] rfl)
  refine lv_icmp_lt (tgt := 35) hx hb dL_log_6 (by decide) (fun c6 => ?_) (fun c6 => ?_)
  · replace hf := zi_p hf c6
    exact J35 u1 hf _ _ hP hD hS _ (lv_sub hl [0, 1, 2, 3] rfl)
  · replace hf := zi_n hf c6
    refine lv_iconst (v := 0) hx hb dL_log_9 (by decide) ?_
    refine lv_istore (lv' := [(4, .int 0), (0, .int p0), (1, .int p1), (2, .ref (ad b)), (3, .ref (ad1 b1))]) hx hb dL_log_10 hl (by decide) rfl (fun ls hl => ?_)
    replace hf := zb_s hf
    obtain ⟨bb12, hz12, hk12⟩ := hf
    have L12 : ∀ (n12 : Nat) (v12 : Int32 × (Nat → Int32)) (hz12 : zl n12 q_L_log_L12 v12 = some bb12) (H : Heap) (locs : List Loc) (hP : va_P D vwCl (wAR G ad b 20 u ++ wAR G ad1 b1 30 v12.2) H) (hD : va_D A (wAR G ad b 20 u ++ wAR G ad1 b1 30 v12.2)) (hS : va_S A s.heap H locs) (ls : Array Slot) (hl : lv_has ls 5 [(0, .int p0), (1, .int p1), (2, .ref (ad b)), (3, .ref (ad1 b1)), (4, .int v12.1)]), W p l e (zRm 0 0) s m args below meth c H locs 0 0 Q (F0 m 12 ls []) := by
      intro n12
      induction n12 with
      | zero => intro v12 hz12; exact (zl_0 hz12).elim
      | succ n12 ih12 =>
        intro v12 hz12 H locs hP hD hS ls hl
        obtain ⟨o12, hf, hz12⟩ := zl_s hz12
        unfold q_L_log_L12 at hf
        refine lv_iload hx hb dL_log_12 (lv_at hl 4 rfl) ?_
        refine lv_bipush (v := 27) hx hb dL_log_14 (by decide) ?_
        refine lv_icmp_ge (tgt := 35) hx hb dL_log_16 (by decide) (fun c16 => ?_) (fun c16 => ?_)
        · replace hf := zi_p hf c16
          have hb12 := (zk_r hf hz12).symm
          subst hb12
          replace hf := hk12
          exact J35 v12.2 hf _ _ hP hD hS _ (lv_sub hl [0, 1, 2, 3] rfl)
        · replace hf := zi_n hf c16
          refine lv_aload_n hx hb dL_log_19 rfl (lv_at hl 3 rfl) ?_
          refine lv_iload hx hb dL_log_20 (lv_at hl 4 rfl) ?_
          refine lv_aload_n hx hb dL_log_22 rfl (lv_at hl 3 rfl) ?_
          refine lv_iload hx hb dL_log_23 (lv_at hl 4 rfl) ?_
          refine lv_iconst (v := 3) hx hb dL_log_25 (by decide) ?_
          refine lv_iadd hx hb dL_log_26 ?_
          replace hf := zg_s hf
          obtain ⟨hi27, a27, ea27, hf⟩ := hf
          refine z_iald hx hb hK hP 1 0 rfl rfl hi27 ea27 dL_log_27 ?_
          replace hf := zs_s hf
          obtain ⟨hi28, s28, es28, hf⟩ := hf
          refine z_iast (ws' := wAR G ad b 20 u ++ wAR G ad1 b1 30 s28) hx hb hK hP hD hS 1 0 rfl rfl hi28 es28 rfl dL_log_28 (fun H locs hP hD hS => ?_)
          refine lv_iinc (v := (v12.1 + 1)) (lv' := [(4, .int (v12.1 + 1)), (0, .int p0), (1, .int p1), (2, .ref (ad b)), (3, .ref (ad1 b1))]) hx hb dL_log_29 hl (k := 4) rfl rfl (by decide) rfl (fun ls hl => ?_)
          refine lv_goto (tgt := 12) hx hb dL_log_32 (by decide) ?_
          exact ih12 _ (zk_l hf hz12) _ _ hP hD hS _ (lv_sub hl [1, 2, 3, 4, 0] rfl)
    exact L12 _ _ hz12 _ _ hP hD hS _ (lv_sub hl [1, 2, 3, 4, 0] rfl)
noncomputable def q_L_sum_L6 (u : Nat → Int32) (u1 : Nat → Int32) (p0 : Int32) (p1 : Int32) (v6 : Int32 × Int32) : Option ((Int32 × Int32) ⊕ (Int32)) :=
  (if (u 2) ≤ v6.2 then some (Sum.inr (v6.1)) else zg 20 u1 v6.2 fun a17 => (if (a17 / 10) = p0 then zg 20 u1 v6.2 fun a30 => (if (a30 - a30 / 10 * 10) ≤ p1 then zg 20 u1 v6.2 fun a45 => some (Sum.inl ((v6.1 + (a45 - a45 / 10 * 10)), (v6.2 + 1))) else some (Sum.inl ((v6.1 + p1), (v6.2 + 1)))) else some (Sum.inl (v6.1, (v6.2 + 1)))))
noncomputable def q_L_sum (u : Nat → Int32) (u1 : Nat → Int32) (p0 : Int32) (p1 : Int32) : Option (Int32) :=
  zb (zl 1000000 (q_L_sum_L6 u u1 p0 p1) (0, 0)) (fun bb6 => some (bb6))
set_option maxRecDepth 100000 in
set_option maxHeartbeats 4000000 in
theorem c_L_sum (l : Launch) (D : va_G) (G : zG) (ad : Nat → Nat) (b : Nat) (ad1 : Nat → Nat) (b1 : Nat) (u : Nat → Int32) (u1 : Nat → Int32) (p0 : Int32) (p1 : Int32) (res : Int32) (hf : q_L_sum u u1 p0 p1 = some res) : zMi l yL_sum cL_sum 6 (some .int) 0 0 D G (wAR G ad b 20 u ++ wAR G ad1 b1 20 u1) (wAR G ad b 20 u ++ wAR G ad1 b1 20 u1) [.int p0, .int p1, .ref (ad b), .ref (ad1 b1)] res := by
  refine zs_i (by decide +kernel) (Nat.le_of_ble_eq_true rfl) ?_
  intro p e s m args below meth c A Q H ls C0 hret hP hD hS hl
  obtain ⟨hx, hb, hml, hown, hW, hK, hlocks, hF, hr, hA⟩ := id C0
  replace hl : lv_has ls 6 [(0, .int p0), (1, .int p1), (2, .ref (ad b)), (3, .ref (ad1 b1))] := hl
  unfold q_L_sum at hf
  refine lv_iconst (v := 0) hx hb dL_sum_0 (by decide) ?_
  refine lv_istore (lv' := [(4, .int 0), (0, .int p0), (1, .int p1), (2, .ref (ad b)), (3, .ref (ad1 b1))]) hx hb dL_sum_1 hl (by decide) rfl (fun ls hl => ?_)
  refine lv_iconst (v := 0) hx hb dL_sum_3 (by decide) ?_
  refine lv_istore (lv' := [(5, .int 0), (4, .int 0), (0, .int p0), (1, .int p1), (2, .ref (ad b)), (3, .ref (ad1 b1))]) hx hb dL_sum_4 hl (by decide) rfl (fun ls hl => ?_)
  replace hf := zb_s hf
  obtain ⟨bb6, hz6, hk6⟩ := hf
  have L6 : ∀ (n6 : Nat) (v6 : Int32 × Int32) (hz6 : zl n6 (q_L_sum_L6 u u1 p0 p1) v6 = some bb6) (H : Heap) (locs : List Loc) (hP : va_P D vwCl (wAR G ad b 20 u ++ wAR G ad1 b1 20 u1) H) (hD : va_D A (wAR G ad b 20 u ++ wAR G ad1 b1 20 u1)) (hS : va_S A s.heap H locs) (ls : Array Slot) (hl : lv_has ls 6 [(0, .int p0), (1, .int p1), (2, .ref (ad b)), (3, .ref (ad1 b1)), (4, .int v6.1), (5, .int v6.2)]), W p l e (zRm 0 0) s m args below meth c H locs 0 0 Q (F0 m 6 ls []) := by
    intro n6
    induction n6 with
    | zero => intro v6 hz6; exact (zl_0 hz6).elim
    | succ n6 ih6 =>
      intro v6 hz6 H locs hP hD hS ls hl
      obtain ⟨o6, hf, hz6⟩ := zl_s hz6
      unfold q_L_sum_L6 at hf
      refine lv_iload hx hb dL_sum_6 (lv_at hl 5 rfl) ?_
      refine lv_aload_n hx hb dL_sum_8 rfl (lv_at hl 2 rfl) ?_
      refine lv_iconst (v := 2) hx hb dL_sum_9 (by decide) ?_
      refine z_iald (v := (u 2)) hx hb hK hP 0 0 rfl rfl (z_in rfl) rfl dL_sum_10 ?_
      refine lv_icmp_ge (tgt := 58) hx hb dL_sum_11 (by decide) (fun c11 => ?_) (fun c11 => ?_)
      · replace hf := zi_p hf c11
        have hb6 := (zk_r hf hz6).symm
        subst hb6
        replace hf := hk6
        refine lv_iload hx hb dL_sum_58 (lv_at hl 4 rfl) ?_
        obtain rfl := zo hf
        exact hret _ _ _ _ _ hP hD hS rfl dL_sum_60
      · replace hf := zi_n hf c11
        refine lv_aload_n hx hb dL_sum_14 rfl (lv_at hl 3 rfl) ?_
        refine lv_iload hx hb dL_sum_15 (lv_at hl 5 rfl) ?_
        replace hf := zg_s hf
        obtain ⟨hi17, a17, ea17, hf⟩ := hf
        refine z_iald hx hb hK hP 1 0 rfl rfl hi17 ea17 dL_sum_17 ?_
        refine lv_bipush (v := 10) hx hb dL_sum_18 (by decide) ?_
        refine lv_idiv hx hb dL_sum_20 (by decide) ?_
        refine lv_iload_n hx hb dL_sum_21 rfl (lv_at hl 0 rfl) ?_
        refine lv_icmp_ne (tgt := 52) hx hb dL_sum_22 (by decide) (fun c22 => ?_) (fun c22 => ?_)
        · replace hf := zi_n hf c22
          refine lv_iinc (v := (v6.2 + 1)) (lv' := [(5, .int (v6.2 + 1)), (0, .int p0), (1, .int p1), (2, .ref (ad b)), (3, .ref (ad1 b1)), (4, .int v6.1)]) hx hb dL_sum_52 hl (k := 5) rfl rfl (by decide) rfl (fun ls hl => ?_)
          refine lv_goto (tgt := 6) hx hb dL_sum_55 (by decide) ?_
          exact ih6 _ (zk_l hf hz6) _ _ hP hD hS _ (lv_sub hl [1, 2, 3, 4, 5, 0] rfl)
        · replace hf := zi_p hf c22
          refine lv_iload hx hb dL_sum_25 (lv_at hl 4 rfl) ?_
          refine lv_aload_n hx hb dL_sum_27 rfl (lv_at hl 3 rfl) ?_
          refine lv_iload hx hb dL_sum_28 (lv_at hl 5 rfl) ?_
          replace hf := zg_s hf
          obtain ⟨hi30, a30, ea30, hf⟩ := hf
          refine z_iald hx hb hK hP 1 0 rfl rfl hi30 ea30 dL_sum_30 ?_
          refine lv_bipush (v := 10) hx hb dL_sum_31 (by decide) ?_
          refine lv_irem hx hb dL_sum_33 (by decide) ?_
          refine lv_iload_n hx hb dL_sum_34 rfl (lv_at hl 1 rfl) ?_
          refine lv_icmp_le (tgt := 42) hx hb dL_sum_35 (by decide) (fun c35 => ?_) (fun c35 => ?_)
          · replace hf := zi_p hf c35
            refine lv_aload_n hx hb dL_sum_42 rfl (lv_at hl 3 rfl) ?_
            refine lv_iload hx hb dL_sum_43 (lv_at hl 5 rfl) ?_
            replace hf := zg_s hf
            obtain ⟨hi45, a45, ea45, hf⟩ := hf
            refine z_iald hx hb hK hP 1 0 rfl rfl hi45 ea45 dL_sum_45 ?_
            refine lv_bipush (v := 10) hx hb dL_sum_46 (by decide) ?_
            refine lv_irem hx hb dL_sum_48 (by decide) ?_
            refine lv_iadd hx hb dL_sum_49 ?_
            refine lv_istore (lv' := [(4, .int (v6.1 + (a45 - a45 / 10 * 10))), (0, .int p0), (1, .int p1), (2, .ref (ad b)), (3, .ref (ad1 b1)), (5, .int v6.2)]) hx hb dL_sum_50 hl (by decide) rfl (fun ls hl => ?_)
            refine lv_iinc (v := (v6.2 + 1)) (lv' := [(5, .int (v6.2 + 1)), (4, .int (v6.1 + (a45 - a45 / 10 * 10))), (0, .int p0), (1, .int p1), (2, .ref (ad b)), (3, .ref (ad1 b1))]) hx hb dL_sum_52 hl (k := 5) rfl rfl (by decide) rfl (fun ls hl => ?_)
            refine lv_goto (tgt := 6) hx hb dL_sum_55 (by decide) ?_
            exact ih6 _ (zk_l hf hz6) _ _ hP hD hS _ (lv_sub hl [2, 3, 4, 5, 1, 0] rfl)
          · replace hf := zi_n hf c35
            refine lv_iload_n hx hb dL_sum_38 rfl (lv_at hl 1 rfl) ?_
            refine lv_goto (tgt := 49) hx hb dL_sum_39 (by decide) ?_
            refine lv_iadd hx hb dL_sum_49 ?_
            refine lv_istore (lv' := [(4, .int (v6.1 + p1)), (0, .int p0), (1, .int p1), (2, .ref (ad b)), (3, .ref (ad1 b1)), (5, .int v6.2)]) hx hb dL_sum_50 hl (by decide) rfl (fun ls hl => ?_)
            refine lv_iinc (v := (v6.2 + 1)) (lv' := [(5, .int (v6.2 + 1)), (4, .int (v6.1 + p1)), (0, .int p0), (1, .int p1), (2, .ref (ad b)), (3, .ref (ad1 b1))]) hx hb dL_sum_52 hl (k := 5) rfl rfl (by decide) rfl (fun ls hl => ?_)
            refine lv_goto (tgt := 6) hx hb dL_sum_55 (by decide) ?_
            exact ih6 _ (zk_l hf hz6) _ _ hP hD hS _ (lv_sub hl [2, 3, 4, 5, 1, 0] rfl)
  exact L6 _ _ hz6 _ _ hP hD hS _ (lv_sub hl [2, 3, 4, 5, 1, 0] rfl)
noncomputable def q_L_place_L2 (u : Nat → Int32) (u1 : Nat → Int32) (p0 : Int32) (v2 : Int32) : Option ((Int32) ⊕ (((Unit) ⊕ (Int32)))) :=
  (if (u 8) ≤ v2 then some (Sum.inr (Sum.inl ())) else zg 6 u1 v2 fun a12 => (if a12 = p0 then some (Sum.inr (Sum.inr (v2))) else some (Sum.inl ((v2 + 1)))))
noncomputable def q_L_place (u : Nat → Int32) (u1 : Nat → Int32) (p0 : Int32) : Option (Int32) :=
  zb (zl 1000000 (q_L_place_L2 u u1 p0) (0)) (zm (fun e2_0 => some ((-6))) (fun e2_1 => some (e2_1)))
set_option maxRecDepth 100000 in
set_option maxHeartbeats 4000000 in
theorem c_L_place (l : Launch) (D : va_G) (G : zG) (ad : Nat → Nat) (b : Nat) (ad1 : Nat → Nat) (b1 : Nat) (u : Nat → Int32) (u1 : Nat → Int32) (p0 : Int32) (res : Int32) (hf : q_L_place u u1 p0 = some res) : zMi l yL_place cL_place 4 (some .int) 0 0 D G (wAR G ad b 20 u ++ wAR G ad1 b1 6 u1) (wAR G ad b 20 u ++ wAR G ad1 b1 6 u1) [.int p0, .ref (ad b), .ref (ad1 b1)] res := by
  refine zs_i (by decide +kernel) (Nat.le_of_ble_eq_true rfl) ?_
  intro p e s m args below meth c A Q H ls C0 hret hP hD hS hl
  obtain ⟨hx, hb, hml, hown, hW, hK, hlocks, hF, hr, hA⟩ := id C0
  replace hl : lv_has ls 4 [(0, .int p0), (1, .ref (ad b)), (2, .ref (ad1 b1))] := hl
  unfold q_L_place at hf
  refine lv_iconst (v := 0) hx hb dL_place_0 (by decide) ?_
  refine lv_istore_n (lv' := [(3, .int 0), (0, .int p0), (1, .ref (ad b)), (2, .ref (ad1 b1))]) hx hb dL_place_1 rfl hl (by decide) rfl (fun ls hl => ?_)
  replace hf := zb_s hf
  obtain ⟨bb2, hz2, hk2⟩ := hf
  have L2 : ∀ (n2 : Nat) (v2 : Int32) (hz2 : zl n2 (q_L_place_L2 u u1 p0) v2 = some bb2) (H : Heap) (locs : List Loc) (hP : va_P D vwCl (wAR G ad b 20 u ++ wAR G ad1 b1 6 u1) H) (hD : va_D A (wAR G ad b 20 u ++ wAR G ad1 b1 6 u1)) (hS : va_S A s.heap H locs) (ls : Array Slot) (hl : lv_has ls 4 [(0, .int p0), (1, .ref (ad b)), (2, .ref (ad1 b1)), (3, .int v2)]), W p l e (zRm 0 0) s m args below meth c H locs 0 0 Q (F0 m 2 ls []) := by
    intro n2
    induction n2 with
    | zero => intro v2 hz2; exact (zl_0 hz2).elim
    | succ n2 ih2 =>
      intro v2 hz2 H locs hP hD hS ls hl
      obtain ⟨o2, hf, hz2⟩ := zl_s hz2
      unfold q_L_place_L2 at hf
      refine lv_iload_n hx hb dL_place_2 rfl (lv_at hl 3 rfl) ?_
      refine lv_aload_n hx hb dL_place_3 rfl (lv_at hl 1 rfl) ?_
      refine lv_bipush (v := 8) hx hb dL_place_4 (by decide) ?_
      refine z_iald (v := (u 8)) hx hb hK hP 0 0 rfl rfl (z_in rfl) rfl dL_place_6 ?_
      refine lv_icmp_ge (tgt := 25) hx hb dL_place_7 (by decide) (fun c7 => ?_) (fun c7 => ?_)
      · replace hf := zi_p hf c7
        have hb2 := (zk_r hf hz2).symm
        subst hb2
        replace hf := (zm_l hk2)
        refine lv_bipush (v := (-6)) hx hb dL_place_25 (by decide) ?_
        obtain rfl := zo hf
        exact hret _ _ _ _ _ hP hD hS rfl dL_place_27
      · replace hf := zi_n hf c7
        refine lv_aload_n hx hb dL_place_10 rfl (lv_at hl 2 rfl) ?_
        refine lv_iload_n hx hb dL_place_11 rfl (lv_at hl 3 rfl) ?_
        replace hf := zg_s hf
        obtain ⟨hi12, a12, ea12, hf⟩ := hf
        refine z_iald hx hb hK hP 1 0 rfl rfl hi12 ea12 dL_place_12 ?_
        refine lv_iload_n hx hb dL_place_13 rfl (lv_at hl 0 rfl) ?_
        refine lv_icmp_ne (tgt := 19) hx hb dL_place_14 (by decide) (fun c14 => ?_) (fun c14 => ?_)
        · replace hf := zi_n hf c14
          refine lv_iinc (v := (v2 + 1)) (lv' := [(3, .int (v2 + 1)), (0, .int p0), (1, .ref (ad b)), (2, .ref (ad1 b1))]) hx hb dL_place_19 hl (k := 3) rfl rfl (by decide) rfl (fun ls hl => ?_)
          refine lv_goto (tgt := 2) hx hb dL_place_22 (by decide) ?_
          exact ih2 _ (zk_l hf hz2) _ _ hP hD hS _ (lv_sub hl [1, 2, 3, 0] rfl)
        · replace hf := zi_p hf c14
          have hb2 := (zk_r hf hz2).symm
          subst hb2
          replace hf := (zm_r hk2)
          refine lv_iload_n hx hb dL_place_17 rfl (lv_at hl 3 rfl) ?_
          obtain rfl := zo hf
          exact hret _ _ _ _ _ hP hD hS rfl dL_place_18
  exact L2 _ _ hz2 _ _ hP hD hS _ (lv_sub hl [1, 2, 3, 0] rfl)
