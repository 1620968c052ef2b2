theorem kL_10 : zLkS RL 10 yL_sum cL_sum 6 (some .int) 4 := ⟨⟨wd_253, wd_254, wd_122, wd_255⟩, by decide +kernel⟩
noncomputable def q_L_next_J112 (v22 : Int32 × Int32 × Int32) (y112_0 : Int32) : Option ((Int32 × Int32 × Int32) ⊕ (Int32)) :=
  (if y112_0 < v22.2.1 then zn (v22.2.2 + (-1)) fun k129 => some (Sum.inl (v22.1, v22.2.1, k129)) else zn (v22.2.2 + (-1)) fun k129 => some (Sum.inl (v22.2.2, y112_0, k129)))
noncomputable def q_L_next_L22 (u : Nat → Int32) (u1 : Nat → Int32) (u3 : Nat → Int32) (v22 : Int32 × Int32 × Int32) : Option ((Int32 × Int32 × Int32) ⊕ (Int32)) :=
  (if v22.2.2 < 0 then some (Sum.inr (v22.1)) else zg 8 u1 v22.2.2 fun a33 => (if ((u 19) / 2) ≤ ((u 0) - a33) then (if (u 4) = 0 then q_L_next_J112 v22 ((u 0) - a33) else (if (u 4) = 1 then zb (q_L_sum u u3 v22.2.2 9) fun r75 => q_L_next_J112 v22 r75 else (if 0 ≤ (u 13) then q_L_next_J112 v22 (8 - (((v22.2.2 + 7) - (u 13)) - ((v22.2.2 + 7) - (u 13)) / 8 * 8)) else q_L_next_J112 v22 (8 - v22.2.2)))) else zn (v22.2.2 + (-1)) fun k129 => some (Sum.inl (v22.1, v22.2.1, k129))))
noncomputable def q_L_next (u : Nat → Int32) (u1 : Nat → Int32) (u2 : Nat → Int32) (u3 : Nat → Int32) : Option (Int32) :=
  (if (u 8) ≤ 0 then zb (zl 1000000 (q_L_next_L22 u u1 u3) ((-6), (-1), 7)) (fun bb22 => some (bb22)) else some ((u2 0)))
set_option maxRecDepth 100000 in
set_option maxHeartbeats 4000000 in
theorem c_L_next (l : Launch) (D : va_G) (G : zG) (ad : Nat → Nat) (b : Nat) (ad1 : Nat → Nat) (b1 : Nat) (ad2 : Nat → Nat) (b2 : Nat) (ad3 : Nat → Nat) (b3 : Nat) (u : Nat → Int32) (u1 : Nat → Int32) (u2 : Nat → Int32) (u3 : Nat → Int32) (res : Int32) (hf : q_L_next u u1 u2 u3 = some res) : zMi l yL_next cL_next 9 (some .int) 1 25 D G (wAR G ad b 20 u ++ wAR G ad1 b1 8 u1 ++ wAR G ad2 b2 6 u2 ++ wAR G ad3 b3 20 u3) (wAR G ad b 20 u ++ wAR G ad1 b1 8 u1 ++ wAR G ad2 b2 6 u2 ++ wAR G ad3 b3 20 u3) [.ref (ad b), .ref (ad1 b1), .ref (ad2 b2), .ref (ad3 b3)] res := by
  refine zs_i (by decide +kernel) (Nat.le_of_ble_eq_true rfl) ?_
  intro p e s m args below meth c A Q H ls C0 hret hP hD hS hl
  obtain ⟨hx, hb, hml, hown, hW, hK, hlocks, hF, hr, hA⟩ := id C0
  replace hl : lv_has ls 9 [(0, .ref (ad b)), (1, .ref (ad1 b1)), (2, .ref (ad2 b2)), (3, .ref (ad3 b3))] := hl
  unfold q_L_next at hf
  refine lv_aload_n hx hb dL_next_0 rfl (lv_at hl 0 rfl) ?_
  refine lv_bipush (v := 8) hx hb dL_next_1 (by decide) ?_
  refine z_iald (v := (u 8)) hx hb hK hP 0 0 rfl rfl (z_in rfl) rfl dL_next_3 ?_
  refine lv_if_le (tgt := 11) hx hb dL_next_4 (by decide) (fun c4 => ?_) (fun c4 => ?_)
  · replace hf := zi_p hf c4
    refine lv_bipush (v := (-6)) hx hb dL_next_11 (by decide) ?_
    refine lv_istore (lv' := [(4, .int (-6)), (0, .ref (ad b)), (1, .ref (ad1 b1)), (2, .ref (ad2 b2)), (3, .ref (ad3 b3))]) hx hb dL_next_13 hl (by decide) rfl (fun ls hl => ?_)
    refine lv_iconst (v := (-1)) hx hb dL_next_15 (by decide) ?_
    refine lv_istore (lv' := [(5, .int (-1)), (4, .int (-6)), (0, .ref (ad b)), (1, .ref (ad1 b1)), (2, .ref (ad2 b2)), (3, .ref (ad3 b3))]) hx hb dL_next_16 hl (by decide) rfl (fun ls hl => ?_)
    refine lv_bipush (v := 7) hx hb dL_next_18 (by decide) ?_
    refine lv_istore (lv' := [(6, .int 7), (5, .int (-1)), (4, .int (-6)), (0, .ref (ad b)), (1, .ref (ad1 b1)), (2, .ref (ad2 b2)), (3, .ref (ad3 b3))]) hx hb dL_next_20 hl (by decide) rfl (fun ls hl => ?_)
    replace hf := zb_s hf
    obtain ⟨bb22, hz22, hk22⟩ := hf
    have L22 : ∀ (n22 : Nat) (v22 : Int32 × Int32 × Int32) (hz22 : zl n22 (q_L_next_L22 u u1 u3) v22 = some bb22) (H : Heap) (locs : List Loc) (hP : va_P D vwCl (wAR G ad b 20 u ++ wAR G ad1 b1 8 u1 ++ wAR G ad2 b2 6 u2 ++ wAR G ad3 b3 20 u3) H) (hD : va_D A (wAR G ad b 20 u ++ wAR G ad1 b1 8 u1 ++ wAR G ad2 b2 6 u2 ++ wAR G ad3 b3 20 u3)) (hS : va_S A s.heap H locs) (ls : Array Slot) (hl : lv_has ls 9 [(0, .ref (ad b)), (1, .ref (ad1 b1)), (3, .ref (ad3 b3)), (4, .int v22.1), (5, .int v22.2.1), (6, .int v22.2.2)]), W p l e (zRm 1 25) s m args below meth c H locs 0 0 Q (F0 m 22 ls []) := by
      intro n22
      induction n22 with
      | zero => intro v22 hz22; exact (zl_0 hz22).elim
      | succ n22 ih22 =>
        intro v22 hz22 H locs hP hD hS ls hl
        obtain ⟨o22, hf, hz22⟩ := zl_s hz22
        unfold q_L_next_L22 at hf
        refine lv_iload hx hb dL_next_22 (lv_at hl 5 rfl) ?_
        refine lv_if_lt (tgt := 135) hx hb dL_next_24 (by decide) (fun c24 => ?_) (fun c24 => ?_)
        · replace hf := zi_p hf c24
          have hb22 := (zk_r hf hz22).symm
          subst hb22
          replace hf := hk22
          refine lv_iload hx hb dL_next_135 (lv_at hl 3 rfl) ?_
          obtain rfl := zo hf
          exact hret _ _ _ _ _ hP hD hS rfl dL_next_137
        · replace hf := zi_n hf c24
          refine lv_aload_n hx hb dL_next_27 rfl (lv_at hl 0 rfl) ?_
          refine lv_iconst (v := 0) hx hb dL_next_28 (by decide) ?_
          refine z_iald (v := (u 0)) hx hb hK hP 0 0 rfl rfl (z_in rfl) rfl dL_next_29 ?_
          refine lv_aload_n hx hb dL_next_30 rfl (lv_at hl 1 rfl) ?_
          refine lv_iload hx hb dL_next_31 (lv_at hl 5 rfl) ?_
          replace hf := zg_s hf
          obtain ⟨hi33, a33, ea33, hf⟩ := hf
          refine z_iald hx hb hK hP 1 0 rfl rfl hi33 ea33 dL_next_33 ?_
          refine lv_isub hx hb dL_next_34 ?_
          refine lv_istore (lv' := [(7, .int ((u 0) - a33)), (0, .ref (ad b)), (1, .ref (ad1 b1)), (3, .ref (ad3 b3)), (4, .int v22.1), (5, .int v22.2.1), (6, .int v22.2.2)]) hx hb dL_next_35 hl (by decide) rfl (fun ls hl => ?_)
          refine lv_iload hx hb dL_next_37 (lv_at hl 0 rfl) ?_
          refine lv_aload_n hx hb dL_next_39 rfl (lv_at hl 1 rfl) ?_
          refine lv_bipush (v := 19) hx hb dL_next_40 (by decide) ?_
          refine z_iald (v := (u 19)) hx hb hK hP 0 0 rfl rfl (z_in rfl) rfl dL_next_42 ?_
          refine lv_iconst (v := 2) hx hb dL_next_43 (by decide) ?_
          refine lv_idiv hx hb dL_next_44 (by decide) ?_
          refine lv_icmp_ge (tgt := 51) hx hb dL_next_45 (by decide) (fun c45 => ?_) (fun c45 => ?_)
          · replace hf := zi_p hf c45
            refine lv_aload_n hx hb dL_next_51 rfl (lv_at hl 1 rfl) ?_
            refine lv_iconst (v := 4) hx hb dL_next_52 (by decide) ?_
            refine z_iald (v := (u 4)) hx hb hK hP 0 0 rfl rfl (z_in rfl) rfl dL_next_53 ?_
            have J112 : ∀ (y112_0 : Int32) (hf : q_L_next_J112 v22 y112_0 = some o22) (H : Heap) (locs : List Loc) (hP : va_P D vwCl (wAR G ad b 20 u ++ wAR G ad1 b1 8 u1 ++ wAR G ad2 b2 6 u2 ++ wAR G ad3 b3 20 u3) H) (hD : va_D A (wAR G ad b 20 u ++ wAR G ad1 b1 8 u1 ++ wAR G ad2 b2 6 u2 ++ wAR G ad3 b3 20 u3)) (hS : va_S A s.heap H locs) (ls : Array Slot) (hl : lv_has ls 9 [(0, .ref (ad b)), (1, .ref (ad1 b1)), (3, .ref (ad3 b3)), (4, .int v22.1), (5, .int v22.2.1), (6, .int v22.2.2)]), W p l e (zRm 1 25) s m args below meth c H locs 0 0 Q (F0 m 112 ls [.int y112_0]) := by
              intro y112_0 hf H locs hP hD hS ls hl
              unfold q_L_next_J112 at hf
              refine lv_istore (lv' := [(8, .int y112_0), (0, .ref (ad b)), (1, .ref (ad1 b1)), (3, .ref (ad3 b3)), (4, .int v22.1), (5, .int v22.2.1), (6, .int v22.2.2)]) hx hb dL_next_112 hl (by decide) rfl (fun ls hl => ?_)
              refine lv_iload hx hb dL_next_114 (lv_at hl 0 rfl) ?_
              refine lv_iload hx hb dL_next_116 (lv_at hl 5 rfl) ?_
              refine lv_icmp_lt (tgt := 129) hx hb dL_next_118 (by decide) (fun c118 => ?_) (fun c118 => ?_)
              · replace hf := zi_p hf c118
                replace hf := zn_s hf
                obtain ⟨k129, ek129, hf⟩ := hf
                refine lv_iinc (v := k129) (lv' := [(6, .int k129), (8, .int y112_0), (0, .ref (ad b)), (1, .ref (ad1 b1)), (3, .ref (ad3 b3)), (4, .int v22.1), (5, .int v22.2.1)]) hx hb dL_next_129 hl (k := 6) rfl ek129.symm (by decide) rfl (fun ls hl => ?_)
                refine lv_goto (tgt := 22) hx hb dL_next_132 (by decide) ?_
                exact ih22 _ (zk_l hf hz22) _ _ hP hD hS _ (lv_sub hl [2, 3, 4, 5, 6, 0] rfl)
              · replace hf := zi_n hf c118
                refine lv_iload hx hb dL_next_121 (lv_at hl 0 rfl) ?_
                refine lv_istore (lv' := [(5, .int y112_0), (8, .int y112_0), (0, .ref (ad b)), (1, .ref (ad1 b1)), (3, .ref (ad3 b3)), (4, .int v22.1), (6, .int v22.2.2)]) hx hb dL_next_123 hl (by decide) rfl (fun ls hl => ?_)
                refine lv_iload hx hb dL_next_125 (lv_at hl 6 rfl) ?_
                refine lv_istore (lv' := [(4, .int v22.2.2), (5, .int y112_0), (8, .int y112_0), (0, .ref (ad b)), (1, .ref (ad1 b1)), (3, .ref (ad3 b3)), (6, .int v22.2.2)]) hx hb dL_next_127 hl (by decide) rfl (fun ls hl => ?_)
                replace hf := zn_s hf
                obtain ⟨k129, ek129, hf⟩ := hf
                refine lv_iinc (v := k129) (lv' := [(6, .int k129), (4, .int v22.2.2), (5, .int y112_0), (8, .int y112_0), (0, .ref (ad b)), (1, .ref (ad1 b1)), (3, .ref (ad3 b3))]) hx hb dL_next_129 hl (k := 6) rfl ek129.symm (by decide) rfl (fun ls hl => ?_)
                refine lv_goto (tgt := 22) hx hb dL_next_132 (by decide) ?_
                exact ih22 _ (zk_l hf hz22) _ _ hP hD hS _ (lv_sub hl [4, 5, 6, 1, 2, 0] rfl)
            refine lv_if_ne (tgt := 62) hx hb dL_next_54 (by decide) (fun c54 => ?_) (fun c54 => ?_)
            · replace hf := zi_n hf c54
              refine lv_aload_n hx hb dL_next_62 rfl (lv_at hl 1 rfl) ?_
              refine lv_iconst (v := 4) hx hb dL_next_63 (by decide) ?_
              refine z_iald (v := (u 4)) hx hb hK hP 0 0 rfl rfl (z_in rfl) rfl dL_next_64 ?_
              refine lv_iconst (v := 1) hx hb dL_next_65 (by decide) ?_
              refine lv_icmp_ne (tgt := 81) hx hb dL_next_66 (by decide) (fun c66 => ?_) (fun c66 => ?_)
              · replace hf := zi_n hf c66
                refine lv_aload_n hx hb dL_next_81 rfl (lv_at hl 1 rfl) ?_
                refine lv_bipush (v := 13) hx hb dL_next_82 (by decide) ?_
                refine z_iald (v := (u 13)) hx hb hK hP 0 0 rfl rfl (z_in rfl) rfl dL_next_84 ?_
                refine lv_if_ge (tgt := 96) hx hb dL_next_85 (by decide) (fun c85 => ?_) (fun c85 => ?_)
                · replace hf := zi_p hf c85
                  refine lv_bipush (v := 8) hx hb dL_next_96 (by decide) ?_
                  refine lv_iload hx hb dL_next_98 (lv_at hl 6 rfl) ?_
                  refine lv_bipush (v := 7) hx hb dL_next_100 (by decide) ?_
                  refine lv_iadd hx hb dL_next_102 ?_
                  refine lv_aload_n hx hb dL_next_103 rfl (lv_at hl 1 rfl) ?_
                  refine lv_bipush (v := 13) hx hb dL_next_104 (by decide) ?_
                  refine z_iald (v := (u 13)) hx hb hK hP 0 0 rfl rfl (z_in rfl) rfl dL_next_106 ?_
                  refine lv_isub hx hb dL_next_107 ?_
                  refine lv_bipush (v := 8) hx hb dL_next_108 (by decide) ?_
                  refine lv_irem hx hb dL_next_110 (by decide) ?_
                  refine lv_isub hx hb dL_next_111 ?_
                  exact J112 (8 - (((v22.2.2 + 7) - (u 13)) - ((v22.2.2 + 7) - (u 13)) / 8 * 8)) hf _ _ hP hD hS _ (lv_sub hl [1, 2, 3, 4, 5, 6] rfl)
                · replace hf := zi_n hf c85
                  refine lv_bipush (v := 8) hx hb dL_next_88 (by decide) ?_
                  refine lv_iload hx hb dL_next_90 (lv_at hl 6 rfl) ?_
                  refine lv_isub hx hb dL_next_92 ?_
                  refine lv_goto (tgt := 112) hx hb dL_next_93 (by decide) ?_
                  exact J112 (8 - v22.2.2) hf _ _ hP hD hS _ (lv_sub hl [1, 2, 3, 4, 5, 6] rfl)
              · replace hf := zi_p hf c66
                refine lv_iload hx hb dL_next_69 (lv_at hl 6 rfl) ?_
                refine lv_bipush (v := 9) hx hb dL_next_71 (by decide) ?_
                refine lv_aload_n hx hb dL_next_73 rfl (lv_at hl 1 rfl) ?_
                refine lv_aload_n hx hb dL_next_74 rfl (lv_at hl 3 rfl) ?_
                replace hf := zb_s hf
                obtain ⟨r75, hr75, hf⟩ := hf
                refine z_GSi (rest := []) C0 kL_10 (c_L_sum l D G ad (b) ad3 (b3) u u3 v22.2.2 9 r75 hr75) pz_4_0_3 pz_4_0_3.symm rfl ⟨Nat.le_of_ble_eq_true rfl, Nat.le_of_ble_eq_true rfl⟩ (Nat.le_of_ble_eq_true rfl) ⟨Nat.le_of_ble_eq_true rfl, Nat.le_of_ble_eq_true rfl⟩ rfl hl.1 hP hD hS dL_next_75 (fun H locs hP hD hS => ?_)
                refine lv_goto (tgt := 112) hx hb dL_next_78 (by decide) ?_
                exact J112 r75 hf _ _ hP hD hS _ (lv_sub hl [1, 2, 3, 4, 5, 6] rfl)
            · replace hf := zi_p hf c54
              refine lv_iload hx hb dL_next_57 (lv_at hl 0 rfl) ?_
              refine lv_goto (tgt := 112) hx hb dL_next_59 (by decide) ?_
              exact J112 ((u 0) - a33) hf _ _ hP hD hS _ (lv_sub hl [1, 2, 3, 4, 5, 6] rfl)
          · replace hf := zi_n hf c45
            refine lv_goto (tgt := 129) hx hb dL_next_48 (by decide) ?_
            replace hf := zn_s hf
            obtain ⟨k129, ek129, hf⟩ := hf
            refine lv_iinc (v := k129) (lv' := [(6, .int k129), (7, .int ((u 0) - a33)), (0, .ref (ad b)), (1, .ref (ad1 b1)), (3, .ref (ad3 b3)), (4, .int v22.1), (5, .int v22.2.1)]) hx hb dL_next_129 hl (k := 6) rfl ek129.symm (by decide) rfl (fun ls hl => ?_)
            refine lv_goto (tgt := 22) hx hb dL_next_132 (by decide) ?_
            exact ih22 _ (zk_l hf hz22) _ _ hP hD hS _ (lv_sub hl [2, 3, 4, 5, 6, 0] rfl)
    exact L22 _ _ hz22 _ _ hP hD hS _ (lv_sub hl [3, 4, 6, 2, 1, 0] rfl)
  · replace hf := zi_n hf c4
    refine lv_aload_n hx hb dL_next_7 rfl (lv_at hl 2 rfl) ?_
    refine lv_iconst (v := 0) hx hb dL_next_8 (by decide) ?_
    refine z_iald (v := (u2 0)) hx hb hK hP 2 0 rfl rfl (z_in rfl) rfl dL_next_9 ?_
    obtain rfl := zo hf
    exact hret _ _ _ _ _ hP hD hS rfl dL_next_10
