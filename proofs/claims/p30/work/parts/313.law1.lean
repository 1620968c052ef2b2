theorem kL_24 : zLkS RL 24 yL_log cL_log 5 none 4 := ⟨⟨wd_218, wd_219, wd_122, wd_220⟩, by decide +kernel⟩
theorem kL_16 : zLkS RL 16 yL_next cL_next 9 (some .int) 4 := ⟨⟨wd_250, wd_251, wd_122, wd_252⟩, by decide +kernel⟩
theorem kL_20 : zLkS RL 20 yL_drop cL_drop 4 none 3 := ⟨⟨wd_202, wd_203, wd_122, wd_204⟩, by decide +kernel⟩
noncomputable def q_L_tick_L284 (s279 : Nat → Int32) (v284 : Int32 × (Nat → Int32)) : Option ((Int32 × (Nat → Int32)) ⊕ ((Nat → Int32))) :=
  (if (s279 2) ≤ v284.1 then some (Sum.inr (v284.2)) else zg 20 v284.2 (v284.1 + 1) fun a300 => zs 20 v284.2 v284.1 a300 fun s301 => some (Sum.inl ((v284.1 + 1), s301)))
noncomputable def q_L_tick_J241 (s114 : Nat → Int32) (v182 : Int32 × (Nat → Int32) × (Nat → Int32) × (Nat → Int32)) (y241_0 : Int32) : Option ((Int32 × (Nat → Int32) × (Nat → Int32) × (Nat → Int32)) ⊕ ((Nat → Int32) × (Nat → Int32) × (Nat → Int32))) :=
  zb (q_L_log v182.2.1 v182.2.2.2 y241_0 (s114 5)) fun r246 => (if (r246.1 3) = 0 then some (Sum.inl ((v182.1 + 1), r246.1, v182.2.2.1, r246.2)) else zn (upd r246.1 3 ((r246.1 3) - 1)) fun s264 => zn (upd s264 11 ((s264 11) + 1)) fun s272 => zn (upd s272 2 ((s272 2) - 1)) fun s279 => zb (zl 1000000 (q_L_tick_L284 s279) (v182.1, v182.2.2.1)) (fun bb284 => zn (v182.1 + (-1)) fun k308 => some (Sum.inl ((k308 + 1), s279, bb284, r246.2))))
noncomputable def q_L_tick_L182 (s114 : Nat → Int32) (v182 : Int32 × (Nat → Int32) × (Nat → Int32) × (Nat → Int32)) : Option ((Int32 × (Nat → Int32) × (Nat → Int32) × (Nat → Int32)) ⊕ ((Nat → Int32) × (Nat → Int32) × (Nat → Int32))) :=
  (if (v182.2.1 2) ≤ v182.1 then some (Sum.inr (v182.2.1, v182.2.2.1, v182.2.2.2)) else zg 20 v182.2.2.1 v182.1 fun a193 => (if (a193 / 10) = (s114 5) then zg 20 v182.2.2.1 v182.1 fun a208 => (if (v182.2.1 18) ≤ (a208 - a208 / 10 * 10) then (if (v182.2.1 3) ≤ 0 then q_L_tick_J241 s114 v182 5 else q_L_tick_J241 s114 v182 4) else zg 20 v182.2.2.1 v182.1 fun a223 => zs 20 v182.2.2.1 v182.1 (a223 + 1) fun s226 => some (Sum.inl ((v182.1 + 1), v182.2.1, s226, v182.2.2.2))) else some (Sum.inl ((v182.1 + 1), v182.2.1, v182.2.2.1, v182.2.2.2))))
noncomputable def q_L_tick_J107 (u1 : Nat → Int32) (u3 : Nat → Int32) (w107_0 : Nat → Int32) (w107_1 : Nat → Int32) (w107_2 : Nat → Int32) : Option (Int32 × (Nat → Int32) × (Nat → Int32) × (Nat → Int32) × (Nat → Int32) × (Nat → Int32)) :=
  zn (upd w107_0 6 ((w107_0 6) + 1)) fun s114 => (if (s114 7) ≤ (s114 6) then zs 8 u1 (s114 5) (s114 0) fun s140 => zn (upd s114 5 (-6)) fun s145 => zn (upd s145 6 0) fun s150 => zn (upd s150 7 0) fun s155 => zn (upd s155 9 ((s155 9) + 1)) fun s163 => zn (upd s163 13 (s114 5)) fun s169 => zb (q_L_log s169 w107_2 3 (s114 5)) fun r176 => zb (zl 1000000 (q_L_tick_L182 s114) (0, r176.1, u3, r176.2)) (fun bb182 => some ((s114 5), bb182.1, s140, w107_1, bb182.2.1, bb182.2.2)) else some ((-6), s114, u1, w107_1, u3, w107_2))
noncomputable def q_L_tick_J63 (u1 : Nat → Int32) (u3 : Nat → Int32) (u4 : Nat → Int32) (r37 : Int32) (w63_0 : Nat → Int32) (w63_1 : Nat → Int32) : Option (Int32 × (Nat → Int32) × (Nat → Int32) × (Nat → Int32) × (Nat → Int32) × (Nat → Int32)) :=
  zn (upd w63_0 5 r37) fun s67 => zn (upd s67 6 0) fun s72 => zb (q_L_sum s72 u3 r37 (s72 18)) fun r92 => zn (upd s72 7 ((s72 16) + ((s72 17) * r92))) fun s97 => zb (q_L_log s97 u4 1 r37) fun r104 => q_L_tick_J107 u1 u3 r104.1 w63_1 r104.2
noncomputable def q_L_tick (u : Nat → Int32) (u1 : Nat → Int32) (u2 : Nat → Int32) (u3 : Nat → Int32) (u4 : Nat → Int32) : Option (Int32 × (Nat → Int32) × (Nat → Int32) × (Nat → Int32) × (Nat → Int32) × (Nat → Int32)) :=
  zn (upd u 0 ((u 0) + 1)) fun s6 => (if (s6 15) ≤ (s6 1) then (if 0 ≤ (s6 5) then q_L_tick_J107 u1 u3 s6 u2 u4 else zb (q_L_next s6 u1 u2 u3) fun r37 => (if 0 ≤ r37 then (if (s6 8) ≤ 0 then q_L_tick_J63 u1 u3 u4 r37 s6 u2 else zb (q_L_drop s6 u2 0) fun r60 => q_L_tick_J63 u1 u3 u4 r37 r60.1 r60.2) else some ((-6), s6, u1, u2, u3, u4))) else zn (upd s6 1 ((s6 1) + 1)) fun s23 => some ((-6), s23, u1, u2, u3, u4))
set_option maxRecDepth 100000 in
set_option maxHeartbeats 4000000 in
theorem c_L_tick (l : Launch) (D : va_G) (G : zG) (ad : Nat → Nat) (b : Nat) (ad1 : Nat → Nat) (b1 : Nat) (ad2 : Nat → Nat) (b2 : Nat) (ad3 : Nat → Nat) (b3 : Nat) (ad4 : Nat → Nat) (b4 : Nat) (u : Nat → Int32) (u1 : Nat → Int32) (u2 : Nat → Int32) (u3 : Nat → Int32) (u4 : Nat → Int32) (res : Int32 × (Nat → Int32) × (Nat → Int32) × (Nat → Int32) × (Nat → Int32) × (Nat → Int32)) (hf : q_L_tick u u1 u2 u3 u4 = some res) : zMi l yL_tick cL_tick 8 (some .int) 2 53 D G (wAR G ad b 20 u ++ wAR G ad1 b1 8 u1 ++ wAR G ad2 b2 6 u2 ++ wAR G ad3 b3 20 u3 ++ wAR G ad4 b4 30 u4) (wAR G ad b 20 res.2.1 ++ wAR G ad1 b1 8 res.2.2.1 ++ wAR G ad2 b2 6 res.2.2.2.1 ++ wAR G ad3 b3 20 res.2.2.2.2.1 ++ wAR G ad4 b4 30 res.2.2.2.2.2) [.ref (ad b), .ref (ad1 b1), .ref (ad2 b2), .ref (ad3 b3), .ref (ad4 b4)] res.1 := by
  refine zs_i (by decide +kernel) (Nat.le_of_ble_eq_true rfl) ?_
  intro p e s m args below meth c A Q H ls C0 hret hP hD hS hl
  obtain ⟨hx, hb, hml, hown, hW, hK, hlocks, hF, hr, hA⟩ := id C0
  replace hl : lv_has ls 8 [(0, .ref (ad b)), (1, .ref (ad1 b1)), (2, .ref (ad2 b2)), (3, .ref (ad3 b3)), (4, .ref (ad4 b4))] := hl
  unfold q_L_tick at hf
  refine lv_aload_n hx hb dL_tick_0 rfl (lv_at hl 0 rfl) ?_
  refine lv_iconst (v := 0) hx hb dL_tick_1 (by decide) ?_
  refine lv_dup2_11 hx hb dL_tick_2 rfl rfl ?_
  refine z_iald (v := (u 0)) hx hb hK hP 0 0 rfl rfl (z_in rfl) rfl dL_tick_3 ?_
  refine lv_iconst (v := 1) hx hb dL_tick_4 (by decide) ?_
  refine lv_iadd hx hb dL_tick_5 ?_
  replace hf := zn_s hf
  obtain ⟨s6, es6, hf⟩ := hf
  refine z_iast (ws' := wAR G ad b 20 s6 ++ wAR G ad1 b1 8 u1 ++ wAR G ad2 b2 6 u2 ++ wAR G ad3 b3 20 u3 ++ wAR G ad4 b4 30 u4) hx hb hK hP hD hS 0 0 rfl rfl (z_in rfl) es6 rfl dL_tick_6 (fun H locs hP hD hS => ?_)
  refine lv_aload_n hx hb dL_tick_7 rfl (lv_at hl 0 rfl) ?_
  refine lv_iconst (v := 1) hx hb dL_tick_8 (by decide) ?_
  refine z_iald (v := (s6 1)) hx hb hK hP 0 0 rfl rfl (z_in rfl) rfl dL_tick_9 ?_
  refine lv_aload_n hx hb dL_tick_10 rfl (lv_at hl 0 rfl) ?_
  refine lv_bipush (v := 15) hx hb dL_tick_11 (by decide) ?_
  refine z_iald (v := (s6 15)) hx hb hK hP 0 0 rfl rfl (z_in rfl) rfl dL_tick_13 ?_
  refine lv_icmp_ge (tgt := 27) hx hb dL_tick_14 (by decide) (fun c14 => ?_) (fun c14 => ?_)
  · replace hf := zi_p hf c14
    refine lv_aload_n hx hb dL_tick_27 rfl (lv_at hl 0 rfl) ?_
    refine lv_iconst (v := 5) hx hb dL_tick_28 (by decide) ?_
    refine z_iald (v := (s6 5)) hx hb hK hP 0 0 rfl rfl (z_in rfl) rfl dL_tick_29 ?_
    have J107 : ∀ (w107_0 : Nat → Int32) (w107_1 : Nat → Int32) (w107_2 : Nat → Int32) (hf : q_L_tick_J107 u1 u3 w107_0 w107_1 w107_2 = some res) (H : Heap) (locs : List Loc) (hP : va_P D vwCl (wAR G ad b 20 w107_0 ++ wAR G ad1 b1 8 u1 ++ wAR G ad2 b2 6 w107_1 ++ wAR G ad3 b3 20 u3 ++ wAR G ad4 b4 30 w107_2) H) (hD : va_D A (wAR G ad b 20 w107_0 ++ wAR G ad1 b1 8 u1 ++ wAR G ad2 b2 6 w107_1 ++ wAR G ad3 b3 20 u3 ++ wAR G ad4 b4 30 w107_2)) (hS : va_S A s.heap H locs) (ls : Array Slot) (hl : lv_has ls 8 [(0, .ref (ad b)), (1, .ref (ad1 b1)), (3, .ref (ad3 b3)), (4, .ref (ad4 b4))]), W p l e (zRm 2 53) s m args below meth c H locs 0 0 Q (F0 m 107 ls []) := by
      intro w107_0 w107_1 w107_2 hf H locs hP hD hS ls hl
      unfold q_L_tick_J107 at hf
      refine lv_aload_n hx hb dL_tick_107 rfl (lv_at hl 0 rfl) ?_
      refine lv_bipush (v := 6) hx hb dL_tick_108 (by decide) ?_
      refine lv_dup2_11 hx hb dL_tick_110 rfl rfl ?_
      refine z_iald (v := (w107_0 6)) hx hb hK hP 0 0 rfl rfl (z_in rfl) rfl dL_tick_111 ?_
      refine lv_iconst (v := 1) hx hb dL_tick_112 (by decide) ?_
      refine lv_iadd hx hb dL_tick_113 ?_
      replace hf := zn_s hf
      obtain ⟨s114, es114, hf⟩ := hf
      refine z_iast (ws' := wAR G ad b 20 s114 ++ wAR G ad1 b1 8 u1 ++ wAR G ad2 b2 6 w107_1 ++ wAR G ad3 b3 20 u3 ++ wAR G ad4 b4 30 w107_2) hx hb hK hP hD hS 0 0 rfl rfl (z_in rfl) es114 rfl dL_tick_114 (fun H locs hP hD hS => ?_)
      refine lv_aload_n hx hb dL_tick_115 rfl (lv_at hl 0 rfl) ?_
      refine lv_bipush (v := 6) hx hb dL_tick_116 (by decide) ?_
      refine z_iald (v := (s114 6)) hx hb hK hP 0 0 rfl rfl (z_in rfl) rfl dL_tick_118 ?_
      refine lv_aload_n hx hb dL_tick_119 rfl (lv_at hl 0 rfl) ?_
      refine lv_bipush (v := 7) hx hb dL_tick_120 (by decide) ?_
      refine z_iald (v := (s114 7)) hx hb hK hP 0 0 rfl rfl (z_in rfl) rfl dL_tick_122 ?_
      refine lv_icmp_ge (tgt := 129) hx hb dL_tick_123 (by decide) (fun c123 => ?_) (fun c123 => ?_)
      · replace hf := zi_p hf c123
        refine lv_aload_n hx hb dL_tick_129 rfl (lv_at hl 0 rfl) ?_
        refine lv_iconst (v := 5) hx hb dL_tick_130 (by decide) ?_
        refine z_iald (v := (s114 5)) hx hb hK hP 0 0 rfl rfl (z_in rfl) rfl dL_tick_131 ?_
        refine lv_istore (lv' := [(5, .int (s114 5)), (0, .ref (ad b)), (1, .ref (ad1 b1)), (3, .ref (ad3 b3)), (4, .ref (ad4 b4))]) hx hb dL_tick_132 hl (by decide) rfl (fun ls hl => ?_)
        refine lv_aload_n hx hb dL_tick_134 rfl (lv_at hl 2 rfl) ?_
        refine lv_iload hx hb dL_tick_135 (lv_at hl 0 rfl) ?_
        refine lv_aload_n hx hb dL_tick_137 rfl (lv_at hl 1 rfl) ?_
        refine lv_iconst (v := 0) hx hb dL_tick_138 (by decide) ?_
        refine z_iald (v := (s114 0)) hx hb hK hP 0 0 rfl rfl (z_in rfl) rfl dL_tick_139 ?_
        replace hf := zs_s hf
        obtain ⟨hi140, s140, es140, hf⟩ := hf
        refine z_iast (ws' := wAR G ad b 20 s114 ++ wAR G ad1 b1 8 s140 ++ wAR G ad2 b2 6 w107_1 ++ wAR G ad3 b3 20 u3 ++ wAR G ad4 b4 30 w107_2) hx hb hK hP hD hS 1 0 rfl rfl hi140 es140 rfl dL_tick_140 (fun H locs hP hD hS => ?_)
        refine lv_aload_n hx hb dL_tick_141 rfl (lv_at hl 1 rfl) ?_
        refine lv_iconst (v := 5) hx hb dL_tick_142 (by decide) ?_
        refine lv_bipush (v := (-6)) hx hb dL_tick_143 (by decide) ?_
        replace hf := zn_s hf
        obtain ⟨s145, es145, hf⟩ := hf
        refine z_iast (ws' := wAR G ad b 20 s145 ++ wAR G ad1 b1 8 s140 ++ wAR G ad2 b2 6 w107_1 ++ wAR G ad3 b3 20 u3 ++ wAR G ad4 b4 30 w107_2) hx hb hK hP hD hS 0 0 rfl rfl (z_in rfl) es145 rfl dL_tick_145 (fun H locs hP hD hS => ?_)
        refine lv_aload_n hx hb dL_tick_146 rfl (lv_at hl 1 rfl) ?_
        refine lv_bipush (v := 6) hx hb dL_tick_147 (by decide) ?_
        refine lv_iconst (v := 0) hx hb dL_tick_149 (by decide) ?_
        replace hf := zn_s hf
        obtain ⟨s150, es150, hf⟩ := hf
        refine z_iast (ws' := wAR G ad b 20 s150 ++ wAR G ad1 b1 8 s140 ++ wAR G ad2 b2 6 w107_1 ++ wAR G ad3 b3 20 u3 ++ wAR G ad4 b4 30 w107_2) hx hb hK hP hD hS 0 0 rfl rfl (z_in rfl) es150 rfl dL_tick_150 (fun H locs hP hD hS => ?_)
        refine lv_aload_n hx hb dL_tick_151 rfl (lv_at hl 1 rfl) ?_
        refine lv_bipush (v := 7) hx hb dL_tick_152 (by decide) ?_
        refine lv_iconst (v := 0) hx hb dL_tick_154 (by decide) ?_
        replace hf := zn_s hf
        obtain ⟨s155, es155, hf⟩ := hf
        refine z_iast (ws' := wAR G ad b 20 s155 ++ wAR G ad1 b1 8 s140 ++ wAR G ad2 b2 6 w107_1 ++ wAR G ad3 b3 20 u3 ++ wAR G ad4 b4 30 w107_2) hx hb hK hP hD hS 0 0 rfl rfl (z_in rfl) es155 rfl dL_tick_155 (fun H locs hP hD hS => ?_)
        refine lv_aload_n hx hb dL_tick_156 rfl (lv_at hl 1 rfl) ?_
        refine lv_bipush (v := 9) hx hb dL_tick_157 (by decide) ?_
        refine lv_dup2_11 hx hb dL_tick_159 rfl rfl ?_
        refine z_iald (v := (s155 9)) hx hb hK hP 0 0 rfl rfl (z_in rfl) rfl dL_tick_160 ?_
        refine lv_iconst (v := 1) hx hb dL_tick_161 (by decide) ?_
        refine lv_iadd hx hb dL_tick_162 ?_
        replace hf := zn_s hf
        obtain ⟨s163, es163, hf⟩ := hf
        refine z_iast (ws' := wAR G ad b 20 s163 ++ wAR G ad1 b1 8 s140 ++ wAR G ad2 b2 6 w107_1 ++ wAR G ad3 b3 20 u3 ++ wAR G ad4 b4 30 w107_2) hx hb hK hP hD hS 0 0 rfl rfl (z_in rfl) es163 rfl dL_tick_163 (fun H locs hP hD hS => ?_)
        refine lv_aload_n hx hb dL_tick_164 rfl (lv_at hl 1 rfl) ?_
        refine lv_bipush (v := 13) hx hb dL_tick_165 (by decide) ?_
        refine lv_iload hx hb dL_tick_167 (lv_at hl 0 rfl) ?_
        replace hf := zn_s hf
        obtain ⟨s169, es169, hf⟩ := hf
        refine z_iast (ws' := wAR G ad b 20 s169 ++ wAR G ad1 b1 8 s140 ++ wAR G ad2 b2 6 w107_1 ++ wAR G ad3 b3 20 u3 ++ wAR G ad4 b4 30 w107_2) hx hb hK hP hD hS 0 0 rfl rfl (z_in rfl) es169 rfl dL_tick_169 (fun H locs hP hD hS => ?_)
        refine lv_iconst (v := 3) hx hb dL_tick_170 (by decide) ?_
        refine lv_iload hx hb dL_tick_171 (lv_at hl 0 rfl) ?_
        refine lv_aload_n hx hb dL_tick_173 rfl (lv_at hl 1 rfl) ?_
        refine lv_aload hx hb dL_tick_174 (lv_at hl 4 rfl) ?_
        replace hf := zb_s hf
        obtain ⟨r176, hr176, hf⟩ := hf
        refine z_GSv (rest := []) C0 kL_24 (c_L_log l D G ad (b) ad4 (b4) s169 w107_2 3 (s114 5) r176 hr176) pz_5_0_4 pz_5_0_4.symm rfl ⟨Nat.le_of_ble_eq_true rfl, Nat.le_of_ble_eq_true rfl⟩ (Nat.le_of_ble_eq_true rfl) ⟨Nat.le_of_ble_eq_true rfl, Nat.le_of_ble_eq_true rfl⟩ rfl hl.1 hP hD hS dL_tick_176 (fun H locs hP hD hS => ?_)
        replace hP : va_P D vwCl (wAR G ad b 20 r176.1 ++ wAR G ad1 b1 8 s140 ++ wAR G ad2 b2 6 w107_1 ++ wAR G ad3 b3 20 u3 ++ wAR G ad4 b4 30 r176.2) H := hP
        replace hD : va_D A (wAR G ad b 20 r176.1 ++ wAR G ad1 b1 8 s140 ++ wAR G ad2 b2 6 w107_1 ++ wAR G ad3 b3 20 u3 ++ wAR G ad4 b4 30 r176.2) := hD
        refine lv_iconst (v := 0) hx hb dL_tick_179 (by decide) ?_
        refine lv_istore (lv' := [(6, .int 0), (5, .int (s114 5)), (0, .ref (ad b)), (1, .ref (ad1 b1)), (3, .ref (ad3 b3)), (4, .ref (ad4 b4))]) hx hb dL_tick_180 hl (by decide) rfl (fun ls hl => ?_)
        replace hf := zb_s hf
        obtain ⟨bb182, hz182, hk182⟩ := hf
        have L182 : ∀ (n182 : Nat) (v182 : Int32 × (Nat → Int32) × (Nat → Int32) × (Nat → Int32)) (hz182 : zl n182 (q_L_tick_L182 s114) v182 = some bb182) (H : Heap) (locs : List Loc) (hP : va_P D vwCl (wAR G ad b 20 v182.2.1 ++ wAR G ad1 b1 8 s140 ++ wAR G ad2 b2 6 w107_1 ++ wAR G ad3 b3 20 v182.2.2.1 ++ wAR G ad4 b4 30 v182.2.2.2) H) (hD : va_D A (wAR G ad b 20 v182.2.1 ++ wAR G ad1 b1 8 s140 ++ wAR G ad2 b2 6 w107_1 ++ wAR G ad3 b3 20 v182.2.2.1 ++ wAR G ad4 b4 30 v182.2.2.2)) (hS : va_S A s.heap H locs) (ls : Array Slot) (hl : lv_has ls 8 [(0, .ref (ad b)), (3, .ref (ad3 b3)), (4, .ref (ad4 b4)), (5, .int (s114 5)), (6, .int v182.1)]), W p l e (zRm 2 53) s m args below meth c H locs 0 0 Q (F0 m 182 ls []) := by
          intro n182
          induction n182 with
          | zero => intro v182 hz182; exact (zl_0 hz182).elim
          | succ n182 ih182 =>
            intro v182 hz182 H locs hP hD hS ls hl
            obtain ⟨o182, hf, hz182⟩ := zl_s hz182
            unfold q_L_tick_L182 at hf
            refine lv_iload hx hb dL_tick_182 (lv_at hl 4 rfl) ?_
            refine lv_aload_n hx hb dL_tick_184 rfl (lv_at hl 0 rfl) ?_
            refine lv_iconst (v := 2) hx hb dL_tick_185 (by decide) ?_
            refine z_iald (v := (v182.2.1 2)) hx hb hK hP 0 0 rfl rfl (z_in rfl) rfl dL_tick_186 ?_
            refine lv_icmp_ge (tgt := 317) hx hb dL_tick_187 (by decide) (fun c187 => ?_) (fun c187 => ?_)
            · replace hf := zi_p hf c187
              have hb182 := (zk_r hf hz182).symm
              subst hb182
              replace hf := hk182
              refine lv_iload hx hb dL_tick_317 (lv_at hl 3 rfl) ?_
              obtain rfl := zo hf
              exact hret _ _ _ _ _ hP hD hS rfl dL_tick_319
            · replace hf := zi_n hf c187
              refine lv_aload_n hx hb dL_tick_190 rfl (lv_at hl 1 rfl) ?_
              refine lv_iload hx hb dL_tick_191 (lv_at hl 4 rfl) ?_
              replace hf := zg_s hf
              obtain ⟨hi193, a193, ea193, hf⟩ := hf
              refine z_iald hx hb hK hP 3 0 rfl rfl hi193 ea193 dL_tick_193 ?_
              refine lv_bipush (v := 10) hx hb dL_tick_194 (by decide) ?_
              refine lv_idiv hx hb dL_tick_196 (by decide) ?_
              refine lv_iload hx hb dL_tick_197 (lv_at hl 3 rfl) ?_
              refine lv_icmp_eq (tgt := 205) hx hb dL_tick_199 (by decide) (fun c199 => ?_) (fun c199 => ?_)
              · replace hf := zi_p hf c199
                refine lv_aload_n hx hb dL_tick_205 rfl (lv_at hl 1 rfl) ?_
                refine lv_iload hx hb dL_tick_206 (lv_at hl 4 rfl) ?_
                replace hf := zg_s hf
                obtain ⟨hi208, a208, ea208, hf⟩ := hf
                refine z_iald hx hb hK hP 3 0 rfl rfl hi208 ea208 dL_tick_208 ?_
                refine lv_bipush (v := 10) hx hb dL_tick_209 (by decide) ?_
                refine lv_irem hx hb dL_tick_211 (by decide) ?_
                refine lv_aload_n hx hb dL_tick_212 rfl (lv_at hl 0 rfl) ?_
                refine lv_bipush (v := 18) hx hb dL_tick_213 (by decide) ?_
                refine z_iald (v := (v182.2.1 18)) hx hb hK hP 0 0 rfl rfl (z_in rfl) rfl dL_tick_215 ?_
                refine lv_icmp_ge (tgt := 230) hx hb dL_tick_216 (by decide) (fun c216 => ?_) (fun c216 => ?_)
                · replace hf := zi_p hf c216
                  refine lv_aload_n hx hb dL_tick_230 rfl (lv_at hl 0 rfl) ?_
                  refine lv_iconst (v := 3) hx hb dL_tick_231 (by decide) ?_
                  refine z_iald (v := (v182.2.1 3)) hx hb hK hP 0 0 rfl rfl (z_in rfl) rfl dL_tick_232 ?_
                  have J241 : ∀ (y241_0 : Int32) (hf : q_L_tick_J241 s114 v182 y241_0 = some o182) (H : Heap) (locs : List Loc) (hP : va_P D vwCl (wAR G ad b 20 v182.2.1 ++ wAR G ad1 b1 8 s140 ++ wAR G ad2 b2 6 w107_1 ++ wAR G ad3 b3 20 v182.2.2.1 ++ wAR G ad4 b4 30 v182.2.2.2) H) (hD : va_D A (wAR G ad b 20 v182.2.1 ++ wAR G ad1 b1 8 s140 ++ wAR G ad2 b2 6 w107_1 ++ wAR G ad3 b3 20 v182.2.2.1 ++ wAR G ad4 b4 30 v182.2.2.2)) (hS : va_S A s.heap H locs) (ls : Array Slot) (hl : lv_has ls 8 [(0, .ref (ad b)), (3, .ref (ad3 b3)), (4, .ref (ad4 b4)), (5, .int (s114 5)), (6, .int v182.1)]), W p l e (zRm 2 53) s m args below meth c H locs 0 0 Q (F0 m 241 ls [.int y241_0]) := by
                    intro y241_0 hf H locs hP hD hS ls hl
                    unfold q_L_tick_J241 at hf
                    refine lv_iload hx hb dL_tick_241 (lv_at hl 3 rfl) ?_
                    refine lv_aload_n hx hb dL_tick_243 rfl (lv_at hl 0 rfl) ?_
                    refine lv_aload hx hb dL_tick_244 (lv_at hl 2 rfl) ?_
                    replace hf := zb_s hf
                    obtain ⟨r246, hr246, hf⟩ := hf
                    refine z_GSv (rest := []) C0 kL_24 (c_L_log l D G ad (b) ad4 (b4) v182.2.1 v182.2.2.2 y241_0 (s114 5) r246 hr246) pz_5_0_4 pz_5_0_4.symm rfl ⟨Nat.le_of_ble_eq_true rfl, Nat.le_of_ble_eq_true rfl⟩ (Nat.le_of_ble_eq_true rfl) ⟨Nat.le_of_ble_eq_true rfl, Nat.le_of_ble_eq_true rfl⟩ rfl hl.1 hP hD hS dL_tick_246 (fun H locs hP hD hS => ?_)
                    replace hP : va_P D vwCl (wAR G ad b 20 r246.1 ++ wAR G ad1 b1 8 s140 ++ wAR G ad2 b2 6 w107_1 ++ wAR G ad3 b3 20 v182.2.2.1 ++ wAR G ad4 b4 30 r246.2) H := hP
                    replace hD : va_D A (wAR G ad b 20 r246.1 ++ wAR G ad1 b1 8 s140 ++ wAR G ad2 b2 6 w107_1 ++ wAR G ad3 b3 20 v182.2.2.1 ++ wAR G ad4 b4 30 r246.2) := hD
                    refine lv_aload_n hx hb dL_tick_249 rfl (lv_at hl 0 rfl) ?_
                    refine lv_iconst (v := 3) hx hb dL_tick_250 (by decide) ?_
                    refine z_iald (v := (r246.1 3)) hx hb hK hP 0 0 rfl rfl (z_in rfl) rfl dL_tick_251 ?_
                    refine lv_if_ne (tgt := 258) hx hb dL_tick_252 (by decide) (fun c252 => ?_) (fun c252 => ?_)
                    · replace hf := zi_n hf c252
                      refine lv_aload_n hx hb dL_tick_258 rfl (lv_at hl 0 rfl) ?_
                      refine lv_iconst (v := 3) hx hb dL_tick_259 (by decide) ?_
                      refine lv_dup2_11 hx hb dL_tick_260 rfl rfl ?_
                      refine z_iald (v := (r246.1 3)) hx hb hK hP 0 0 rfl rfl (z_in rfl) rfl dL_tick_261 ?_
                      refine lv_iconst (v := 1) hx hb dL_tick_262 (by decide) ?_
                      refine lv_isub hx hb dL_tick_263 ?_
                      replace hf := zn_s hf
                      obtain ⟨s264, es264, hf⟩ := hf
                      refine z_iast (ws' := wAR G ad b 20 s264 ++ wAR G ad1 b1 8 s140 ++ wAR G ad2 b2 6 w107_1 ++ wAR G ad3 b3 20 v182.2.2.1 ++ wAR G ad4 b4 30 r246.2) hx hb hK hP hD hS 0 0 rfl rfl (z_in rfl) es264 rfl dL_tick_264 (fun H locs hP hD hS => ?_)
                      refine lv_aload_n hx hb dL_tick_265 rfl (lv_at hl 0 rfl) ?_
                      refine lv_bipush (v := 11) hx hb dL_tick_266 (by decide) ?_
                      refine lv_dup2_11 hx hb dL_tick_268 rfl rfl ?_
                      refine z_iald (v := (s264 11)) hx hb hK hP 0 0 rfl rfl (z_in rfl) rfl dL_tick_269 ?_
                      refine lv_iconst (v := 1) hx hb dL_tick_270 (by decide) ?_
                      refine lv_iadd hx hb dL_tick_271 ?_
                      replace hf := zn_s hf
                      obtain ⟨s272, es272, hf⟩ := hf
                      refine z_iast (ws' := wAR G ad b 20 s272 ++ wAR G ad1 b1 8 s140 ++ wAR G ad2 b2 6 w107_1 ++ wAR G ad3 b3 20 v182.2.2.1 ++ wAR G ad4 b4 30 r246.2) hx hb hK hP hD hS 0 0 rfl rfl (z_in rfl) es272 rfl dL_tick_272 (fun H locs hP hD hS => ?_)
                      refine lv_aload_n hx hb dL_tick_273 rfl (lv_at hl 0 rfl) ?_
                      refine lv_iconst (v := 2) hx hb dL_tick_274 (by decide) ?_
                      refine lv_dup2_11 hx hb dL_tick_275 rfl rfl ?_
                      refine z_iald (v := (s272 2)) hx hb hK hP 0 0 rfl rfl (z_in rfl) rfl dL_tick_276 ?_
                      refine lv_iconst (v := 1) hx hb dL_tick_277 (by decide) ?_
                      refine lv_isub hx hb dL_tick_278 ?_
                      replace hf := zn_s hf
                      obtain ⟨s279, es279, hf⟩ := hf
                      refine z_iast (ws' := wAR G ad b 20 s279 ++ wAR G ad1 b1 8 s140 ++ wAR G ad2 b2 6 w107_1 ++ wAR G ad3 b3 20 v182.2.2.1 ++ wAR G ad4 b4 30 r246.2) hx hb hK hP hD hS 0 0 rfl rfl (z_in rfl) es279 rfl dL_tick_279 (fun H locs hP hD hS => ?_)
                      refine lv_iload hx hb dL_tick_280 (lv_at hl 4 rfl) ?_
                      refine lv_istore (lv' := [(7, .int v182.1), (0, .ref (ad b)), (3, .ref (ad3 b3)), (4, .ref (ad4 b4)), (5, .int (s114 5)), (6, .int v182.1)]) hx hb dL_tick_282 hl (by decide) rfl (fun ls hl => ?_)
                      replace hf := zb_s hf
                      obtain ⟨bb284, hz284, hk284⟩ := hf
                      have L284 : ∀ (n284 : Nat) (v284 : Int32 × (Nat → Int32)) (hz284 : zl n284 (q_L_tick_L284 s279) v284 = some bb284) (H : Heap) (locs : List Loc) (hP : va_P D vwCl (wAR G ad b 20 s279 ++ wAR G ad1 b1 8 s140 ++ wAR G ad2 b2 6 w107_1 ++ wAR G ad3 b3 20 v284.2 ++ wAR G ad4 b4 30 r246.2) H) (hD : va_D A (wAR G ad b 20 s279 ++ wAR G ad1 b1 8 s140 ++ wAR G ad2 b2 6 w107_1 ++ wAR G ad3 b3 20 v284.2 ++ wAR G ad4 b4 30 r246.2)) (hS : va_S A s.heap H locs) (ls : Array Slot) (hl : lv_has ls 8 [(0, .ref (ad b)), (3, .ref (ad3 b3)), (4, .ref (ad4 b4)), (5, .int (s114 5)), (6, .int v182.1), (7, .int v284.1)]), W p l e (zRm 2 53) s m args below meth c H locs 0 0 Q (F0 m 284 ls []) := by
                        intro n284
                        induction n284 with
                        | zero => intro v284 hz284; exact (zl_0 hz284).elim
                        | succ n284 ih284 =>
                          intro v284 hz284 H locs hP hD hS ls hl
                          obtain ⟨o284, hf, hz284⟩ := zl_s hz284
                          unfold q_L_tick_L284 at hf
                          refine lv_iload hx hb dL_tick_284 (lv_at hl 5 rfl) ?_
                          refine lv_aload_n hx hb dL_tick_286 rfl (lv_at hl 0 rfl) ?_
                          refine lv_iconst (v := 2) hx hb dL_tick_287 (by decide) ?_
                          refine z_iald (v := (s279 2)) hx hb hK hP 0 0 rfl rfl (z_in rfl) rfl dL_tick_288 ?_
                          refine lv_icmp_ge (tgt := 308) hx hb dL_tick_289 (by decide) (fun c289 => ?_) (fun c289 => ?_)
                          · replace hf := zi_p hf c289
                            have hb284 := (zk_r hf hz284).symm
                            subst hb284
                            replace hf := hk284
                            replace hf := zn_s hf
                            obtain ⟨k308, ek308, hf⟩ := hf
                            refine lv_iinc (v := k308) (lv' := [(6, .int k308), (0, .ref (ad b)), (3, .ref (ad3 b3)), (4, .ref (ad4 b4)), (5, .int (s114 5)), (7, .int v284.1)]) hx hb dL_tick_308 hl (k := 4) rfl ek308.symm (by decide) rfl (fun ls hl => ?_)
                            refine lv_iinc (v := (k308 + 1)) (lv' := [(6, .int (k308 + 1)), (0, .ref (ad b)), (3, .ref (ad3 b3)), (4, .ref (ad4 b4)), (5, .int (s114 5)), (7, .int v284.1)]) hx hb dL_tick_311 hl (k := 0) rfl rfl (by decide) rfl (fun ls hl => ?_)
                            refine lv_goto (tgt := 182) hx hb dL_tick_314 (by decide) ?_
                            exact ih182 _ (zk_l hf hz182) _ _ hP hD hS _ (lv_sub hl [1, 2, 3, 4, 0] rfl)
                          · replace hf := zi_n hf c289
                            refine lv_aload_n hx hb dL_tick_292 rfl (lv_at hl 1 rfl) ?_
                            refine lv_iload hx hb dL_tick_293 (lv_at hl 5 rfl) ?_
                            refine lv_aload_n hx hb dL_tick_295 rfl (lv_at hl 1 rfl) ?_
                            refine lv_iload hx hb dL_tick_296 (lv_at hl 5 rfl) ?_
                            refine lv_iconst (v := 1) hx hb dL_tick_298 (by decide) ?_
                            refine lv_iadd hx hb dL_tick_299 ?_
                            replace hf := zg_s hf
                            obtain ⟨hi300, a300, ea300, hf⟩ := hf
                            refine z_iald hx hb hK hP 3 0 rfl rfl hi300 ea300 dL_tick_300 ?_
                            replace hf := zs_s hf
                            obtain ⟨hi301, s301, es301, hf⟩ := hf
                            refine z_iast (ws' := wAR G ad b 20 s279 ++ wAR G ad1 b1 8 s140 ++ wAR G ad2 b2 6 w107_1 ++ wAR G ad3 b3 20 s301 ++ wAR G ad4 b4 30 r246.2) hx hb hK hP hD hS 3 0 rfl rfl hi301 es301 rfl dL_tick_301 (fun H locs hP hD hS => ?_)
                            refine lv_iinc (v := (v284.1 + 1)) (lv' := [(7, .int (v284.1 + 1)), (0, .ref (ad b)), (3, .ref (ad3 b3)), (4, .ref (ad4 b4)), (5, .int (s114 5)), (6, .int v182.1)]) hx hb dL_tick_302 hl (k := 5) rfl rfl (by decide) rfl (fun ls hl => ?_)
                            refine lv_goto (tgt := 284) hx hb dL_tick_305 (by decide) ?_
                            exact ih284 _ (zk_l hf hz284) _ _ hP hD hS _ (lv_sub hl [1, 2, 3, 4, 5, 0] rfl)
                      exact L284 _ _ hz284 _ _ hP hD hS _ (lv_sub hl [1, 2, 3, 4, 5, 0] rfl)
                    · replace hf := zi_p hf c252
                      refine lv_goto (tgt := 311) hx hb dL_tick_255 (by decide) ?_
                      refine lv_iinc (v := (v182.1 + 1)) (lv' := [(6, .int (v182.1 + 1)), (0, .ref (ad b)), (3, .ref (ad3 b3)), (4, .ref (ad4 b4)), (5, .int (s114 5))]) hx hb dL_tick_311 hl (k := 4) rfl rfl (by decide) rfl (fun ls hl => ?_)
                      refine lv_goto (tgt := 182) hx hb dL_tick_314 (by decide) ?_
                      exact ih182 _ (zk_l hf hz182) _ _ hP hD hS _ (lv_sub hl [1, 2, 3, 4, 0] rfl)
                  refine lv_if_le (tgt := 240) hx hb dL_tick_233 (by decide) (fun c233 => ?_) (fun c233 => ?_)
                  · replace hf := zi_p hf c233
                    refine lv_iconst (v := 5) hx hb dL_tick_240 (by decide) ?_
                    exact J241 5 hf _ _ hP hD hS _ (lv_sub hl [0, 1, 2, 3, 4] rfl)
                  · replace hf := zi_n hf c233
                    refine lv_iconst (v := 4) hx hb dL_tick_236 (by decide) ?_
                    refine lv_goto (tgt := 241) hx hb dL_tick_237 (by decide) ?_
                    exact J241 4 hf _ _ hP hD hS _ (lv_sub hl [0, 1, 2, 3, 4] rfl)
                · replace hf := zi_n hf c216
                  refine lv_aload_n hx hb dL_tick_219 rfl (lv_at hl 1 rfl) ?_
                  refine lv_iload hx hb dL_tick_220 (lv_at hl 4 rfl) ?_
                  refine lv_dup2_11 hx hb dL_tick_222 rfl rfl ?_
                  replace hf := zg_s hf
                  obtain ⟨hi223, a223, ea223, hf⟩ := hf
                  refine z_iald hx hb hK hP 3 0 rfl rfl hi223 ea223 dL_tick_223 ?_
                  refine lv_iconst (v := 1) hx hb dL_tick_224 (by decide) ?_
                  refine lv_iadd hx hb dL_tick_225 ?_
                  replace hf := zs_s hf
                  obtain ⟨hi226, s226, es226, hf⟩ := hf
                  refine z_iast (ws' := wAR G ad b 20 v182.2.1 ++ wAR G ad1 b1 8 s140 ++ wAR G ad2 b2 6 w107_1 ++ wAR G ad3 b3 20 s226 ++ wAR G ad4 b4 30 v182.2.2.2) hx hb hK hP hD hS 3 0 rfl rfl hi226 es226 rfl dL_tick_226 (fun H locs hP hD hS => ?_)
                  refine lv_goto (tgt := 311) hx hb dL_tick_227 (by decide) ?_
                  refine lv_iinc (v := (v182.1 + 1)) (lv' := [(6, .int (v182.1 + 1)), (0, .ref (ad b)), (3, .ref (ad3 b3)), (4, .ref (ad4 b4)), (5, .int (s114 5))]) hx hb dL_tick_311 hl (k := 4) rfl rfl (by decide) rfl (fun ls hl => ?_)
                  refine lv_goto (tgt := 182) hx hb dL_tick_314 (by decide) ?_
                  exact ih182 _ (zk_l hf hz182) _ _ hP hD hS _ (lv_sub hl [1, 2, 3, 4, 0] rfl)
              · replace hf := zi_n hf c199
                refine lv_goto (tgt := 311) hx hb dL_tick_202 (by decide) ?_
                refine lv_iinc (v := (v182.1 + 1)) (lv' := [(6, .int (v182.1 + 1)), (0, .ref (ad b)), (3, .ref (ad3 b3)), (4, .ref (ad4 b4)), (5, .int (s114 5))]) hx hb dL_tick_311 hl (k := 4) rfl rfl (by decide) rfl (fun ls hl => ?_)
                refine lv_goto (tgt := 182) hx hb dL_tick_314 (by decide) ?_
                exact ih182 _ (zk_l hf hz182) _ _ hP hD hS _ (lv_sub hl [1, 2, 3, 4, 0] rfl)
        exact L182 _ _ hz182 _ _ hP hD hS _ (lv_sub hl [2, 4, 5, 1, 0] rfl)
      · replace hf := zi_n hf c123
        refine lv_bipush (v := (-6)) hx hb dL_tick_126 (by decide) ?_
        obtain rfl := zo hf
        exact hret _ _ _ _ _ hP hD hS rfl dL_tick_128
    refine lv_if_ge (tgt := 107) hx hb dL_tick_30 (by decide) (fun c30 => ?_) (fun c30 => ?_)
    · replace hf := zi_p hf c30
      exact J107 s6 u2 u4 hf _ _ hP hD hS _ (lv_sub hl [0, 1, 3, 4] rfl)
    · replace hf := zi_n hf c30
      refine lv_aload_n hx hb dL_tick_33 rfl (lv_at hl 0 rfl) ?_
      refine lv_aload_n hx hb dL_tick_34 rfl (lv_at hl 1 rfl) ?_
      refine lv_aload_n hx hb dL_tick_35 rfl (lv_at hl 2 rfl) ?_
      refine lv_aload_n hx hb dL_tick_36 rfl (lv_at hl 3 rfl) ?_
      replace hf := zb_s hf
      obtain ⟨r37, hr37, hf⟩ := hf
      refine z_GSi (rest := []) C0 kL_16 (c_L_next l D G ad (b) ad1 (b1) ad2 (b2) ad3 (b3) s6 u1 u2 u3 r37 hr37) pz_5_0_1_2_3 pz_5_0_1_2_3.symm rfl ⟨Nat.le_of_ble_eq_true rfl, Nat.le_of_ble_eq_true rfl⟩ (Nat.le_of_ble_eq_true rfl) ⟨Nat.le_of_ble_eq_true rfl, Nat.le_of_ble_eq_true rfl⟩ rfl hl.1 hP hD hS dL_tick_37 (fun H locs hP hD hS => ?_)
      refine lv_istore (lv' := [(5, .int r37), (0, .ref (ad b)), (1, .ref (ad1 b1)), (2, .ref (ad2 b2)), (3, .ref (ad3 b3)), (4, .ref (ad4 b4))]) hx hb dL_tick_40 hl (by decide) rfl (fun ls hl => ?_)
      refine lv_iload hx hb dL_tick_42 (lv_at hl 0 rfl) ?_
      refine lv_if_ge (tgt := 50) hx hb dL_tick_44 (by decide) (fun c44 => ?_) (fun c44 => ?_)
      · replace hf := zi_p hf c44
        refine lv_aload_n hx hb dL_tick_50 rfl (lv_at hl 1 rfl) ?_
        refine lv_bipush (v := 8) hx hb dL_tick_51 (by decide) ?_
        refine z_iald (v := (s6 8)) hx hb hK hP 0 0 rfl rfl (z_in rfl) rfl dL_tick_53 ?_
        have J63 : ∀ (w63_0 : Nat → Int32) (w63_1 : Nat → Int32) (hf : q_L_tick_J63 u1 u3 u4 r37 w63_0 w63_1 = some res) (H : Heap) (locs : List Loc) (hP : va_P D vwCl (wAR G ad b 20 w63_0 ++ wAR G ad1 b1 8 u1 ++ wAR G ad2 b2 6 w63_1 ++ wAR G ad3 b3 20 u3 ++ wAR G ad4 b4 30 u4) H) (hD : va_D A (wAR G ad b 20 w63_0 ++ wAR G ad1 b1 8 u1 ++ wAR G ad2 b2 6 w63_1 ++ wAR G ad3 b3 20 u3 ++ wAR G ad4 b4 30 u4)) (hS : va_S A s.heap H locs) (ls : Array Slot) (hl : lv_has ls 8 [(0, .ref (ad b)), (1, .ref (ad1 b1)), (3, .ref (ad3 b3)), (4, .ref (ad4 b4)), (5, .int r37)]), W p l e (zRm 2 53) s m args below meth c H locs 0 0 Q (F0 m 63 ls []) := by
          intro w63_0 w63_1 hf H locs hP hD hS ls hl
          unfold q_L_tick_J63 at hf
          refine lv_aload_n hx hb dL_tick_63 rfl (lv_at hl 0 rfl) ?_
          refine lv_iconst (v := 5) hx hb dL_tick_64 (by decide) ?_
          refine lv_iload hx hb dL_tick_65 (lv_at hl 4 rfl) ?_
          replace hf := zn_s hf
          obtain ⟨s67, es67, hf⟩ := hf
          refine z_iast (ws' := wAR G ad b 20 s67 ++ wAR G ad1 b1 8 u1 ++ wAR G ad2 b2 6 w63_1 ++ wAR G ad3 b3 20 u3 ++ wAR G ad4 b4 30 u4) hx hb hK hP hD hS 0 0 rfl rfl (z_in rfl) es67 rfl dL_tick_67 (fun H locs hP hD hS => ?_)
          refine lv_aload_n hx hb dL_tick_68 rfl (lv_at hl 0 rfl) ?_
          refine lv_bipush (v := 6) hx hb dL_tick_69 (by decide) ?_
          refine lv_iconst (v := 0) hx hb dL_tick_71 (by decide) ?_
          replace hf := zn_s hf
          obtain ⟨s72, es72, hf⟩ := hf
          refine z_iast (ws' := wAR G ad b 20 s72 ++ wAR G ad1 b1 8 u1 ++ wAR G ad2 b2 6 w63_1 ++ wAR G ad3 b3 20 u3 ++ wAR G ad4 b4 30 u4) hx hb hK hP hD hS 0 0 rfl rfl (z_in rfl) es72 rfl dL_tick_72 (fun H locs hP hD hS => ?_)
          refine lv_aload_n hx hb dL_tick_73 rfl (lv_at hl 0 rfl) ?_
          refine lv_bipush (v := 7) hx hb dL_tick_74 (by decide) ?_
          refine lv_aload_n hx hb dL_tick_76 rfl (lv_at hl 0 rfl) ?_
          refine lv_bipush (v := 16) hx hb dL_tick_77 (by decide) ?_
          refine z_iald (v := (s72 16)) hx hb hK hP 0 0 rfl rfl (z_in rfl) rfl dL_tick_79 ?_
          refine lv_aload_n hx hb dL_tick_80 rfl (lv_at hl 0 rfl) ?_
          refine lv_bipush (v := 17) hx hb dL_tick_81 (by decide) ?_
          refine z_iald (v := (s72 17)) hx hb hK hP 0 0 rfl rfl (z_in rfl) rfl dL_tick_83 ?_
          refine lv_iload hx hb dL_tick_84 (lv_at hl 4 rfl) ?_
          refine lv_aload_n hx hb dL_tick_86 rfl (lv_at hl 0 rfl) ?_
          refine lv_bipush (v := 18) hx hb dL_tick_87 (by decide) ?_
          refine z_iald (v := (s72 18)) hx hb hK hP 0 0 rfl rfl (z_in rfl) rfl dL_tick_89 ?_
          refine lv_aload_n hx hb dL_tick_90 rfl (lv_at hl 0 rfl) ?_
          refine lv_aload_n hx hb dL_tick_91 rfl (lv_at hl 2 rfl) ?_
          replace hf := zb_s hf
          obtain ⟨r92, hr92, hf⟩ := hf
          refine z_GSi (rest := [.int (s72 17), .int (s72 16), .int 7, .ref (ad b)]) C0 kL_10 (c_L_sum l D G ad (b) ad3 (b3) s72 u3 r37 (s72 18) r92 hr92) pz_5_0_3 pz_5_0_3.symm rfl ⟨Nat.le_of_ble_eq_true rfl, Nat.le_of_ble_eq_true rfl⟩ (Nat.le_of_ble_eq_true rfl) ⟨Nat.le_of_ble_eq_true rfl, Nat.le_of_ble_eq_true rfl⟩ rfl hl.1 hP hD hS dL_tick_92 (fun H locs hP hD hS => ?_)
          refine lv_imul hx hb dL_tick_95 ?_
          refine lv_iadd hx hb dL_tick_96 ?_
          replace hf := zn_s hf
          obtain ⟨s97, es97, hf⟩ := hf
          refine z_iast (ws' := wAR G ad b 20 s97 ++ wAR G ad1 b1 8 u1 ++ wAR G ad2 b2 6 w63_1 ++ wAR G ad3 b3 20 u3 ++ wAR G ad4 b4 30 u4) hx hb hK hP hD hS 0 0 rfl rfl (z_in rfl) es97 rfl dL_tick_97 (fun H locs hP hD hS => ?_)
          refine lv_iconst (v := 1) hx hb dL_tick_98 (by decide) ?_
          refine lv_iload hx hb dL_tick_99 (lv_at hl 4 rfl) ?_
          refine lv_aload_n hx hb dL_tick_101 rfl (lv_at hl 0 rfl) ?_
          refine lv_aload hx hb dL_tick_102 (lv_at hl 3 rfl) ?_
          replace hf := zb_s hf
          obtain ⟨r104, hr104, hf⟩ := hf
          refine z_GSv (rest := []) C0 kL_24 (c_L_log l D G ad (b) ad4 (b4) s97 u4 1 r37 r104 hr104) pz_5_0_4 pz_5_0_4.symm rfl ⟨Nat.le_of_ble_eq_true rfl, Nat.le_of_ble_eq_true rfl⟩ (Nat.le_of_ble_eq_true rfl) ⟨Nat.le_of_ble_eq_true rfl, Nat.le_of_ble_eq_true rfl⟩ rfl hl.1 hP hD hS dL_tick_104 (fun H locs hP hD hS => ?_)
          replace hP : va_P D vwCl (wAR G ad b 20 r104.1 ++ wAR G ad1 b1 8 u1 ++ wAR G ad2 b2 6 w63_1 ++ wAR G ad3 b3 20 u3 ++ wAR G ad4 b4 30 r104.2) H := hP
          replace hD : va_D A (wAR G ad b 20 r104.1 ++ wAR G ad1 b1 8 u1 ++ wAR G ad2 b2 6 w63_1 ++ wAR G ad3 b3 20 u3 ++ wAR G ad4 b4 30 r104.2) := hD
          exact J107 r104.1 w63_1 r104.2 hf _ _ hP hD hS _ (lv_sub hl [0, 1, 2, 3] rfl)
        refine lv_if_le (tgt := 63) hx hb dL_tick_54 (by decide) (fun c54 => ?_) (fun c54 => ?_)
        · replace hf := zi_p hf c54
          exact J63 s6 u2 hf _ _ hP hD hS _ (lv_sub hl [1, 2, 4, 5, 0] rfl)
        · replace hf := zi_n hf c54
          refine lv_iconst (v := 0) hx hb dL_tick_57 (by decide) ?_
          refine lv_aload_n hx hb dL_tick_58 rfl (lv_at hl 1 rfl) ?_
          refine lv_aload_n hx hb dL_tick_59 rfl (lv_at hl 3 rfl) ?_
          replace hf := zb_s hf
          obtain ⟨r60, hr60, hf⟩ := hf
          refine z_GSv (rest := []) C0 kL_20 (c_L_drop l D G ad (b) ad2 (b2) s6 u2 0 r60 hr60) pz_5_0_2 pz_5_0_2.symm rfl ⟨Nat.le_of_ble_eq_true rfl, Nat.le_of_ble_eq_true rfl⟩ (Nat.le_of_ble_eq_true rfl) ⟨Nat.le_of_ble_eq_true rfl, Nat.le_of_ble_eq_true rfl⟩ rfl hl.1 hP hD hS dL_tick_60 (fun H locs hP hD hS => ?_)
          replace hP : va_P D vwCl (wAR G ad b 20 r60.1 ++ wAR G ad1 b1 8 u1 ++ wAR G ad2 b2 6 r60.2 ++ wAR G ad3 b3 20 u3 ++ wAR G ad4 b4 30 u4) H := hP
          replace hD : va_D A (wAR G ad b 20 r60.1 ++ wAR G ad1 b1 8 u1 ++ wAR G ad2 b2 6 r60.2 ++ wAR G ad3 b3 20 u3 ++ wAR G ad4 b4 30 u4) := hD
          exact J63 r60.1 r60.2 hf _ _ hP hD hS _ (lv_sub hl [1, 2, 4, 5, 0] rfl)
      · replace hf := zi_n hf c44
        refine lv_bipush (v := (-6)) hx hb dL_tick_47 (by decide) ?_
        obtain rfl := zo hf
        exact hret _ _ _ _ _ hP hD hS rfl dL_tick_49
  · replace hf := zi_n hf c14
    refine lv_aload_n hx hb dL_tick_17 rfl (lv_at hl 0 rfl) ?_
    refine lv_iconst (v := 1) hx hb dL_tick_18 (by decide) ?_
    refine lv_dup2_11 hx hb dL_tick_19 rfl rfl ?_
    refine z_iald (v := (s6 1)) hx hb hK hP 0 0 rfl rfl (z_in rfl) rfl dL_tick_20 ?_
    refine lv_iconst (v := 1) hx hb dL_tick_21 (by decide) ?_
    refine lv_iadd hx hb dL_tick_22 ?_
    replace hf := zn_s hf
    obtain ⟨s23, es23, hf⟩ := hf
    refine z_iast (ws' := wAR G ad b 20 s23 ++ wAR G ad1 b1 8 u1 ++ wAR G ad2 b2 6 u2 ++ wAR G ad3 b3 20 u3 ++ wAR G ad4 b4 30 u4) hx hb hK hP hD hS 0 0 rfl rfl (z_in rfl) es23 rfl dL_tick_23 (fun H locs hP hD hS => ?_)
    refine lv_bipush (v := (-6)) hx hb dL_tick_24 (by decide) ?_
    obtain rfl := zo hf
    exact hret _ _ _ _ _ hP hD hS rfl dL_tick_26
